/-! What the constructors leave. -/
def rowF (cJ : ClassId) (r : Nat) (E : Nat → va_E) : Prop := E r = rowO r (-1) ∧ E (r + 1) = rowA cJ (fun _ => 0)
theorem rowF.keep {cJ : ClassId} {r : Nat} {E E' : Nat → va_E} (h : rowF cJ r E) (hk : ∀ q, r ≤ q → q < r + 2 → E' q = E q) : rowF cJ r E' := ⟨(hk r (by omega) (by omega)).trans h.1, (hk (r + 1) (by omega) (by omega)).trans h.2⟩
def partsAt (cJ cI cR : ClassId) (a : Nat) (E : Nat → va_E) : Prop := E a = .inr (1, [.ref (a + 1), .ref (a + 14), .int 0, .int 0]) ∧ freshAt cJ cR (a + 1) 6 E ∧ E (a + 14) = .inl (cI, 6, .inl (fun _ => 0))
theorem partsAt.keep {cJ cI cR : ClassId} {a : Nat} {E E' : Nat → va_E} (h : partsAt cJ cI cR a E) (hk : ∀ q, a ≤ q → q < a + 15 → E' q = E q) : partsAt cJ cI cR a E' := ⟨(hk a (by omega) (by omega)).trans h.1, h.2.1.keep (fun q h1 h2 => hk q (by omega) (by omega)), (hk (a + 14) (by omega) (by omega)).trans h.2.2⟩
def residuesAt (cJ : ClassId) (a : Nat) (E : Nat → va_E) : Prop := E a = .inr (2, [.long 2, .ref (a + 1), .ref (a + 2), .ref (a + 4)]) ∧ E (a + 1) = rowA cJ (fun _ => 0) ∧ rowF cJ (a + 2) E ∧ rowF cJ (a + 4) E
theorem residuesAt.keep {cJ : ClassId} {a : Nat} {E E' : Nat → va_E} (h : residuesAt cJ a E) (hk : ∀ q, a ≤ q → q < a + 6 → E' q = E q) : residuesAt cJ a E' := ⟨(hk a (by omega) (by omega)).trans h.1, (hk (a + 1) (by omega) (by omega)).trans h.2.1, h.2.2.1.keep (fun q h1 h2 => hk q (by omega) (by omega)), h.2.2.2.keep (fun q h1 h2 => hk q (by omega) (by omega))⟩
def splitterAt (cJ cR : ClassId) (a : Nat) (E : Nat → va_E) : Prop := E a = .inr (4, [.ref (a + 1), .ref (a + 7), .ref (a + 9), .ref (a + 11), .ref (a + 13), .ref (a + 15), .ref (a + 17), .ref (a + 26), .ref (a + 41), .int 0]) ∧ residuesAt cJ (a + 1) E ∧ rowF cJ (a + 7) E ∧ rowF cJ (a + 9) E ∧ rowF cJ (a + 11) E ∧ rowF cJ (a + 13) E ∧ rowF cJ (a + 15) E ∧ freshAt cJ cR (a + 17) 4 E ∧ freshAt cJ cR (a + 26) 7 E ∧ freshAt cJ cR (a + 41) 6 E
theorem splitterAt.keep {cJ cR : ClassId} {a : Nat} {E E' : Nat → va_E} (h : splitterAt cJ cR a E) (hk : ∀ q, a ≤ q → q < a + 54 → E' q = E q) : splitterAt cJ cR a E' := by
  obtain ⟨h0, h1, h2, h3, h4, h5, h6, h7, h8, h9⟩ := h
  exact ⟨(hk a (by omega) (by omega)).trans h0, h1.keep (fun q _ _ => hk q (by omega) (by omega)), h2.keep (fun q _ _ => hk q (by omega) (by omega)), h3.keep (fun q _ _ => hk q (by omega) (by omega)), h4.keep (fun q _ _ => hk q (by omega) (by omega)), h5.keep (fun q _ _ => hk q (by omega) (by omega)), h6.keep (fun q _ _ => hk q (by omega) (by omega)), h7.keep (fun q _ _ => hk q (by omega) (by omega)), h8.keep (fun q _ _ => hk q (by omega) (by omega)), h9.keep (fun q _ _ => hk q (by omega) (by omega))⟩
def factoringAt (cJ cI cR : ClassId) (a : Nat) (E : Nat → va_E) : Prop := E a = .inr (0, [.ref (a + 1), .ref (a + 2), .ref (a + 55), .ref (a + 57), .ref (a + 59), .ref (a + 61), .ref (a + 63), .ref (a + 65), .ref (a + 67), .ref (a + 69)]) ∧ splitterAt cJ cR (a + 1) E ∧ rowF cJ (a + 55) E ∧ rowF cJ (a + 57) E ∧ rowF cJ (a + 59) E ∧ rowF cJ (a + 61) E ∧ rowF cJ (a + 63) E ∧ rowF cJ (a + 65) E ∧ rowF cJ (a + 67) E ∧ partsAt cJ cI cR (a + 69) E
theorem factoringAt.keep {cJ cI cR : ClassId} {a : Nat} {E E' : Nat → va_E} (h : factoringAt cJ cI cR a E) (hk : ∀ q, a ≤ q → q < a + 84 → E' q = E q) : factoringAt cJ cI cR a E' := by
  obtain ⟨h0, h1, h2, h3, h4, h5, h6, h7, h8, h9⟩ := h
  exact ⟨(hk a (by omega) (by omega)).trans h0, h1.keep (fun q _ _ => hk q (by omega) (by omega)), h2.keep (fun q _ _ => hk q (by omega) (by omega)), h3.keep (fun q _ _ => hk q (by omega) (by omega)), h4.keep (fun q _ _ => hk q (by omega) (by omega)), h5.keep (fun q _ _ => hk q (by omega) (by omega)), h6.keep (fun q _ _ => hk q (by omega) (by omega)), h7.keep (fun q _ _ => hk q (by omega) (by omega)), h8.keep (fun q _ _ => hk q (by omega) (by omega)), h9.keep (fun q _ _ => hk q (by omega) (by omega))⟩
def deskAt (cJ cI cR : ClassId) (a : Nat) (E : Nat → va_E) : Prop := E a = .inr (5, [.ref (a + 1), .ref (a + 18), .ref (a + 20), .ref (a + 22), .ref (a + 24), .ref (a + 39), .int 0, .ref (a + 40), .ref (a + 41)]) ∧ freshAt cJ cR (a + 1) 8 E ∧ rowF cJ (a + 18) E ∧ rowF cJ (a + 20) E ∧ rowF cJ (a + 22) E ∧ partsAt cJ cI cR (a + 24) E ∧ E (a + 39) = .inl (cI, 6, .inl (fun _ => 0)) ∧ factoringAt cJ cI cR (a + 40) E
theorem deskAt.keep {cJ cI cR : ClassId} {a : Nat} {E E' : Nat → va_E} (h : deskAt cJ cI cR a E) (hk : ∀ q, a ≤ q → q < a + 124 → E' q = E q) : deskAt cJ cI cR a E' := by
  obtain ⟨h0, h1, h2, h3, h4, h5, h6, h7⟩ := h
  exact ⟨(hk a (by omega) (by omega)).trans h0, h1.keep (fun q _ _ => hk q (by omega) (by omega)), h2.keep (fun q _ _ => hk q (by omega) (by omega)), h3.keep (fun q _ _ => hk q (by omega) (by omega)), h4.keep (fun q _ _ => hk q (by omega) (by omega)), h5.keep (fun q _ _ => hk q (by omega) (by omega)), (hk (a + 39) (by omega) (by omega)).trans h6, h7.keep (fun q _ _ => hk q (by omega) (by omega))⟩

set_option maxHeartbeats 400000 in
set_option maxRecDepth 100000 in
/-- PartList() -/
theorem c_PartList_new (l : Launch) (D : va_G) (cJ cI cR : ClassId) (b : Nat) (E : Nat → va_E) (sz k : Nat) (hsz0 : sz = b + (k + 1)) (hthis : E (b + k) = .inr (1, [.null, .null, .int 0, .int 0])) : Met l yX2_init wsX2_init { frames := 3, cells := 14, slots := 102, locals := 54 } (cP D vwCl (tys3 cJ cI cR) b (k + 1) E sz [.ref (b + k)]) (cQm D vwCl (tys3 cJ cI cR) b (k + 15) (fun E' => partsAt cJ cI cR (b + k) E' ∧ ∀ a, a < b + k → E' a = E a)) 14 102 (PA b) := by
  refine Met.ofW (cc := cX2_init) (maxL := 1) (ret := none) (by decide) rfl ?_
  intro p e s m args below meth c s₁ B hml hv
  obtain ⟨rfl, hsz, hB⟩ := hv
  have hx := B.exec
  have hb := B.bytes
  have hret := B.returns
  have hts := atoms_spec (ws := wsX2_init) B.pre
  have hown : s.vm.findClass RX2 = some m.cls := findClass_of_methodNamed B.named
  have hlocks := B.notSynchronized
  have hin : meth.name = "<init>" := (name_of_methodNamed B.named B.method).1
  subst hsz
  have hz := PS.start hB
  have hl := lv_entry ([.ref (b + k)]) (n := 1) (Nat.le_of_ble_eq_true rfl)
  rw [lg_entry_eq]
  generalize (lg_sl ([.ref (b + k)]) ++ List.replicate (1 - (lg_sl ([.ref (b + k)])).length) Slot.unset).toArray = ls at hl ⊢
  have hl : lv_has ls 1 [(0, .ref (b + k))] := hl
  have hw0 := hts (.methodLink RX2 3 objectInit) (by decide +kernel)
  have hw1 := hts (.instanceMethod objectInit) (by decide +kernel)
  have hw2 := hts (.code objectInit ⟨#[0xb1]⟩ 1 none) (List.mem_of_getElem? (i := 3) rfl)
  have hw3 := hts (.initialized RX6) (by decide +kernel)
  have hw4 := hts (.static yX6_freshRows) (by decide +kernel)
  have hw5 : ∀ w ∈ u_ws RX2 TX2 4, w ∈ wsX2_init := by decide +kernel
  have hw6 := hts (.fieldLink RX2 13 "GaloisDesk$PartList" "rows" "[LGaloisDesk$Row;") (by decide +kernel)
  have hw7 := hts (.arrayClass .int) (by decide +kernel)
  have hw8 := hts (.fieldLink RX2 19 "GaloisDesk$PartList" "often" "[I") (by decide +kernel)
  have hw9 := hts (.fieldLink RX2 23 "GaloisDesk$PartList" "count" "I") (by decide +kernel)
  have hw10 := hts (.fieldLink RX2 27 "GaloisDesk$PartList" "number" "I") (by decide +kernel)
  have hH : s.heap.size = b + (k + 1) := hsz0
  refine lv_aload_n hx hb dX2_init_0 rfl (lv_at hl 0 rfl) ?_
  refine W.objInit hx hb hown hw0 hw1 hw2 rfl (by rw [hml]; exact hl.1) rfl dX2_init_1 (Nat.le_of_ble_eq_true rfl) (Nat.le_of_ble_eq_true rfl) ?_
  refine W.eq (g2 := F0 m 4 ls []) rfl ?_
  refine lv_aload_n hx hb dX2_init_4 rfl (lv_at hl 0 rfl) ?_
  refine lv_bipush (v := 6) hx hb dX2_init_5 (by decide) ?_
  refine pw_callr hz (va_runSN (As := [.int 6]) (rest := [.ref (b + k)]) ⟨hx, hb, hml, hown, hts⟩ (c_freshRows l D cJ cI cR b _ _ (k + 1) 6 (by decide) hH) ⟨va_cnB 1 hts gX2_init_X6_freshRows_n9 rfl rfl rfl hz.2.2.2.2.2.1.2.2.2.1 hw3 (by decide +kernel) ⟨Nat.le_of_ble_eq_true rfl, Nat.le_of_ble_eq_true rfl⟩, hw4, trivial⟩ hz.preS rfl rfl hl.1 rfl (lv_room (Nat.le_of_ble_eq_true rfl)) dX2_init_7 ⟨Nat.le_of_ble_eq_true rfl, Nat.le_of_ble_eq_true rfl⟩) (fun ra E1 H locs hp1 hz hH => ?_)
  have hz : PS D vwCl (tys3 cJ cI cR) b (k + 14) s E1 H locs := hz
  have hH : H.size = b + (k + 14) := hH
  obtain ⟨rfl, hp1⟩ := hp1
  obtain ⟨f1, q1⟩ := hp1
  refine pw_putFS (C := RX2) (T := TX2) (N := 4) (ci := 1) (ty := .array (.object "GaloisDesk$Row")) (v := .ref (b + (k + 1))) hx hb hts hw5 tyX2 tyX2_ok nmX2 hown hz hH (by omega) ((q1 _ (lt_lt (Nat.le_of_ble_eq_true rfl))).trans hthis) rfl 0 (by decide) hw6 (fun _ h9 => h9) rfl hin rfl (by decide +kernel) rfl rfl (Nat.le_of_ble_eq_true rfl) dX2_init_10 (fun H locs hz hH => ?_)
  obtain ⟨E2, hE2⟩ : ∃ X, X = va_up E1 (b + k) (.inr (1, [.ref (b + (k + 1)), .null, .int 0, .int 0])) := ⟨_, rfl⟩
  have hz : PS D vwCl (tys3 cJ cI cR) b (k + 14) s E2 H locs := by rw [hE2]; exact hz
  have q2 : ∀ a : Nat, a ≠ (b + k) → E2 a = E1 a := fun a h => by rw [hE2]; exact va_up_ne _ _ h
  have p2 : E2 (b + k) = .inr (1, [.ref (b + (k + 1)), .null, .int 0, .int 0]) := by rw [hE2]; exact va_up_self _ _ _
  refine lv_aload_n hx hb dX2_init_13 rfl (lv_at hl 0 rfl) ?_
  refine lv_bipush (v := 6) hx hb dX2_init_14 (by decide) ?_
  refine pw_newa (atype := .int) (ty := .int) (N' := 6) (a0 := (6, .inl (fun _ => 0))) hx hb hw7 rfl hz hH 1 rfl (fun _ h => by cases h) (fun cA => by rw [vp_cell_i]; rfl) (by decide +kernel) (by decide +kernel) (by show 6 * 4 ≤ 536870912; omega) (Nat.le_of_ble_eq_true rfl) (Nat.le_of_ble_eq_true rfl) dX2_init_16 (fun H hz hH => ?_)
  have hH : H.size = b + (k + 15) := hH
  obtain ⟨E3, hE3⟩ : ∃ X, X = va_up E2 (b + (k + 14)) (.inl (cI, 6, .inl (fun _ => 0))) := ⟨_, rfl⟩
  have hz : PS D vwCl (tys3 cJ cI cR) b (k + 15) s E3 H locs := by rw [hE3]; exact hz
  have q3 : ∀ a : Nat, a ≠ (b + (k + 14)) → E3 a = E2 a := fun a h => by rw [hE3]; exact va_up_ne _ _ h
  have p3 : E3 (b + (k + 14)) = .inl (cI, 6, .inl (fun _ => 0)) := by rw [hE3]; exact va_up_self _ _ _
  refine pw_putFS (C := RX2) (T := TX2) (N := 4) (ci := 1) (ty := .array .int) (v := .ref (b + (k + 14))) hx hb hts hw5 tyX2 tyX2_ok nmX2 hown hz hH (by omega) ((q3 _ (lt_ne (Nat.le_of_ble_eq_true rfl))).trans p2) rfl 1 (by decide) hw8 (fun _ h9 => h9) rfl hin rfl (by decide +kernel) rfl rfl (Nat.le_of_ble_eq_true rfl) dX2_init_18 (fun H locs hz hH => ?_)
  obtain ⟨E4, hE4⟩ : ∃ X, X = va_up E3 (b + k) (.inr (1, [.ref (b + (k + 1)), .ref (b + (k + 14)), .int 0, .int 0])) := ⟨_, rfl⟩
  have hz : PS D vwCl (tys3 cJ cI cR) b (k + 15) s E4 H locs := by rw [hE4]; exact hz
  have q4 : ∀ a : Nat, a ≠ (b + k) → E4 a = E3 a := fun a h => by rw [hE4]; exact va_up_ne _ _ h
  have p4 : E4 (b + k) = .inr (1, [.ref (b + (k + 1)), .ref (b + (k + 14)), .int 0, .int 0]) := by rw [hE4]; exact va_up_self _ _ _
  refine lv_aload_n hx hb dX2_init_21 rfl (lv_at hl 0 rfl) ?_
  refine lv_iconst (v := 0) hx hb dX2_init_22 (by decide) ?_
  refine pw_putS (C := RX2) (T := TX2) (N := 4) (ci := 1) (ty := .int) (v := .int 0) hx hb hts hw5 tyX2 tyX2_ok nmX2 hown hz hH (by omega) p4 rfl 2 (by decide) hw9 (fun _ h9 => h9) rfl (by decide +kernel) rfl rfl (Nat.le_of_ble_eq_true rfl) dX2_init_23 (fun H locs hz hH => ?_)
  obtain ⟨E5, hE5⟩ : ∃ X, X = va_up E4 (b + k) (.inr (1, [.ref (b + (k + 1)), .ref (b + (k + 14)), .int 0, .int 0])) := ⟨_, rfl⟩
  have hz : PS D vwCl (tys3 cJ cI cR) b (k + 15) s E5 H locs := by rw [hE5]; exact hz
  have q5 : ∀ a : Nat, a ≠ (b + k) → E5 a = E4 a := fun a h => by rw [hE5]; exact va_up_ne _ _ h
  have p5 : E5 (b + k) = .inr (1, [.ref (b + (k + 1)), .ref (b + (k + 14)), .int 0, .int 0]) := by rw [hE5]; exact va_up_self _ _ _
  refine lv_aload_n hx hb dX2_init_26 rfl (lv_at hl 0 rfl) ?_
  refine lv_iconst (v := 0) hx hb dX2_init_27 (by decide) ?_
  refine pw_putS (C := RX2) (T := TX2) (N := 4) (ci := 1) (ty := .int) (v := .int 0) hx hb hts hw5 tyX2 tyX2_ok nmX2 hown hz hH (by omega) p5 rfl 3 (by decide) hw10 (fun _ h9 => h9) rfl (by decide +kernel) rfl rfl (Nat.le_of_ble_eq_true rfl) dX2_init_28 (fun H locs hz hH => ?_)
  obtain ⟨E6, hE6⟩ : ∃ X, X = va_up E5 (b + k) (.inr (1, [.ref (b + (k + 1)), .ref (b + (k + 14)), .int 0, .int 0])) := ⟨_, rfl⟩
  have hz : PS D vwCl (tys3 cJ cI cR) b (k + 15) s E6 H locs := by rw [hE6]; exact hz
  have q6 : ∀ a : Nat, a ≠ (b + k) → E6 a = E5 a := fun a h => by rw [hE6]; exact va_up_ne _ _ h
  have p6 : E6 (b + k) = .inr (1, [.ref (b + (k + 1)), .ref (b + (k + 14)), .int 0, .int 0]) := by rw [hE6]; exact va_up_self _ _ _
  have kc0 := p6
  rw [(Nat.add_assoc b k 14).symm] at kc0
  rw [(Nat.add_assoc b k 1).symm] at kc0
  have k1 := f1.keep (fun q h1 h2 => have hq1 : q ≠ b + k := kp_ne h1 (Nat.le_of_ble_eq_true rfl); have hq2 : q < b + (k + 14) := kp_ltf h2 (Nat.le_of_ble_eq_true rfl); ((q6 q hq1).trans ((q5 q hq1).trans ((q4 q hq1).trans ((q3 q (lu_ne hq2 (Nat.le_of_ble_eq_true rfl))).trans (q2 q hq1))))))
  rw [(Nat.add_assoc b k 1).symm] at k1
  have kc14 := ((q6 _ (lc_nt (Nat.le_of_ble_eq_true rfl))).trans ((q5 _ (lc_nt (Nat.le_of_ble_eq_true rfl))).trans ((q4 _ (lc_nt (Nat.le_of_ble_eq_true rfl))).trans p3)))
  rw [(Nat.add_assoc b k 14).symm] at kc14
  exact pw_mret hx hb hret hlocks hz hH (⟨⟨kc0, k1, kc14⟩, fun a h => ((q6 a (Nat.ne_of_lt h)).trans ((q5 a (Nat.ne_of_lt h)).trans ((q4 a (Nat.ne_of_lt h)).trans ((q3 a (lu_ne0 h)).trans ((q2 a (Nat.ne_of_lt h)).trans (q1 a (lu_lt0 h)))))))⟩) dX2_init_31

set_option maxHeartbeats 400000 in
set_option maxRecDepth 100000 in
/-- Residues() -/
theorem c_Residues_new (l : Launch) (D : va_G) (cJ cI cR : ClassId) (b : Nat) (E : Nat → va_E) (sz k : Nat) (hsz0 : sz = b + (k + 1)) (hthis : E (b + k) = .inr (2, [.long 0, .null, .null, .null])) : Met l yX3_init wsX3_init { frames := 2, cells := 5, slots := 43, locals := 32 } (cP D vwCl (tys3 cJ cI cR) b (k + 1) E sz [.ref (b + k)]) (cQm D vwCl (tys3 cJ cI cR) b (k + 6) (fun E' => residuesAt cJ (b + k) E' ∧ ∀ a, a < b + k → E' a = E a)) 5 43 (PA b) := by
  refine Met.ofW (cc := cX3_init) (maxL := 1) (ret := none) (by decide) rfl ?_
  intro p e s m args below meth c s₁ B hml hv
  obtain ⟨rfl, hsz, hB⟩ := hv
  have hx := B.exec
  have hb := B.bytes
  have hret := B.returns
  have hts := atoms_spec (ws := wsX3_init) B.pre
  have hown : s.vm.findClass RX3 = some m.cls := findClass_of_methodNamed B.named
  have hlocks := B.notSynchronized
  have hin : meth.name = "<init>" := (name_of_methodNamed B.named B.method).1
  subst hsz
  have hz := PS.start hB
  have hl := lv_entry ([.ref (b + k)]) (n := 1) (Nat.le_of_ble_eq_true rfl)
  rw [lg_entry_eq]
  generalize (lg_sl ([.ref (b + k)]) ++ List.replicate (1 - (lg_sl ([.ref (b + k)])).length) Slot.unset).toArray = ls at hl ⊢
  have hl : lv_has ls 1 [(0, .ref (b + k))] := hl
  have hw0 := hts (.methodLink RX3 3 objectInit) (by decide +kernel)
  have hw1 := hts (.instanceMethod objectInit) (by decide +kernel)
  have hw2 := hts (.code objectInit ⟨#[0xb1]⟩ 1 none) (List.mem_of_getElem? (i := 3) rfl)
  have hw3 := hts (.constantLong RX3 9 (2)) (by decide +kernel)
  have hw4 : ∀ w ∈ u_ws RX3 TX3 4, w ∈ wsX3_init := by decide +kernel
  have hw5 := hts (.fieldLink RX3 11 "GaloisDesk$Residues" "modulus" "J") (by decide +kernel)
  have hw6 := hts (.arrayClass .long) (by decide +kernel)
  have hw7 := hts (.fieldLink RX3 17 "GaloisDesk$Residues" "wide" "[J") (by decide +kernel)
  have hw8 : ∀ w ∈ u_ws RX4 TX4 2, w ∈ wsX3_init := by decide +kernel
  have hw9 := hts (.classLink RX3 21 RX4) (by decide +kernel)
  have hw10 := hts (.instantiable RX4 2) (by decide +kernel)
  have hw11 := hts (.initialized RX4) (by decide +kernel)
  have hw12 := hts (.instanceMethod yX4_init) (by decide +kernel)
  have hw13 := hts (.fieldLink RX3 24 "GaloisDesk$Residues" "first" "LGaloisDesk$Row;") (by decide +kernel)
  have hw14 := hts (.fieldLink RX3 28 "GaloisDesk$Residues" "second" "LGaloisDesk$Row;") (by decide +kernel)
  have hH : s.heap.size = b + (k + 1) := hsz0
  refine lv_aload_n hx hb dX3_init_0 rfl (lv_at hl 0 rfl) ?_
  refine W.objInit hx hb hown hw0 hw1 hw2 rfl (by rw [hml]; exact hl.1) rfl dX3_init_1 (Nat.le_of_ble_eq_true rfl) (Nat.le_of_ble_eq_true rfl) ?_
  refine W.eq (g2 := F0 m 4 ls []) rfl ?_
  refine lv_aload_n hx hb dX3_init_4 rfl (lv_at hl 0 rfl) ?_
  refine lv_ldc2 hx hb hown hw3 dX3_init_5 ?_
  refine pw_putS (C := RX3) (T := TX3) (N := 4) (ci := 2) (ty := .long) (v := .long 2) hx hb hts hw4 tyX3 tyX3_ok nmX3 hown hz hH (by omega) hthis rfl 0 (by decide) hw5 (fun _ h9 => h9) rfl (by decide +kernel) rfl rfl (Nat.le_of_ble_eq_true rfl) dX3_init_8 (fun H locs hz hH => ?_)
  obtain ⟨E1, hE1⟩ : ∃ X, X = va_up E (b + k) (.inr (2, [.long 2, .null, .null, .null])) := ⟨_, rfl⟩
  have hz : PS D vwCl (tys3 cJ cI cR) b (k + 1) s E1 H locs := by rw [hE1]; exact hz
  have q1 : ∀ a : Nat, a ≠ (b + k) → E1 a = E a := fun a h => by rw [hE1]; exact va_up_ne _ _ h
  have p1 : E1 (b + k) = .inr (2, [.long 2, .null, .null, .null]) := by rw [hE1]; exact va_up_self _ _ _
  refine lv_aload_n hx hb dX3_init_11 rfl (lv_at hl 0 rfl) ?_
  refine lv_bipush (v := 13) hx hb dX3_init_12 (by decide) ?_
  refine pw_newa (atype := .long) (ty := .long) (N' := 13) (a0 := (13, .inr (.inl (fun _ => 0)))) hx hb hw6 rfl hz hH 0 rfl (fun _ h => by cases h) (fun cA => by rw [vp_cell_l]; rfl) (by decide +kernel) (by decide +kernel) (by show 13 * 8 ≤ 536870912; omega) (Nat.le_of_ble_eq_true rfl) (Nat.le_of_ble_eq_true rfl) dX3_init_14 (fun H hz hH => ?_)
  have hH : H.size = b + (k + 2) := hH
  obtain ⟨E2, hE2⟩ : ∃ X, X = va_up E1 (b + (k + 1)) (.inl (cJ, 13, .inr (.inl (fun _ => 0)))) := ⟨_, rfl⟩
  have hz : PS D vwCl (tys3 cJ cI cR) b (k + 2) s E2 H locs := by rw [hE2]; exact hz
  have q2 : ∀ a : Nat, a ≠ (b + (k + 1)) → E2 a = E1 a := fun a h => by rw [hE2]; exact va_up_ne _ _ h
  have p2 : E2 (b + (k + 1)) = .inl (cJ, 13, .inr (.inl (fun _ => 0))) := by rw [hE2]; exact va_up_self _ _ _
  refine pw_putFS (C := RX3) (T := TX3) (N := 4) (ci := 2) (ty := .array .long) (v := .ref (b + (k + 1))) hx hb hts hw4 tyX3 tyX3_ok nmX3 hown hz hH (by omega) ((q2 _ (lt_ne (Nat.le_of_ble_eq_true rfl))).trans p1) rfl 1 (by decide) hw7 (fun _ h9 => h9) rfl hin rfl (by decide +kernel) rfl rfl (Nat.le_of_ble_eq_true rfl) dX3_init_16 (fun H locs hz hH => ?_)
  obtain ⟨E3, hE3⟩ : ∃ X, X = va_up E2 (b + k) (.inr (2, [.long 2, .ref (b + (k + 1)), .null, .null])) := ⟨_, rfl⟩
  have hz : PS D vwCl (tys3 cJ cI cR) b (k + 2) s E3 H locs := by rw [hE3]; exact hz
  have q3 : ∀ a : Nat, a ≠ (b + k) → E3 a = E2 a := fun a h => by rw [hE3]; exact va_up_ne _ _ h
  have p3 : E3 (b + k) = .inr (2, [.long 2, .ref (b + (k + 1)), .null, .null]) := by rw [hE3]; exact va_up_self _ _ _
  refine lv_aload_n hx hb dX3_init_19 rfl (lv_at hl 0 rfl) ?_
  refine pw_new (ci := 3) (fs := [.null, .int 0]) (C := RX4) (T := TX4) (N := 2) hx hb hts hw8 tyX4 tyX4_ok hown hw9 hw10 hw11 hz hH rfl (fun j hj => by rcases (show j = 0 ∨ j = 1 by omega) with rfl | rfl <;> rfl) (Nat.le_of_ble_eq_true rfl) (Nat.le_of_ble_eq_true rfl) dX3_init_20 (fun H hz hH => ?_)
  have hH : H.size = b + (k + 3) := hH
  obtain ⟨E4, hE4⟩ : ∃ X, X = va_up E3 (b + (k + 2)) (.inr (3, [.null, .int 0])) := ⟨_, rfl⟩
  have hz : PS D vwCl (tys3 cJ cI cR) b (k + 3) s E4 H locs := by rw [hE4]; exact hz
  have q4 : ∀ a : Nat, a ≠ (b + (k + 2)) → E4 a = E3 a := fun a h => by rw [hE4]; exact va_up_ne _ _ h
  have p4 : E4 (b + (k + 2)) = .inr (3, [.null, .int 0]) := by rw [hE4]; exact va_up_self _ _ _
  refine lv_dup hx hb dX3_init_23 rfl ?_
  refine pw_callm hz (va_runIN (As := []) (rest := [.ref (b + (k + 2)), .ref (b + k)]) ⟨hx, hb, hml, hown, hts⟩ (c_Row_new l D cJ cI cR b _ H.size (k + 2) hH p4) ⟨va_cnB 0 hts gX3_init_X4_init_n23 rfl rfl rfl hz.2.2.2.2.2.1.2.2.2.2.2.2.1 hw11 (by decide +kernel) ⟨Nat.le_of_ble_eq_true rfl, Nat.le_of_ble_eq_true rfl⟩, rfl, hw12⟩ hz.preS rfl rfl hl.1 rfl (lv_room (Nat.le_of_ble_eq_true rfl)) dX3_init_24 ⟨Nat.le_of_ble_eq_true rfl, Nat.le_of_ble_eq_true rfl⟩) (fun E5 H locs hp5 hz hH => ?_)
  have hz : PS D vwCl (tys3 cJ cI cR) b (k + 4) s E5 H locs := hz
  have hH : H.size = b + (k + 4) := hH
  obtain ⟨ra5, rb5, q5⟩ := hp5
  have r5 : rowF cJ (b + (k + 2)) E5 := ⟨ra5, rb5⟩
  refine pw_putFS (C := RX3) (T := TX3) (N := 4) (ci := 2) (ty := .object "GaloisDesk$Row") (v := .ref (b + (k + 2))) hx hb hts hw4 tyX3 tyX3_ok nmX3 hown hz hH (by omega) ((q5 _ (lt_lt (Nat.le_of_ble_eq_true rfl))).trans ((q4 _ (lt_ne (Nat.le_of_ble_eq_true rfl))).trans p3)) rfl 2 (by decide) hw13 (fun _ h9 => h9) rfl hin rfl (by decide +kernel) rfl rfl (Nat.le_of_ble_eq_true rfl) dX3_init_27 (fun H locs hz hH => ?_)
  obtain ⟨E6, hE6⟩ : ∃ X, X = va_up E5 (b + k) (.inr (2, [.long 2, .ref (b + (k + 1)), .ref (b + (k + 2)), .null])) := ⟨_, rfl⟩
  have hz : PS D vwCl (tys3 cJ cI cR) b (k + 4) s E6 H locs := by rw [hE6]; exact hz
  have q6 : ∀ a : Nat, a ≠ (b + k) → E6 a = E5 a := fun a h => by rw [hE6]; exact va_up_ne _ _ h
  have p6 : E6 (b + k) = .inr (2, [.long 2, .ref (b + (k + 1)), .ref (b + (k + 2)), .null]) := by rw [hE6]; exact va_up_self _ _ _
  refine lv_aload_n hx hb dX3_init_30 rfl (lv_at hl 0 rfl) ?_
  refine pw_new (ci := 3) (fs := [.null, .int 0]) (C := RX4) (T := TX4) (N := 2) hx hb hts hw8 tyX4 tyX4_ok hown hw9 hw10 hw11 hz hH rfl (fun j hj => by rcases (show j = 0 ∨ j = 1 by omega) with rfl | rfl <;> rfl) (Nat.le_of_ble_eq_true rfl) (Nat.le_of_ble_eq_true rfl) dX3_init_31 (fun H hz hH => ?_)
  have hH : H.size = b + (k + 5) := hH
  obtain ⟨E7, hE7⟩ : ∃ X, X = va_up E6 (b + (k + 4)) (.inr (3, [.null, .int 0])) := ⟨_, rfl⟩
  have hz : PS D vwCl (tys3 cJ cI cR) b (k + 5) s E7 H locs := by rw [hE7]; exact hz
  have q7 : ∀ a : Nat, a ≠ (b + (k + 4)) → E7 a = E6 a := fun a h => by rw [hE7]; exact va_up_ne _ _ h
  have p7 : E7 (b + (k + 4)) = .inr (3, [.null, .int 0]) := by rw [hE7]; exact va_up_self _ _ _
  refine lv_dup hx hb dX3_init_34 rfl ?_
  refine pw_callm hz (va_runIN (As := []) (rest := [.ref (b + (k + 4)), .ref (b + k)]) ⟨hx, hb, hml, hown, hts⟩ (c_Row_new l D cJ cI cR b _ H.size (k + 4) hH p7) ⟨va_cnB 0 hts gX3_init_X4_init_n23 rfl rfl rfl hz.2.2.2.2.2.1.2.2.2.2.2.2.1 hw11 (by decide +kernel) ⟨Nat.le_of_ble_eq_true rfl, Nat.le_of_ble_eq_true rfl⟩, rfl, hw12⟩ hz.preS rfl rfl hl.1 rfl (lv_room (Nat.le_of_ble_eq_true rfl)) dX3_init_35 ⟨Nat.le_of_ble_eq_true rfl, Nat.le_of_ble_eq_true rfl⟩) (fun E8 H locs hp8 hz hH => ?_)
  have hz : PS D vwCl (tys3 cJ cI cR) b (k + 6) s E8 H locs := hz
  have hH : H.size = b + (k + 6) := hH
  obtain ⟨ra8, rb8, q8⟩ := hp8
  have r8 : rowF cJ (b + (k + 4)) E8 := ⟨ra8, rb8⟩
  refine pw_putFS (C := RX3) (T := TX3) (N := 4) (ci := 2) (ty := .object "GaloisDesk$Row") (v := .ref (b + (k + 4))) hx hb hts hw4 tyX3 tyX3_ok nmX3 hown hz hH (by omega) ((q8 _ (lt_lt (Nat.le_of_ble_eq_true rfl))).trans ((q7 _ (lt_ne (Nat.le_of_ble_eq_true rfl))).trans p6)) rfl 3 (by decide) hw14 (fun _ h9 => h9) rfl hin rfl (by decide +kernel) rfl rfl (Nat.le_of_ble_eq_true rfl) dX3_init_38 (fun H locs hz hH => ?_)
  obtain ⟨E9, hE9⟩ : ∃ X, X = va_up E8 (b + k) (.inr (2, [.long 2, .ref (b + (k + 1)), .ref (b + (k + 2)), .ref (b + (k + 4))])) := ⟨_, rfl⟩
  have hz : PS D vwCl (tys3 cJ cI cR) b (k + 6) s E9 H locs := by rw [hE9]; exact hz
  have q9 : ∀ a : Nat, a ≠ (b + k) → E9 a = E8 a := fun a h => by rw [hE9]; exact va_up_ne _ _ h
  have p9 : E9 (b + k) = .inr (2, [.long 2, .ref (b + (k + 1)), .ref (b + (k + 2)), .ref (b + (k + 4))]) := by rw [hE9]; exact va_up_self _ _ _
  have kc0 := p9
  rw [(Nat.add_assoc b k 4).symm] at kc0
  rw [(Nat.add_assoc b k 2).symm] at kc0
  rw [(Nat.add_assoc b k 1).symm] at kc0
  have kc1 := ((q9 _ (lc_nt (Nat.le_of_ble_eq_true rfl))).trans ((q8 _ (lc_lt (Nat.le_of_ble_eq_true rfl))).trans ((q7 _ (lc_ne (Nat.le_of_ble_eq_true rfl))).trans ((q6 _ (lc_nt (Nat.le_of_ble_eq_true rfl))).trans ((q5 _ (lc_lt (Nat.le_of_ble_eq_true rfl))).trans ((q4 _ (lc_ne (Nat.le_of_ble_eq_true rfl))).trans ((q3 _ (lc_nt (Nat.le_of_ble_eq_true rfl))).trans p2)))))))
  rw [(Nat.add_assoc b k 1).symm] at kc1
  have k5 := r5.keep (fun q h1 h2 => have hq1 : q ≠ b + k := kp_ne h1 (Nat.le_of_ble_eq_true rfl); have hq2 : q < b + (k + 4) := kp_lt h2 (Nat.le_of_ble_eq_true rfl); ((q9 q hq1).trans ((q8 q (lu_lt hq2 (Nat.le_of_ble_eq_true rfl))).trans ((q7 q (lu_ne hq2 (Nat.le_of_ble_eq_true rfl))).trans (q6 q hq1)))))
  rw [(Nat.add_assoc b k 2).symm] at k5
  have k8 := r8.keep (fun q h1 h2 => have hq1 : q ≠ b + k := kp_ne h1 (Nat.le_of_ble_eq_true rfl); have hq2 : q < b + (k + 6) := kp_lt h2 (Nat.le_of_ble_eq_true rfl); (q9 q hq1))
  rw [(Nat.add_assoc b k 4).symm] at k8
  exact pw_mret hx hb hret hlocks hz hH (⟨⟨kc0, kc1, k5, k8⟩, fun a h => ((q9 a (Nat.ne_of_lt h)).trans ((q8 a (lu_lt0 h)).trans ((q7 a (lu_ne0 h)).trans ((q6 a (Nat.ne_of_lt h)).trans ((q5 a (lu_lt0 h)).trans ((q4 a (lu_ne0 h)).trans ((q3 a (Nat.ne_of_lt h)).trans ((q2 a (lu_ne0 h)).trans (q1 a (Nat.ne_of_lt h))))))))))⟩) dX3_init_41

set_option maxHeartbeats 400000 in
set_option maxRecDepth 100000 in
/-- Splitter() -/
theorem c_Splitter_new (l : Launch) (D : va_G) (cJ cI cR : ClassId) (b : Nat) (E : Nat → va_E) (sz k : Nat) (hsz0 : sz = b + (k + 1)) (hthis : E (b + k) = .inr (4, [.null, .null, .null, .null, .null, .null, .null, .null, .null, .int 0])) : Met l yX5_init wsX5_init { frames := 3, cells := 53, slots := 394, locals := 54 } (cP D vwCl (tys3 cJ cI cR) b (k + 1) E sz [.ref (b + k)]) (cQm D vwCl (tys3 cJ cI cR) b (k + 54) (fun E' => splitterAt cJ cR (b + k) E' ∧ ∀ a, a < b + k → E' a = E a)) 53 394 (PA b) := by
  refine Met.ofW (cc := cX5_init) (maxL := 1) (ret := none) (by decide) rfl ?_
  intro p e s m args below meth c s₁ B hml hv
  obtain ⟨rfl, hsz, hB⟩ := hv
  have hx := B.exec
  have hb := B.bytes
  have hret := B.returns
  have hts := atoms_spec (ws := wsX5_init) B.pre
  have hown : s.vm.findClass RX5 = some m.cls := findClass_of_methodNamed B.named
  have hlocks := B.notSynchronized
  have hin : meth.name = "<init>" := (name_of_methodNamed B.named B.method).1
  subst hsz
  have hz := PS.start hB
  have hl := lv_entry ([.ref (b + k)]) (n := 1) (Nat.le_of_ble_eq_true rfl)
  rw [lg_entry_eq]
  generalize (lg_sl ([.ref (b + k)]) ++ List.replicate (1 - (lg_sl ([.ref (b + k)])).length) Slot.unset).toArray = ls at hl ⊢
  have hl : lv_has ls 1 [(0, .ref (b + k))] := hl
  have hw0 := hts (.methodLink RX5 3 objectInit) (by decide +kernel)
  have hw1 := hts (.instanceMethod objectInit) (by decide +kernel)
  have hw2 := hts (.code objectInit ⟨#[0xb1]⟩ 1 none) (List.mem_of_getElem? (i := 3) rfl)
  have hw3 : ∀ w ∈ u_ws RX3 TX3 4, w ∈ wsX5_init := by decide +kernel
  have hw4 := hts (.classLink RX5 9 RX3) (by decide +kernel)
  have hw5 := hts (.instantiable RX3 4) (by decide +kernel)
  have hw6 := hts (.initialized RX3) (by decide +kernel)
  have hw7 := hts (.instanceMethod yX3_init) (by decide +kernel)
  have hw8 : ∀ w ∈ u_ws RX5 TX5 10, w ∈ wsX5_init := by decide +kernel
  have hw9 := hts (.fieldLink RX5 12 "GaloisDesk$Splitter" "residues" "LGaloisDesk$Residues;") (by decide +kernel)
  have hw10 : ∀ w ∈ u_ws RX4 TX4 2, w ∈ wsX5_init := by decide +kernel
  have hw11 := hts (.classLink RX5 18 RX4) (by decide +kernel)
  have hw12 := hts (.instantiable RX4 2) (by decide +kernel)
  have hw13 := hts (.initialized RX4) (by decide +kernel)
  have hw14 := hts (.instanceMethod yX4_init) (by decide +kernel)
  have hw15 := hts (.fieldLink RX5 21 "GaloisDesk$Splitter" "image" "LGaloisDesk$Row;") (by decide +kernel)
  have hw16 := hts (.fieldLink RX5 25 "GaloisDesk$Splitter" "rest" "LGaloisDesk$Row;") (by decide +kernel)
  have hw17 := hts (.fieldLink RX5 28 "GaloisDesk$Splitter" "line" "LGaloisDesk$Row;") (by decide +kernel)
  have hw18 := hts (.fieldLink RX5 31 "GaloisDesk$Splitter" "helper" "LGaloisDesk$Row;") (by decide +kernel)
  have hw19 := hts (.fieldLink RX5 34 "GaloisDesk$Splitter" "found" "LGaloisDesk$Row;") (by decide +kernel)
  have hw20 := hts (.initialized RX6) (by decide +kernel)
  have hw21 := hts (.static yX6_freshRows) (by decide +kernel)
  have hw22 := hts (.fieldLink RX5 41 "GaloisDesk$Splitter" "conjugates" "[LGaloisDesk$Row;") (by decide +kernel)
  have hw23 := hts (.fieldLink RX5 45 "GaloisDesk$Splitter" "equal" "[LGaloisDesk$Row;") (by decide +kernel)
  have hw24 := hts (.fieldLink RX5 48 "GaloisDesk$Splitter" "pieces" "[LGaloisDesk$Row;") (by decide +kernel)
  have hw25 := hts (.fieldLink RX5 51 "GaloisDesk$Splitter" "pieceCount" "I") (by decide +kernel)
  have hH : s.heap.size = b + (k + 1) := hsz0
  refine lv_aload_n hx hb dX5_init_0 rfl (lv_at hl 0 rfl) ?_
  refine W.objInit hx hb hown hw0 hw1 hw2 rfl (by rw [hml]; exact hl.1) rfl dX5_init_1 (Nat.le_of_ble_eq_true rfl) (Nat.le_of_ble_eq_true rfl) ?_
  refine W.eq (g2 := F0 m 4 ls []) rfl ?_
  refine lv_aload_n hx hb dX5_init_4 rfl (lv_at hl 0 rfl) ?_
  refine pw_new (ci := 2) (fs := [.long 0, .null, .null, .null]) (C := RX3) (T := TX3) (N := 4) hx hb hts hw3 tyX3 tyX3_ok hown hw4 hw5 hw6 hz hH rfl (fun j hj => by rcases (show j = 0 ∨ j = 1 ∨ j = 2 ∨ j = 3 by omega) with rfl | rfl | rfl | rfl <;> rfl) (Nat.le_of_ble_eq_true rfl) (Nat.le_of_ble_eq_true rfl) dX5_init_5 (fun H hz hH => ?_)
  have hH : H.size = b + (k + 2) := hH
  obtain ⟨E1, hE1⟩ : ∃ X, X = va_up E (b + (k + 1)) (.inr (2, [.long 0, .null, .null, .null])) := ⟨_, rfl⟩
  have hz : PS D vwCl (tys3 cJ cI cR) b (k + 2) s E1 H [] := by rw [hE1]; exact hz
  have q1 : ∀ a : Nat, a ≠ (b + (k + 1)) → E1 a = E a := fun a h => by rw [hE1]; exact va_up_ne _ _ h
  have p1 : E1 (b + (k + 1)) = .inr (2, [.long 0, .null, .null, .null]) := by rw [hE1]; exact va_up_self _ _ _
  refine lv_dup hx hb dX5_init_8 rfl ?_
  refine pw_callm hz (va_runIN (As := []) (rest := [.ref (b + (k + 1)), .ref (b + k)]) ⟨hx, hb, hml, hown, hts⟩ (c_Residues_new l D cJ cI cR b _ H.size (k + 1) hH p1) ⟨va_cnB 0 hts gX5_init_X3_init_n11 rfl rfl rfl hz.2.2.2.2.2.1.2.2.2.2.2.1 hw6 (by decide +kernel) ⟨Nat.le_of_ble_eq_true rfl, Nat.le_of_ble_eq_true rfl⟩, rfl, hw7⟩ hz.preS rfl rfl hl.1 rfl (lv_room (Nat.le_of_ble_eq_true rfl)) dX5_init_9 ⟨Nat.le_of_ble_eq_true rfl, Nat.le_of_ble_eq_true rfl⟩) (fun E2 H locs hp2 hz hH => ?_)
  have hz : PS D vwCl (tys3 cJ cI cR) b (k + 7) s E2 H locs := hz
  have hH : H.size = b + (k + 7) := hH
  obtain ⟨o2, q2⟩ := hp2
  refine pw_putFS (C := RX5) (T := TX5) (N := 10) (ci := 4) (ty := .object "GaloisDesk$Residues") (v := .ref (b + (k + 1))) hx hb hts hw8 tyX5 tyX5_ok nmX5 hown hz hH (by omega) ((q2 _ (lt_lt (Nat.le_of_ble_eq_true rfl))).trans ((q1 _ (lt_ne (Nat.le_of_ble_eq_true rfl))).trans hthis)) rfl 0 (by decide) hw9 (fun _ h9 => h9) rfl hin rfl (by decide +kernel) rfl rfl (Nat.le_of_ble_eq_true rfl) dX5_init_12 (fun H locs hz hH => ?_)
  obtain ⟨E3, hE3⟩ : ∃ X, X = va_up E2 (b + k) (.inr (4, [.ref (b + (k + 1)), .null, .null, .null, .null, .null, .null, .null, .null, .int 0])) := ⟨_, rfl⟩
  have hz : PS D vwCl (tys3 cJ cI cR) b (k + 7) s E3 H locs := by rw [hE3]; exact hz
  have q3 : ∀ a : Nat, a ≠ (b + k) → E3 a = E2 a := fun a h => by rw [hE3]; exact va_up_ne _ _ h
  have p3 : E3 (b + k) = .inr (4, [.ref (b + (k + 1)), .null, .null, .null, .null, .null, .null, .null, .null, .int 0]) := by rw [hE3]; exact va_up_self _ _ _
  refine lv_aload_n hx hb dX5_init_15 rfl (lv_at hl 0 rfl) ?_
  refine pw_new (ci := 3) (fs := [.null, .int 0]) (C := RX4) (T := TX4) (N := 2) hx hb hts hw10 tyX4 tyX4_ok hown hw11 hw12 hw13 hz hH rfl (fun j hj => by rcases (show j = 0 ∨ j = 1 by omega) with rfl | rfl <;> rfl) (Nat.le_of_ble_eq_true rfl) (Nat.le_of_ble_eq_true rfl) dX5_init_16 (fun H hz hH => ?_)
  have hH : H.size = b + (k + 8) := hH
  obtain ⟨E4, hE4⟩ : ∃ X, X = va_up E3 (b + (k + 7)) (.inr (3, [.null, .int 0])) := ⟨_, rfl⟩
  have hz : PS D vwCl (tys3 cJ cI cR) b (k + 8) s E4 H locs := by rw [hE4]; exact hz
  have q4 : ∀ a : Nat, a ≠ (b + (k + 7)) → E4 a = E3 a := fun a h => by rw [hE4]; exact va_up_ne _ _ h
  have p4 : E4 (b + (k + 7)) = .inr (3, [.null, .int 0]) := by rw [hE4]; exact va_up_self _ _ _
  refine lv_dup hx hb dX5_init_19 rfl ?_
  refine pw_callm hz (va_runIN (As := []) (rest := [.ref (b + (k + 7)), .ref (b + k)]) ⟨hx, hb, hml, hown, hts⟩ (c_Row_new l D cJ cI cR b _ H.size (k + 7) hH p4) ⟨va_cnB 0 hts gX5_init_X4_init_n20 rfl rfl rfl hz.2.2.2.2.2.1.2.2.2.2.2.2.2.1 hw13 (by decide +kernel) ⟨Nat.le_of_ble_eq_true rfl, Nat.le_of_ble_eq_true rfl⟩, rfl, hw14⟩ hz.preS rfl rfl hl.1 rfl (lv_room (Nat.le_of_ble_eq_true rfl)) dX5_init_20 ⟨Nat.le_of_ble_eq_true rfl, Nat.le_of_ble_eq_true rfl⟩) (fun E5 H locs hp5 hz hH => ?_)
  have hz : PS D vwCl (tys3 cJ cI cR) b (k + 9) s E5 H locs := hz
  have hH : H.size = b + (k + 9) := hH
  obtain ⟨ra5, rb5, q5⟩ := hp5
  have r5 : rowF cJ (b + (k + 7)) E5 := ⟨ra5, rb5⟩
  refine pw_putFS (C := RX5) (T := TX5) (N := 10) (ci := 4) (ty := .object "GaloisDesk$Row") (v := .ref (b + (k + 7))) hx hb hts hw8 tyX5 tyX5_ok nmX5 hown hz hH (by omega) ((q5 _ (lt_lt (Nat.le_of_ble_eq_true rfl))).trans ((q4 _ (lt_ne (Nat.le_of_ble_eq_true rfl))).trans p3)) rfl 1 (by decide) hw15 (fun _ h9 => h9) rfl hin rfl (by decide +kernel) rfl rfl (Nat.le_of_ble_eq_true rfl) dX5_init_23 (fun H locs hz hH => ?_)
  obtain ⟨E6, hE6⟩ : ∃ X, X = va_up E5 (b + k) (.inr (4, [.ref (b + (k + 1)), .ref (b + (k + 7)), .null, .null, .null, .null, .null, .null, .null, .int 0])) := ⟨_, rfl⟩
  have hz : PS D vwCl (tys3 cJ cI cR) b (k + 9) s E6 H locs := by rw [hE6]; exact hz
  have q6 : ∀ a : Nat, a ≠ (b + k) → E6 a = E5 a := fun a h => by rw [hE6]; exact va_up_ne _ _ h
  have p6 : E6 (b + k) = .inr (4, [.ref (b + (k + 1)), .ref (b + (k + 7)), .null, .null, .null, .null, .null, .null, .null, .int 0]) := by rw [hE6]; exact va_up_self _ _ _
  refine lv_aload_n hx hb dX5_init_26 rfl (lv_at hl 0 rfl) ?_
  refine pw_new (ci := 3) (fs := [.null, .int 0]) (C := RX4) (T := TX4) (N := 2) hx hb hts hw10 tyX4 tyX4_ok hown hw11 hw12 hw13 hz hH rfl (fun j hj => by rcases (show j = 0 ∨ j = 1 by omega) with rfl | rfl <;> rfl) (Nat.le_of_ble_eq_true rfl) (Nat.le_of_ble_eq_true rfl) dX5_init_27 (fun H hz hH => ?_)
  have hH : H.size = b + (k + 10) := hH
  obtain ⟨E7, hE7⟩ : ∃ X, X = va_up E6 (b + (k + 9)) (.inr (3, [.null, .int 0])) := ⟨_, rfl⟩
  have hz : PS D vwCl (tys3 cJ cI cR) b (k + 10) s E7 H locs := by rw [hE7]; exact hz
  have q7 : ∀ a : Nat, a ≠ (b + (k + 9)) → E7 a = E6 a := fun a h => by rw [hE7]; exact va_up_ne _ _ h
  have p7 : E7 (b + (k + 9)) = .inr (3, [.null, .int 0]) := by rw [hE7]; exact va_up_self _ _ _
  refine lv_dup hx hb dX5_init_30 rfl ?_
  refine pw_callm hz (va_runIN (As := []) (rest := [.ref (b + (k + 9)), .ref (b + k)]) ⟨hx, hb, hml, hown, hts⟩ (c_Row_new l D cJ cI cR b _ H.size (k + 9) hH p7) ⟨va_cnB 0 hts gX5_init_X4_init_n20 rfl rfl rfl hz.2.2.2.2.2.1.2.2.2.2.2.2.2.1 hw13 (by decide +kernel) ⟨Nat.le_of_ble_eq_true rfl, Nat.le_of_ble_eq_true rfl⟩, rfl, hw14⟩ hz.preS rfl rfl hl.1 rfl (lv_room (Nat.le_of_ble_eq_true rfl)) dX5_init_31 ⟨Nat.le_of_ble_eq_true rfl, Nat.le_of_ble_eq_true rfl⟩) (fun E8 H locs hp8 hz hH => ?_)
  have hz : PS D vwCl (tys3 cJ cI cR) b (k + 11) s E8 H locs := hz
  have hH : H.size = b + (k + 11) := hH
  obtain ⟨ra8, rb8, q8⟩ := hp8
  have r8 : rowF cJ (b + (k + 9)) E8 := ⟨ra8, rb8⟩
  refine pw_putFS (C := RX5) (T := TX5) (N := 10) (ci := 4) (ty := .object "GaloisDesk$Row") (v := .ref (b + (k + 9))) hx hb hts hw8 tyX5 tyX5_ok nmX5 hown hz hH (by omega) ((q8 _ (lt_lt (Nat.le_of_ble_eq_true rfl))).trans ((q7 _ (lt_ne (Nat.le_of_ble_eq_true rfl))).trans p6)) rfl 2 (by decide) hw16 (fun _ h9 => h9) rfl hin rfl (by decide +kernel) rfl rfl (Nat.le_of_ble_eq_true rfl) dX5_init_34 (fun H locs hz hH => ?_)
  obtain ⟨E9, hE9⟩ : ∃ X, X = va_up E8 (b + k) (.inr (4, [.ref (b + (k + 1)), .ref (b + (k + 7)), .ref (b + (k + 9)), .null, .null, .null, .null, .null, .null, .int 0])) := ⟨_, rfl⟩
  have hz : PS D vwCl (tys3 cJ cI cR) b (k + 11) s E9 H locs := by rw [hE9]; exact hz
  have q9 : ∀ a : Nat, a ≠ (b + k) → E9 a = E8 a := fun a h => by rw [hE9]; exact va_up_ne _ _ h
  have p9 : E9 (b + k) = .inr (4, [.ref (b + (k + 1)), .ref (b + (k + 7)), .ref (b + (k + 9)), .null, .null, .null, .null, .null, .null, .int 0]) := by rw [hE9]; exact va_up_self _ _ _
  refine lv_aload_n hx hb dX5_init_37 rfl (lv_at hl 0 rfl) ?_
  refine pw_new (ci := 3) (fs := [.null, .int 0]) (C := RX4) (T := TX4) (N := 2) hx hb hts hw10 tyX4 tyX4_ok hown hw11 hw12 hw13 hz hH rfl (fun j hj => by rcases (show j = 0 ∨ j = 1 by omega) with rfl | rfl <;> rfl) (Nat.le_of_ble_eq_true rfl) (Nat.le_of_ble_eq_true rfl) dX5_init_38 (fun H hz hH => ?_)
  have hH : H.size = b + (k + 12) := hH
  obtain ⟨E10, hE10⟩ : ∃ X, X = va_up E9 (b + (k + 11)) (.inr (3, [.null, .int 0])) := ⟨_, rfl⟩
  have hz : PS D vwCl (tys3 cJ cI cR) b (k + 12) s E10 H locs := by rw [hE10]; exact hz
  have q10 : ∀ a : Nat, a ≠ (b + (k + 11)) → E10 a = E9 a := fun a h => by rw [hE10]; exact va_up_ne _ _ h
  have p10 : E10 (b + (k + 11)) = .inr (3, [.null, .int 0]) := by rw [hE10]; exact va_up_self _ _ _
  refine lv_dup hx hb dX5_init_41 rfl ?_
  refine pw_callm hz (va_runIN (As := []) (rest := [.ref (b + (k + 11)), .ref (b + k)]) ⟨hx, hb, hml, hown, hts⟩ (c_Row_new l D cJ cI cR b _ H.size (k + 11) hH p10) ⟨va_cnB 0 hts gX5_init_X4_init_n20 rfl rfl rfl hz.2.2.2.2.2.1.2.2.2.2.2.2.2.1 hw13 (by decide +kernel) ⟨Nat.le_of_ble_eq_true rfl, Nat.le_of_ble_eq_true rfl⟩, rfl, hw14⟩ hz.preS rfl rfl hl.1 rfl (lv_room (Nat.le_of_ble_eq_true rfl)) dX5_init_42 ⟨Nat.le_of_ble_eq_true rfl, Nat.le_of_ble_eq_true rfl⟩) (fun E11 H locs hp11 hz hH => ?_)
  have hz : PS D vwCl (tys3 cJ cI cR) b (k + 13) s E11 H locs := hz
  have hH : H.size = b + (k + 13) := hH
  obtain ⟨ra11, rb11, q11⟩ := hp11
  have r11 : rowF cJ (b + (k + 11)) E11 := ⟨ra11, rb11⟩
  refine pw_putFS (C := RX5) (T := TX5) (N := 10) (ci := 4) (ty := .object "GaloisDesk$Row") (v := .ref (b + (k + 11))) hx hb hts hw8 tyX5 tyX5_ok nmX5 hown hz hH (by omega) ((q11 _ (lt_lt (Nat.le_of_ble_eq_true rfl))).trans ((q10 _ (lt_ne (Nat.le_of_ble_eq_true rfl))).trans p9)) rfl 3 (by decide) hw17 (fun _ h9 => h9) rfl hin rfl (by decide +kernel) rfl rfl (Nat.le_of_ble_eq_true rfl) dX5_init_45 (fun H locs hz hH => ?_)
  obtain ⟨E12, hE12⟩ : ∃ X, X = va_up E11 (b + k) (.inr (4, [.ref (b + (k + 1)), .ref (b + (k + 7)), .ref (b + (k + 9)), .ref (b + (k + 11)), .null, .null, .null, .null, .null, .int 0])) := ⟨_, rfl⟩
  have hz : PS D vwCl (tys3 cJ cI cR) b (k + 13) s E12 H locs := by rw [hE12]; exact hz
  have q12 : ∀ a : Nat, a ≠ (b + k) → E12 a = E11 a := fun a h => by rw [hE12]; exact va_up_ne _ _ h
  have p12 : E12 (b + k) = .inr (4, [.ref (b + (k + 1)), .ref (b + (k + 7)), .ref (b + (k + 9)), .ref (b + (k + 11)), .null, .null, .null, .null, .null, .int 0]) := by rw [hE12]; exact va_up_self _ _ _
  refine lv_aload_n hx hb dX5_init_48 rfl (lv_at hl 0 rfl) ?_
  refine pw_new (ci := 3) (fs := [.null, .int 0]) (C := RX4) (T := TX4) (N := 2) hx hb hts hw10 tyX4 tyX4_ok hown hw11 hw12 hw13 hz hH rfl (fun j hj => by rcases (show j = 0 ∨ j = 1 by omega) with rfl | rfl <;> rfl) (Nat.le_of_ble_eq_true rfl) (Nat.le_of_ble_eq_true rfl) dX5_init_49 (fun H hz hH => ?_)
  have hH : H.size = b + (k + 14) := hH
  obtain ⟨E13, hE13⟩ : ∃ X, X = va_up E12 (b + (k + 13)) (.inr (3, [.null, .int 0])) := ⟨_, rfl⟩
  have hz : PS D vwCl (tys3 cJ cI cR) b (k + 14) s E13 H locs := by rw [hE13]; exact hz
  have q13 : ∀ a : Nat, a ≠ (b + (k + 13)) → E13 a = E12 a := fun a h => by rw [hE13]; exact va_up_ne _ _ h
  have p13 : E13 (b + (k + 13)) = .inr (3, [.null, .int 0]) := by rw [hE13]; exact va_up_self _ _ _
  refine lv_dup hx hb dX5_init_52 rfl ?_
  refine pw_callm hz (va_runIN (As := []) (rest := [.ref (b + (k + 13)), .ref (b + k)]) ⟨hx, hb, hml, hown, hts⟩ (c_Row_new l D cJ cI cR b _ H.size (k + 13) hH p13) ⟨va_cnB 0 hts gX5_init_X4_init_n20 rfl rfl rfl hz.2.2.2.2.2.1.2.2.2.2.2.2.2.1 hw13 (by decide +kernel) ⟨Nat.le_of_ble_eq_true rfl, Nat.le_of_ble_eq_true rfl⟩, rfl, hw14⟩ hz.preS rfl rfl hl.1 rfl (lv_room (Nat.le_of_ble_eq_true rfl)) dX5_init_53 ⟨Nat.le_of_ble_eq_true rfl, Nat.le_of_ble_eq_true rfl⟩) (fun E14 H locs hp14 hz hH => ?_)
  have hz : PS D vwCl (tys3 cJ cI cR) b (k + 15) s E14 H locs := hz
  have hH : H.size = b + (k + 15) := hH
  obtain ⟨ra14, rb14, q14⟩ := hp14
  have r14 : rowF cJ (b + (k + 13)) E14 := ⟨ra14, rb14⟩
  refine pw_putFS (C := RX5) (T := TX5) (N := 10) (ci := 4) (ty := .object "GaloisDesk$Row") (v := .ref (b + (k + 13))) hx hb hts hw8 tyX5 tyX5_ok nmX5 hown hz hH (by omega) ((q14 _ (lt_lt (Nat.le_of_ble_eq_true rfl))).trans ((q13 _ (lt_ne (Nat.le_of_ble_eq_true rfl))).trans p12)) rfl 4 (by decide) hw18 (fun _ h9 => h9) rfl hin rfl (by decide +kernel) rfl rfl (Nat.le_of_ble_eq_true rfl) dX5_init_56 (fun H locs hz hH => ?_)
  obtain ⟨E15, hE15⟩ : ∃ X, X = va_up E14 (b + k) (.inr (4, [.ref (b + (k + 1)), .ref (b + (k + 7)), .ref (b + (k + 9)), .ref (b + (k + 11)), .ref (b + (k + 13)), .null, .null, .null, .null, .int 0])) := ⟨_, rfl⟩
  have hz : PS D vwCl (tys3 cJ cI cR) b (k + 15) s E15 H locs := by rw [hE15]; exact hz
  have q15 : ∀ a : Nat, a ≠ (b + k) → E15 a = E14 a := fun a h => by rw [hE15]; exact va_up_ne _ _ h
  have p15 : E15 (b + k) = .inr (4, [.ref (b + (k + 1)), .ref (b + (k + 7)), .ref (b + (k + 9)), .ref (b + (k + 11)), .ref (b + (k + 13)), .null, .null, .null, .null, .int 0]) := by rw [hE15]; exact va_up_self _ _ _
  refine lv_aload_n hx hb dX5_init_59 rfl (lv_at hl 0 rfl) ?_
  refine pw_new (ci := 3) (fs := [.null, .int 0]) (C := RX4) (T := TX4) (N := 2) hx hb hts hw10 tyX4 tyX4_ok hown hw11 hw12 hw13 hz hH rfl (fun j hj => by rcases (show j = 0 ∨ j = 1 by omega) with rfl | rfl <;> rfl) (Nat.le_of_ble_eq_true rfl) (Nat.le_of_ble_eq_true rfl) dX5_init_60 (fun H hz hH => ?_)
  have hH : H.size = b + (k + 16) := hH
  obtain ⟨E16, hE16⟩ : ∃ X, X = va_up E15 (b + (k + 15)) (.inr (3, [.null, .int 0])) := ⟨_, rfl⟩
  have hz : PS D vwCl (tys3 cJ cI cR) b (k + 16) s E16 H locs := by rw [hE16]; exact hz
  have q16 : ∀ a : Nat, a ≠ (b + (k + 15)) → E16 a = E15 a := fun a h => by rw [hE16]; exact va_up_ne _ _ h
  have p16 : E16 (b + (k + 15)) = .inr (3, [.null, .int 0]) := by rw [hE16]; exact va_up_self _ _ _
  refine lv_dup hx hb dX5_init_63 rfl ?_
  refine pw_callm hz (va_runIN (As := []) (rest := [.ref (b + (k + 15)), .ref (b + k)]) ⟨hx, hb, hml, hown, hts⟩ (c_Row_new l D cJ cI cR b _ H.size (k + 15) hH p16) ⟨va_cnB 0 hts gX5_init_X4_init_n20 rfl rfl rfl hz.2.2.2.2.2.1.2.2.2.2.2.2.2.1 hw13 (by decide +kernel) ⟨Nat.le_of_ble_eq_true rfl, Nat.le_of_ble_eq_true rfl⟩, rfl, hw14⟩ hz.preS rfl rfl hl.1 rfl (lv_room (Nat.le_of_ble_eq_true rfl)) dX5_init_64 ⟨Nat.le_of_ble_eq_true rfl, Nat.le_of_ble_eq_true rfl⟩) (fun E17 H locs hp17 hz hH => ?_)
  have hz : PS D vwCl (tys3 cJ cI cR) b (k + 17) s E17 H locs := hz
  have hH : H.size = b + (k + 17) := hH
  obtain ⟨ra17, rb17, q17⟩ := hp17
  have r17 : rowF cJ (b + (k + 15)) E17 := ⟨ra17, rb17⟩
  refine pw_putFS (C := RX5) (T := TX5) (N := 10) (ci := 4) (ty := .object "GaloisDesk$Row") (v := .ref (b + (k + 15))) hx hb hts hw8 tyX5 tyX5_ok nmX5 hown hz hH (by omega) ((q17 _ (lt_lt (Nat.le_of_ble_eq_true rfl))).trans ((q16 _ (lt_ne (Nat.le_of_ble_eq_true rfl))).trans p15)) rfl 5 (by decide) hw19 (fun _ h9 => h9) rfl hin rfl (by decide +kernel) rfl rfl (Nat.le_of_ble_eq_true rfl) dX5_init_67 (fun H locs hz hH => ?_)
  obtain ⟨E18, hE18⟩ : ∃ X, X = va_up E17 (b + k) (.inr (4, [.ref (b + (k + 1)), .ref (b + (k + 7)), .ref (b + (k + 9)), .ref (b + (k + 11)), .ref (b + (k + 13)), .ref (b + (k + 15)), .null, .null, .null, .int 0])) := ⟨_, rfl⟩
  have hz : PS D vwCl (tys3 cJ cI cR) b (k + 17) s E18 H locs := by rw [hE18]; exact hz
  have q18 : ∀ a : Nat, a ≠ (b + k) → E18 a = E17 a := fun a h => by rw [hE18]; exact va_up_ne _ _ h
  have p18 : E18 (b + k) = .inr (4, [.ref (b + (k + 1)), .ref (b + (k + 7)), .ref (b + (k + 9)), .ref (b + (k + 11)), .ref (b + (k + 13)), .ref (b + (k + 15)), .null, .null, .null, .int 0]) := by rw [hE18]; exact va_up_self _ _ _
  refine lv_aload_n hx hb dX5_init_70 rfl (lv_at hl 0 rfl) ?_
  refine lv_iconst (v := 4) hx hb dX5_init_71 (by decide) ?_
  refine pw_callr hz (va_runSN (As := [.int 4]) (rest := [.ref (b + k)]) ⟨hx, hb, hml, hown, hts⟩ (c_freshRows l D cJ cI cR b _ _ (k + 17) 4 (by decide) hH) ⟨va_cnB 1 hts gX5_init_X6_freshRows_n37 rfl rfl rfl hz.2.2.2.2.2.1.2.2.2.2.2.2.2.2.1 hw20 (by decide +kernel) ⟨Nat.le_of_ble_eq_true rfl, Nat.le_of_ble_eq_true rfl⟩, hw21, trivial⟩ hz.preS rfl rfl hl.1 rfl (lv_room (Nat.le_of_ble_eq_true rfl)) dX5_init_72 ⟨Nat.le_of_ble_eq_true rfl, Nat.le_of_ble_eq_true rfl⟩) (fun ra E19 H locs hp19 hz hH => ?_)
  have hz : PS D vwCl (tys3 cJ cI cR) b (k + 26) s E19 H locs := hz
  have hH : H.size = b + (k + 26) := hH
  obtain ⟨rfl, hp19⟩ := hp19
  obtain ⟨f19, q19⟩ := hp19
  refine pw_putFS (C := RX5) (T := TX5) (N := 10) (ci := 4) (ty := .array (.object "GaloisDesk$Row")) (v := .ref (b + (k + 17))) hx hb hts hw8 tyX5 tyX5_ok nmX5 hown hz hH (by omega) ((q19 _ (lt_lt (Nat.le_of_ble_eq_true rfl))).trans p18) rfl 6 (by decide) hw22 (fun _ h9 => h9) rfl hin rfl (by decide +kernel) rfl rfl (Nat.le_of_ble_eq_true rfl) dX5_init_75 (fun H locs hz hH => ?_)
  obtain ⟨E20, hE20⟩ : ∃ X, X = va_up E19 (b + k) (.inr (4, [.ref (b + (k + 1)), .ref (b + (k + 7)), .ref (b + (k + 9)), .ref (b + (k + 11)), .ref (b + (k + 13)), .ref (b + (k + 15)), .ref (b + (k + 17)), .null, .null, .int 0])) := ⟨_, rfl⟩
  have hz : PS D vwCl (tys3 cJ cI cR) b (k + 26) s E20 H locs := by rw [hE20]; exact hz
  have q20 : ∀ a : Nat, a ≠ (b + k) → E20 a = E19 a := fun a h => by rw [hE20]; exact va_up_ne _ _ h
  have p20 : E20 (b + k) = .inr (4, [.ref (b + (k + 1)), .ref (b + (k + 7)), .ref (b + (k + 9)), .ref (b + (k + 11)), .ref (b + (k + 13)), .ref (b + (k + 15)), .ref (b + (k + 17)), .null, .null, .int 0]) := by rw [hE20]; exact va_up_self _ _ _
  refine lv_aload_n hx hb dX5_init_78 rfl (lv_at hl 0 rfl) ?_
  refine lv_bipush (v := 7) hx hb dX5_init_79 (by decide) ?_
  refine pw_callr hz (va_runSN (As := [.int 7]) (rest := [.ref (b + k)]) ⟨hx, hb, hml, hown, hts⟩ (c_freshRows l D cJ cI cR b _ _ (k + 26) 7 (by decide) hH) ⟨va_cnB 1 hts gX5_init_X6_freshRows_n37 rfl rfl rfl hz.2.2.2.2.2.1.2.2.2.2.2.2.2.2.1 hw20 (by decide +kernel) ⟨Nat.le_of_ble_eq_true rfl, Nat.le_of_ble_eq_true rfl⟩, hw21, trivial⟩ hz.preS rfl rfl hl.1 rfl (lv_room (Nat.le_of_ble_eq_true rfl)) dX5_init_81 ⟨Nat.le_of_ble_eq_true rfl, Nat.le_of_ble_eq_true rfl⟩) (fun ra E21 H locs hp21 hz hH => ?_)
  have hz : PS D vwCl (tys3 cJ cI cR) b (k + 41) s E21 H locs := hz
  have hH : H.size = b + (k + 41) := hH
  obtain ⟨rfl, hp21⟩ := hp21
  obtain ⟨f21, q21⟩ := hp21
  refine pw_putFS (C := RX5) (T := TX5) (N := 10) (ci := 4) (ty := .array (.object "GaloisDesk$Row")) (v := .ref (b + (k + 26))) hx hb hts hw8 tyX5 tyX5_ok nmX5 hown hz hH (by omega) ((q21 _ (lt_lt (Nat.le_of_ble_eq_true rfl))).trans p20) rfl 7 (by decide) hw23 (fun _ h9 => h9) rfl hin rfl (by decide +kernel) rfl rfl (Nat.le_of_ble_eq_true rfl) dX5_init_84 (fun H locs hz hH => ?_)
  obtain ⟨E22, hE22⟩ : ∃ X, X = va_up E21 (b + k) (.inr (4, [.ref (b + (k + 1)), .ref (b + (k + 7)), .ref (b + (k + 9)), .ref (b + (k + 11)), .ref (b + (k + 13)), .ref (b + (k + 15)), .ref (b + (k + 17)), .ref (b + (k + 26)), .null, .int 0])) := ⟨_, rfl⟩
  have hz : PS D vwCl (tys3 cJ cI cR) b (k + 41) s E22 H locs := by rw [hE22]; exact hz
  have q22 : ∀ a : Nat, a ≠ (b + k) → E22 a = E21 a := fun a h => by rw [hE22]; exact va_up_ne _ _ h
  have p22 : E22 (b + k) = .inr (4, [.ref (b + (k + 1)), .ref (b + (k + 7)), .ref (b + (k + 9)), .ref (b + (k + 11)), .ref (b + (k + 13)), .ref (b + (k + 15)), .ref (b + (k + 17)), .ref (b + (k + 26)), .null, .int 0]) := by rw [hE22]; exact va_up_self _ _ _
  refine lv_aload_n hx hb dX5_init_87 rfl (lv_at hl 0 rfl) ?_
  refine lv_bipush (v := 6) hx hb dX5_init_88 (by decide) ?_
  refine pw_callr hz (va_runSN (As := [.int 6]) (rest := [.ref (b + k)]) ⟨hx, hb, hml, hown, hts⟩ (c_freshRows l D cJ cI cR b _ _ (k + 41) 6 (by decide) hH) ⟨va_cnB 1 hts gX5_init_X6_freshRows_n37 rfl rfl rfl hz.2.2.2.2.2.1.2.2.2.2.2.2.2.2.1 hw20 (by decide +kernel) ⟨Nat.le_of_ble_eq_true rfl, Nat.le_of_ble_eq_true rfl⟩, hw21, trivial⟩ hz.preS rfl rfl hl.1 rfl (lv_room (Nat.le_of_ble_eq_true rfl)) dX5_init_90 ⟨Nat.le_of_ble_eq_true rfl, Nat.le_of_ble_eq_true rfl⟩) (fun ra E23 H locs hp23 hz hH => ?_)
  have hz : PS D vwCl (tys3 cJ cI cR) b (k + 54) s E23 H locs := hz
  have hH : H.size = b + (k + 54) := hH
  obtain ⟨rfl, hp23⟩ := hp23
  obtain ⟨f23, q23⟩ := hp23
  refine pw_putFS (C := RX5) (T := TX5) (N := 10) (ci := 4) (ty := .array (.object "GaloisDesk$Row")) (v := .ref (b + (k + 41))) hx hb hts hw8 tyX5 tyX5_ok nmX5 hown hz hH (by omega) ((q23 _ (lt_lt (Nat.le_of_ble_eq_true rfl))).trans p22) rfl 8 (by decide) hw24 (fun _ h9 => h9) rfl hin rfl (by decide +kernel) rfl rfl (Nat.le_of_ble_eq_true rfl) dX5_init_93 (fun H locs hz hH => ?_)
  obtain ⟨E24, hE24⟩ : ∃ X, X = va_up E23 (b + k) (.inr (4, [.ref (b + (k + 1)), .ref (b + (k + 7)), .ref (b + (k + 9)), .ref (b + (k + 11)), .ref (b + (k + 13)), .ref (b + (k + 15)), .ref (b + (k + 17)), .ref (b + (k + 26)), .ref (b + (k + 41)), .int 0])) := ⟨_, rfl⟩
  have hz : PS D vwCl (tys3 cJ cI cR) b (k + 54) s E24 H locs := by rw [hE24]; exact hz
  have q24 : ∀ a : Nat, a ≠ (b + k) → E24 a = E23 a := fun a h => by rw [hE24]; exact va_up_ne _ _ h
  have p24 : E24 (b + k) = .inr (4, [.ref (b + (k + 1)), .ref (b + (k + 7)), .ref (b + (k + 9)), .ref (b + (k + 11)), .ref (b + (k + 13)), .ref (b + (k + 15)), .ref (b + (k + 17)), .ref (b + (k + 26)), .ref (b + (k + 41)), .int 0]) := by rw [hE24]; exact va_up_self _ _ _
  refine lv_aload_n hx hb dX5_init_96 rfl (lv_at hl 0 rfl) ?_
  refine lv_iconst (v := 0) hx hb dX5_init_97 (by decide) ?_
  refine pw_putS (C := RX5) (T := TX5) (N := 10) (ci := 4) (ty := .int) (v := .int 0) hx hb hts hw8 tyX5 tyX5_ok nmX5 hown hz hH (by omega) p24 rfl 9 (by decide) hw25 (fun _ h9 => h9) rfl (by decide +kernel) rfl rfl (Nat.le_of_ble_eq_true rfl) dX5_init_98 (fun H locs hz hH => ?_)
  obtain ⟨E25, hE25⟩ : ∃ X, X = va_up E24 (b + k) (.inr (4, [.ref (b + (k + 1)), .ref (b + (k + 7)), .ref (b + (k + 9)), .ref (b + (k + 11)), .ref (b + (k + 13)), .ref (b + (k + 15)), .ref (b + (k + 17)), .ref (b + (k + 26)), .ref (b + (k + 41)), .int 0])) := ⟨_, rfl⟩
  have hz : PS D vwCl (tys3 cJ cI cR) b (k + 54) s E25 H locs := by rw [hE25]; exact hz
  have q25 : ∀ a : Nat, a ≠ (b + k) → E25 a = E24 a := fun a h => by rw [hE25]; exact va_up_ne _ _ h
  have p25 : E25 (b + k) = .inr (4, [.ref (b + (k + 1)), .ref (b + (k + 7)), .ref (b + (k + 9)), .ref (b + (k + 11)), .ref (b + (k + 13)), .ref (b + (k + 15)), .ref (b + (k + 17)), .ref (b + (k + 26)), .ref (b + (k + 41)), .int 0]) := by rw [hE25]; exact va_up_self _ _ _
  have kc0 := p25
  rw [(Nat.add_assoc b k 41).symm] at kc0
  rw [(Nat.add_assoc b k 26).symm] at kc0
  rw [(Nat.add_assoc b k 17).symm] at kc0
  rw [(Nat.add_assoc b k 15).symm] at kc0
  rw [(Nat.add_assoc b k 13).symm] at kc0
  rw [(Nat.add_assoc b k 11).symm] at kc0
  rw [(Nat.add_assoc b k 9).symm] at kc0
  rw [(Nat.add_assoc b k 7).symm] at kc0
  rw [(Nat.add_assoc b k 1).symm] at kc0
  have k2 := o2.keep (fun q h1 h2 => have hq1 : q ≠ b + k := kp_ne h1 (Nat.le_of_ble_eq_true rfl); have hq2 : q < b + (k + 7) := kp_lt h2 (Nat.le_of_ble_eq_true rfl); ((q25 q hq1).trans ((q24 q hq1).trans ((q23 q (lu_lt hq2 (Nat.le_of_ble_eq_true rfl))).trans ((q22 q hq1).trans ((q21 q (lu_lt hq2 (Nat.le_of_ble_eq_true rfl))).trans ((q20 q hq1).trans ((q19 q (lu_lt hq2 (Nat.le_of_ble_eq_true rfl))).trans ((q18 q hq1).trans ((q17 q (lu_lt hq2 (Nat.le_of_ble_eq_true rfl))).trans ((q16 q (lu_ne hq2 (Nat.le_of_ble_eq_true rfl))).trans ((q15 q hq1).trans ((q14 q (lu_lt hq2 (Nat.le_of_ble_eq_true rfl))).trans ((q13 q (lu_ne hq2 (Nat.le_of_ble_eq_true rfl))).trans ((q12 q hq1).trans ((q11 q (lu_lt hq2 (Nat.le_of_ble_eq_true rfl))).trans ((q10 q (lu_ne hq2 (Nat.le_of_ble_eq_true rfl))).trans ((q9 q hq1).trans ((q8 q (lu_lt hq2 (Nat.le_of_ble_eq_true rfl))).trans ((q7 q (lu_ne hq2 (Nat.le_of_ble_eq_true rfl))).trans ((q6 q hq1).trans ((q5 q (lu_lt hq2 (Nat.le_of_ble_eq_true rfl))).trans ((q4 q (lu_ne hq2 (Nat.le_of_ble_eq_true rfl))).trans (q3 q hq1))))))))))))))))))))))))
  rw [(Nat.add_assoc b k 1).symm] at k2
  have k5 := r5.keep (fun q h1 h2 => have hq1 : q ≠ b + k := kp_ne h1 (Nat.le_of_ble_eq_true rfl); have hq2 : q < b + (k + 9) := kp_lt h2 (Nat.le_of_ble_eq_true rfl); ((q25 q hq1).trans ((q24 q hq1).trans ((q23 q (lu_lt hq2 (Nat.le_of_ble_eq_true rfl))).trans ((q22 q hq1).trans ((q21 q (lu_lt hq2 (Nat.le_of_ble_eq_true rfl))).trans ((q20 q hq1).trans ((q19 q (lu_lt hq2 (Nat.le_of_ble_eq_true rfl))).trans ((q18 q hq1).trans ((q17 q (lu_lt hq2 (Nat.le_of_ble_eq_true rfl))).trans ((q16 q (lu_ne hq2 (Nat.le_of_ble_eq_true rfl))).trans ((q15 q hq1).trans ((q14 q (lu_lt hq2 (Nat.le_of_ble_eq_true rfl))).trans ((q13 q (lu_ne hq2 (Nat.le_of_ble_eq_true rfl))).trans ((q12 q hq1).trans ((q11 q (lu_lt hq2 (Nat.le_of_ble_eq_true rfl))).trans ((q10 q (lu_ne hq2 (Nat.le_of_ble_eq_true rfl))).trans ((q9 q hq1).trans ((q8 q (lu_lt hq2 (Nat.le_of_ble_eq_true rfl))).trans ((q7 q (lu_ne hq2 (Nat.le_of_ble_eq_true rfl))).trans (q6 q hq1)))))))))))))))))))))
  rw [(Nat.add_assoc b k 7).symm] at k5
  have k8 := r8.keep (fun q h1 h2 => have hq1 : q ≠ b + k := kp_ne h1 (Nat.le_of_ble_eq_true rfl); have hq2 : q < b + (k + 11) := kp_lt h2 (Nat.le_of_ble_eq_true rfl); ((q25 q hq1).trans ((q24 q hq1).trans ((q23 q (lu_lt hq2 (Nat.le_of_ble_eq_true rfl))).trans ((q22 q hq1).trans ((q21 q (lu_lt hq2 (Nat.le_of_ble_eq_true rfl))).trans ((q20 q hq1).trans ((q19 q (lu_lt hq2 (Nat.le_of_ble_eq_true rfl))).trans ((q18 q hq1).trans ((q17 q (lu_lt hq2 (Nat.le_of_ble_eq_true rfl))).trans ((q16 q (lu_ne hq2 (Nat.le_of_ble_eq_true rfl))).trans ((q15 q hq1).trans ((q14 q (lu_lt hq2 (Nat.le_of_ble_eq_true rfl))).trans ((q13 q (lu_ne hq2 (Nat.le_of_ble_eq_true rfl))).trans ((q12 q hq1).trans ((q11 q (lu_lt hq2 (Nat.le_of_ble_eq_true rfl))).trans ((q10 q (lu_ne hq2 (Nat.le_of_ble_eq_true rfl))).trans (q9 q hq1))))))))))))))))))
  rw [(Nat.add_assoc b k 9).symm] at k8
  have k11 := r11.keep (fun q h1 h2 => have hq1 : q ≠ b + k := kp_ne h1 (Nat.le_of_ble_eq_true rfl); have hq2 : q < b + (k + 13) := kp_lt h2 (Nat.le_of_ble_eq_true rfl); ((q25 q hq1).trans ((q24 q hq1).trans ((q23 q (lu_lt hq2 (Nat.le_of_ble_eq_true rfl))).trans ((q22 q hq1).trans ((q21 q (lu_lt hq2 (Nat.le_of_ble_eq_true rfl))).trans ((q20 q hq1).trans ((q19 q (lu_lt hq2 (Nat.le_of_ble_eq_true rfl))).trans ((q18 q hq1).trans ((q17 q (lu_lt hq2 (Nat.le_of_ble_eq_true rfl))).trans ((q16 q (lu_ne hq2 (Nat.le_of_ble_eq_true rfl))).trans ((q15 q hq1).trans ((q14 q (lu_lt hq2 (Nat.le_of_ble_eq_true rfl))).trans ((q13 q (lu_ne hq2 (Nat.le_of_ble_eq_true rfl))).trans (q12 q hq1)))))))))))))))
  rw [(Nat.add_assoc b k 11).symm] at k11
  have k14 := r14.keep (fun q h1 h2 => have hq1 : q ≠ b + k := kp_ne h1 (Nat.le_of_ble_eq_true rfl); have hq2 : q < b + (k + 15) := kp_lt h2 (Nat.le_of_ble_eq_true rfl); ((q25 q hq1).trans ((q24 q hq1).trans ((q23 q (lu_lt hq2 (Nat.le_of_ble_eq_true rfl))).trans ((q22 q hq1).trans ((q21 q (lu_lt hq2 (Nat.le_of_ble_eq_true rfl))).trans ((q20 q hq1).trans ((q19 q (lu_lt hq2 (Nat.le_of_ble_eq_true rfl))).trans ((q18 q hq1).trans ((q17 q (lu_lt hq2 (Nat.le_of_ble_eq_true rfl))).trans ((q16 q (lu_ne hq2 (Nat.le_of_ble_eq_true rfl))).trans (q15 q hq1))))))))))))
  rw [(Nat.add_assoc b k 13).symm] at k14
  have k17 := r17.keep (fun q h1 h2 => have hq1 : q ≠ b + k := kp_ne h1 (Nat.le_of_ble_eq_true rfl); have hq2 : q < b + (k + 17) := kp_lt h2 (Nat.le_of_ble_eq_true rfl); ((q25 q hq1).trans ((q24 q hq1).trans ((q23 q (lu_lt hq2 (Nat.le_of_ble_eq_true rfl))).trans ((q22 q hq1).trans ((q21 q (lu_lt hq2 (Nat.le_of_ble_eq_true rfl))).trans ((q20 q hq1).trans ((q19 q (lu_lt hq2 (Nat.le_of_ble_eq_true rfl))).trans (q18 q hq1)))))))))
  rw [(Nat.add_assoc b k 15).symm] at k17
  have k19 := f19.keep (fun q h1 h2 => have hq1 : q ≠ b + k := kp_ne h1 (Nat.le_of_ble_eq_true rfl); have hq2 : q < b + (k + 26) := kp_ltf h2 (Nat.le_of_ble_eq_true rfl); ((q25 q hq1).trans ((q24 q hq1).trans ((q23 q (lu_lt hq2 (Nat.le_of_ble_eq_true rfl))).trans ((q22 q hq1).trans ((q21 q (lu_lt hq2 (Nat.le_of_ble_eq_true rfl))).trans (q20 q hq1)))))))
  rw [(Nat.add_assoc b k 17).symm] at k19
  have k21 := f21.keep (fun q h1 h2 => have hq1 : q ≠ b + k := kp_ne h1 (Nat.le_of_ble_eq_true rfl); have hq2 : q < b + (k + 41) := kp_ltf h2 (Nat.le_of_ble_eq_true rfl); ((q25 q hq1).trans ((q24 q hq1).trans ((q23 q (lu_lt hq2 (Nat.le_of_ble_eq_true rfl))).trans (q22 q hq1)))))
  rw [(Nat.add_assoc b k 26).symm] at k21
  have k23 := f23.keep (fun q h1 h2 => have hq1 : q ≠ b + k := kp_ne h1 (Nat.le_of_ble_eq_true rfl); have hq2 : q < b + (k + 54) := kp_ltf h2 (Nat.le_of_ble_eq_true rfl); ((q25 q hq1).trans (q24 q hq1)))
  rw [(Nat.add_assoc b k 41).symm] at k23
  exact pw_mret hx hb hret hlocks hz hH (⟨⟨kc0, k2, k5, k8, k11, k14, k17, k19, k21, k23⟩, fun a h => ((q25 a (Nat.ne_of_lt h)).trans ((q24 a (Nat.ne_of_lt h)).trans ((q23 a (lu_lt0 h)).trans ((q22 a (Nat.ne_of_lt h)).trans ((q21 a (lu_lt0 h)).trans ((q20 a (Nat.ne_of_lt h)).trans ((q19 a (lu_lt0 h)).trans ((q18 a (Nat.ne_of_lt h)).trans ((q17 a (lu_lt0 h)).trans ((q16 a (lu_ne0 h)).trans ((q15 a (Nat.ne_of_lt h)).trans ((q14 a (lu_lt0 h)).trans ((q13 a (lu_ne0 h)).trans ((q12 a (Nat.ne_of_lt h)).trans ((q11 a (lu_lt0 h)).trans ((q10 a (lu_ne0 h)).trans ((q9 a (Nat.ne_of_lt h)).trans ((q8 a (lu_lt0 h)).trans ((q7 a (lu_ne0 h)).trans ((q6 a (Nat.ne_of_lt h)).trans ((q5 a (lu_lt0 h)).trans ((q4 a (lu_ne0 h)).trans ((q3 a (Nat.ne_of_lt h)).trans ((q2 a (lu_lt0 h)).trans (q1 a (lu_ne0 h))))))))))))))))))))))))))⟩) dX5_init_101

set_option maxHeartbeats 400000 in
set_option maxRecDepth 100000 in
/-- Factoring() -/
theorem c_Factoring_new (l : Launch) (D : va_G) (cJ cI cR : ClassId) (b : Nat) (E : Nat → va_E) (sz k : Nat) (hsz0 : sz = b + (k + 1)) (hthis : E (b + k) = .inr (0, [.null, .null, .null, .null, .null, .null, .null, .null, .null, .null])) : Met l yX0_init wsX0_init { frames := 4, cells := 83, slots := 615, locals := 74 } (cP D vwCl (tys3 cJ cI cR) b (k + 1) E sz [.ref (b + k)]) (cQm D vwCl (tys3 cJ cI cR) b (k + 84) (fun E' => factoringAt cJ cI cR (b + k) E' ∧ ∀ a, a < b + k → E' a = E a)) 83 615 (PA b) := by
  refine Met.ofW (cc := cX0_init) (maxL := 1) (ret := none) (by decide) rfl ?_
  intro p e s m args below meth c s₁ B hml hv
  obtain ⟨rfl, hsz, hB⟩ := hv
  have hx := B.exec
  have hb := B.bytes
  have hret := B.returns
  have hts := atoms_spec (ws := wsX0_init) B.pre
  have hown : s.vm.findClass RX0 = some m.cls := findClass_of_methodNamed B.named
  have hlocks := B.notSynchronized
  have hin : meth.name = "<init>" := (name_of_methodNamed B.named B.method).1
  subst hsz
  have hz := PS.start hB
  have hl := lv_entry ([.ref (b + k)]) (n := 1) (Nat.le_of_ble_eq_true rfl)
  rw [lg_entry_eq]
  generalize (lg_sl ([.ref (b + k)]) ++ List.replicate (1 - (lg_sl ([.ref (b + k)])).length) Slot.unset).toArray = ls at hl ⊢
  have hl : lv_has ls 1 [(0, .ref (b + k))] := hl
  have hw0 := hts (.methodLink RX0 3 objectInit) (by decide +kernel)
  have hw1 := hts (.instanceMethod objectInit) (by decide +kernel)
  have hw2 := hts (.code objectInit ⟨#[0xb1]⟩ 1 none) (List.mem_of_getElem? (i := 3) rfl)
  have hw3 : ∀ w ∈ u_ws RX5 TX5 10, w ∈ wsX0_init := by decide +kernel
  have hw4 := hts (.classLink RX0 9 RX5) (by decide +kernel)
  have hw5 := hts (.instantiable RX5 10) (by decide +kernel)
  have hw6 := hts (.initialized RX5) (by decide +kernel)
  have hw7 := hts (.instanceMethod yX5_init) (by decide +kernel)
  have hw8 : ∀ w ∈ u_ws RX0 TX0 10, w ∈ wsX0_init := by decide +kernel
  have hw9 := hts (.fieldLink RX0 12 "GaloisDesk$Factoring" "splitter" "LGaloisDesk$Splitter;") (by decide +kernel)
  have hw10 := hts (.fieldLink RX0 18 "GaloisDesk$Splitter" "residues" "LGaloisDesk$Residues;") (by decide +kernel)
  have hw11 := hts (.fieldLink RX0 22 "GaloisDesk$Factoring" "residues" "LGaloisDesk$Residues;") (by decide +kernel)
  have hw12 : ∀ w ∈ u_ws RX4 TX4 2, w ∈ wsX0_init := by decide +kernel
  have hw13 := hts (.classLink RX0 23 RX4) (by decide +kernel)
  have hw14 := hts (.instantiable RX4 2) (by decide +kernel)
  have hw15 := hts (.initialized RX4) (by decide +kernel)
  have hw16 := hts (.instanceMethod yX4_init) (by decide +kernel)
  have hw17 := hts (.fieldLink RX0 26 "GaloisDesk$Factoring" "body" "LGaloisDesk$Row;") (by decide +kernel)
  have hw18 := hts (.fieldLink RX0 30 "GaloisDesk$Factoring" "rest" "LGaloisDesk$Row;") (by decide +kernel)
  have hw19 := hts (.fieldLink RX0 33 "GaloisDesk$Factoring" "slope" "LGaloisDesk$Row;") (by decide +kernel)
  have hw20 := hts (.fieldLink RX0 36 "GaloisDesk$Factoring" "shared" "LGaloisDesk$Row;") (by decide +kernel)
  have hw21 := hts (.fieldLink RX0 39 "GaloisDesk$Factoring" "candidate" "LGaloisDesk$Row;") (by decide +kernel)
  have hw22 := hts (.fieldLink RX0 42 "GaloisDesk$Factoring" "quotient" "LGaloisDesk$Row;") (by decide +kernel)
  have hw23 := hts (.fieldLink RX0 45 "GaloisDesk$Factoring" "scratch" "LGaloisDesk$Row;") (by decide +kernel)
  have hw24 : ∀ w ∈ u_ws RX2 TX2 4, w ∈ wsX0_init := by decide +kernel
  have hw25 := hts (.classLink RX0 48 RX2) (by decide +kernel)
  have hw26 := hts (.instantiable RX2 4) (by decide +kernel)
  have hw27 := hts (.initialized RX2) (by decide +kernel)
  have hw28 := hts (.instanceMethod yX2_init) (by decide +kernel)
  have hw29 := hts (.fieldLink RX0 51 "GaloisDesk$Factoring" "found" "LGaloisDesk$PartList;") (by decide +kernel)
  have hH : s.heap.size = b + (k + 1) := hsz0
  refine lv_aload_n hx hb dX0_init_0 rfl (lv_at hl 0 rfl) ?_
  refine W.objInit hx hb hown hw0 hw1 hw2 rfl (by rw [hml]; exact hl.1) rfl dX0_init_1 (Nat.le_of_ble_eq_true rfl) (Nat.le_of_ble_eq_true rfl) ?_
  refine W.eq (g2 := F0 m 4 ls []) rfl ?_
  refine lv_aload_n hx hb dX0_init_4 rfl (lv_at hl 0 rfl) ?_
  refine pw_new (ci := 4) (fs := [.null, .null, .null, .null, .null, .null, .null, .null, .null, .int 0]) (C := RX5) (T := TX5) (N := 10) hx hb hts hw3 tyX5 tyX5_ok hown hw4 hw5 hw6 hz hH rfl (fun j hj => by rcases (show j = 0 ∨ j = 1 ∨ j = 2 ∨ j = 3 ∨ j = 4 ∨ j = 5 ∨ j = 6 ∨ j = 7 ∨ j = 8 ∨ j = 9 by omega) with rfl | rfl | rfl | rfl | rfl | rfl | rfl | rfl | rfl | rfl <;> rfl) (Nat.le_of_ble_eq_true rfl) (Nat.le_of_ble_eq_true rfl) dX0_init_5 (fun H hz hH => ?_)
  have hH : H.size = b + (k + 2) := hH
  obtain ⟨E1, hE1⟩ : ∃ X, X = va_up E (b + (k + 1)) (.inr (4, [.null, .null, .null, .null, .null, .null, .null, .null, .null, .int 0])) := ⟨_, rfl⟩
  have hz : PS D vwCl (tys3 cJ cI cR) b (k + 2) s E1 H [] := by rw [hE1]; exact hz
  have q1 : ∀ a : Nat, a ≠ (b + (k + 1)) → E1 a = E a := fun a h => by rw [hE1]; exact va_up_ne _ _ h
  have p1 : E1 (b + (k + 1)) = .inr (4, [.null, .null, .null, .null, .null, .null, .null, .null, .null, .int 0]) := by rw [hE1]; exact va_up_self _ _ _
  refine lv_dup hx hb dX0_init_8 rfl ?_
  refine pw_callm hz (va_runIN (As := []) (rest := [.ref (b + (k + 1)), .ref (b + k)]) ⟨hx, hb, hml, hown, hts⟩ (c_Splitter_new l D cJ cI cR b _ H.size (k + 1) hH p1) ⟨va_cnB 0 hts gX0_init_X5_init_n11 rfl rfl rfl hz.2.2.2.2.2.1.2.2.2.2.1 hw6 (by decide +kernel) ⟨Nat.le_of_ble_eq_true rfl, Nat.le_of_ble_eq_true rfl⟩, rfl, hw7⟩ hz.preS rfl rfl hl.1 rfl (lv_room (Nat.le_of_ble_eq_true rfl)) dX0_init_9 ⟨Nat.le_of_ble_eq_true rfl, Nat.le_of_ble_eq_true rfl⟩) (fun E2 H locs hp2 hz hH => ?_)
  have hz : PS D vwCl (tys3 cJ cI cR) b (k + 55) s E2 H locs := hz
  have hH : H.size = b + (k + 55) := hH
  obtain ⟨o2, q2⟩ := hp2
  refine pw_putFS (C := RX0) (T := TX0) (N := 10) (ci := 0) (ty := .object "GaloisDesk$Splitter") (v := .ref (b + (k + 1))) hx hb hts hw8 tyX0 tyX0_ok nmX0 hown hz hH (by omega) ((q2 _ (lt_lt (Nat.le_of_ble_eq_true rfl))).trans ((q1 _ (lt_ne (Nat.le_of_ble_eq_true rfl))).trans hthis)) rfl 0 (by decide) hw9 (fun _ h9 => h9) rfl hin rfl (by decide +kernel) rfl rfl (Nat.le_of_ble_eq_true rfl) dX0_init_12 (fun H locs hz hH => ?_)
  obtain ⟨E3, hE3⟩ : ∃ X, X = va_up E2 (b + k) (.inr (0, [.ref (b + (k + 1)), .null, .null, .null, .null, .null, .null, .null, .null, .null])) := ⟨_, rfl⟩
  have hz : PS D vwCl (tys3 cJ cI cR) b (k + 55) s E3 H locs := by rw [hE3]; exact hz
  have q3 : ∀ a : Nat, a ≠ (b + k) → E3 a = E2 a := fun a h => by rw [hE3]; exact va_up_ne _ _ h
  have p3 : E3 (b + k) = .inr (0, [.ref (b + (k + 1)), .null, .null, .null, .null, .null, .null, .null, .null, .null]) := by rw [hE3]; exact va_up_self _ _ _
  refine lv_aload_n hx hb dX0_init_15 rfl (lv_at hl 0 rfl) ?_
  refine lv_aload_n hx hb dX0_init_16 rfl (lv_at hl 0 rfl) ?_
  refine pw_get (C := RX0) (T := TX0) (N := 10) (ci := 0) (v := .ref (b + (k + 1))) hx hb hts hw8 hown hz (by omega) p3 rfl 0 (by decide) hw9 (fun _ h9 => h9) rfl dX0_init_17 ?_
  have hspl : E3 (b + (k + 1)) = .inr (4, [.ref (b + (k + 1) + 1), .ref (b + (k + 1) + 7), .ref (b + (k + 1) + 9), .ref (b + (k + 1) + 11), .ref (b + (k + 1) + 13), .ref (b + (k + 1) + 15), .ref (b + (k + 1) + 17), .ref (b + (k + 1) + 26), .ref (b + (k + 1) + 41), .int 0]) := (o2.keep (fun q h1 h2 => have hq1 : q ≠ b + k := kp_ne h1 (Nat.le_of_ble_eq_true rfl); have hq2 : q < b + (k + 55) := kp_lt h2 (Nat.le_of_ble_eq_true rfl); (q3 q hq1))).1
  refine pw_get (C := RX5) (T := TX5) (N := 10) (ci := 4) (v := .ref (b + (k + 1) + 1)) hx hb hts hw3 hown hz (by omega) hspl rfl 0 (by decide) hw10 (fun _ h9 => h9) rfl dX0_init_20 ?_
  refine pw_putFS (C := RX0) (T := TX0) (N := 10) (ci := 0) (ty := .object "GaloisDesk$Residues") (v := .ref (b + (k + 1) + 1)) hx hb hts hw8 tyX0 tyX0_ok nmX0 hown hz hH (by omega) p3 rfl 1 (by decide) hw11 (fun _ h9 => h9) rfl hin rfl (by decide +kernel) rfl rfl (Nat.le_of_ble_eq_true rfl) dX0_init_23 (fun H locs hz hH => ?_)
  obtain ⟨E4, hE4⟩ : ∃ X, X = va_up E3 (b + k) (.inr (0, [.ref (b + (k + 1)), .ref (b + (k + 1) + 1), .null, .null, .null, .null, .null, .null, .null, .null])) := ⟨_, rfl⟩
  have hz : PS D vwCl (tys3 cJ cI cR) b (k + 55) s E4 H locs := by rw [hE4]; exact hz
  have q4 : ∀ a : Nat, a ≠ (b + k) → E4 a = E3 a := fun a h => by rw [hE4]; exact va_up_ne _ _ h
  have p4 : E4 (b + k) = .inr (0, [.ref (b + (k + 1)), .ref (b + (k + 1) + 1), .null, .null, .null, .null, .null, .null, .null, .null]) := by rw [hE4]; exact va_up_self _ _ _
  refine lv_aload_n hx hb dX0_init_26 rfl (lv_at hl 0 rfl) ?_
  refine pw_new (ci := 3) (fs := [.null, .int 0]) (C := RX4) (T := TX4) (N := 2) hx hb hts hw12 tyX4 tyX4_ok hown hw13 hw14 hw15 hz hH rfl (fun j hj => by rcases (show j = 0 ∨ j = 1 by omega) with rfl | rfl <;> rfl) (Nat.le_of_ble_eq_true rfl) (Nat.le_of_ble_eq_true rfl) dX0_init_27 (fun H hz hH => ?_)
  have hH : H.size = b + (k + 56) := hH
  obtain ⟨E5, hE5⟩ : ∃ X, X = va_up E4 (b + (k + 55)) (.inr (3, [.null, .int 0])) := ⟨_, rfl⟩
  have hz : PS D vwCl (tys3 cJ cI cR) b (k + 56) s E5 H locs := by rw [hE5]; exact hz
  have q5 : ∀ a : Nat, a ≠ (b + (k + 55)) → E5 a = E4 a := fun a h => by rw [hE5]; exact va_up_ne _ _ h
  have p5 : E5 (b + (k + 55)) = .inr (3, [.null, .int 0]) := by rw [hE5]; exact va_up_self _ _ _
  refine lv_dup hx hb dX0_init_30 rfl ?_
  refine pw_callm hz (va_runIN (As := []) (rest := [.ref (b + (k + 55)), .ref (b + k)]) ⟨hx, hb, hml, hown, hts⟩ (c_Row_new l D cJ cI cR b _ H.size (k + 55) hH p5) ⟨va_cnB 0 hts gX0_init_X4_init_n25 rfl rfl rfl hz.2.2.2.2.2.1.2.2.2.2.2.2.2.2.2.1 hw15 (by decide +kernel) ⟨Nat.le_of_ble_eq_true rfl, Nat.le_of_ble_eq_true rfl⟩, rfl, hw16⟩ hz.preS rfl rfl hl.1 rfl (lv_room (Nat.le_of_ble_eq_true rfl)) dX0_init_31 ⟨Nat.le_of_ble_eq_true rfl, Nat.le_of_ble_eq_true rfl⟩) (fun E6 H locs hp6 hz hH => ?_)
  have hz : PS D vwCl (tys3 cJ cI cR) b (k + 57) s E6 H locs := hz
  have hH : H.size = b + (k + 57) := hH
  obtain ⟨ra6, rb6, q6⟩ := hp6
  have r6 : rowF cJ (b + (k + 55)) E6 := ⟨ra6, rb6⟩
  refine pw_putFS (C := RX0) (T := TX0) (N := 10) (ci := 0) (ty := .object "GaloisDesk$Row") (v := .ref (b + (k + 55))) hx hb hts hw8 tyX0 tyX0_ok nmX0 hown hz hH (by omega) ((q6 _ (lt_lt (Nat.le_of_ble_eq_true rfl))).trans ((q5 _ (lt_ne (Nat.le_of_ble_eq_true rfl))).trans p4)) rfl 2 (by decide) hw17 (fun _ h9 => h9) rfl hin rfl (by decide +kernel) rfl rfl (Nat.le_of_ble_eq_true rfl) dX0_init_34 (fun H locs hz hH => ?_)
  obtain ⟨E7, hE7⟩ : ∃ X, X = va_up E6 (b + k) (.inr (0, [.ref (b + (k + 1)), .ref (b + (k + 1) + 1), .ref (b + (k + 55)), .null, .null, .null, .null, .null, .null, .null])) := ⟨_, rfl⟩
  have hz : PS D vwCl (tys3 cJ cI cR) b (k + 57) s E7 H locs := by rw [hE7]; exact hz
  have q7 : ∀ a : Nat, a ≠ (b + k) → E7 a = E6 a := fun a h => by rw [hE7]; exact va_up_ne _ _ h
  have p7 : E7 (b + k) = .inr (0, [.ref (b + (k + 1)), .ref (b + (k + 1) + 1), .ref (b + (k + 55)), .null, .null, .null, .null, .null, .null, .null]) := by rw [hE7]; exact va_up_self _ _ _
  refine lv_aload_n hx hb dX0_init_37 rfl (lv_at hl 0 rfl) ?_
  refine pw_new (ci := 3) (fs := [.null, .int 0]) (C := RX4) (T := TX4) (N := 2) hx hb hts hw12 tyX4 tyX4_ok hown hw13 hw14 hw15 hz hH rfl (fun j hj => by rcases (show j = 0 ∨ j = 1 by omega) with rfl | rfl <;> rfl) (Nat.le_of_ble_eq_true rfl) (Nat.le_of_ble_eq_true rfl) dX0_init_38 (fun H hz hH => ?_)
  have hH : H.size = b + (k + 58) := hH
  obtain ⟨E8, hE8⟩ : ∃ X, X = va_up E7 (b + (k + 57)) (.inr (3, [.null, .int 0])) := ⟨_, rfl⟩
  have hz : PS D vwCl (tys3 cJ cI cR) b (k + 58) s E8 H locs := by rw [hE8]; exact hz
  have q8 : ∀ a : Nat, a ≠ (b + (k + 57)) → E8 a = E7 a := fun a h => by rw [hE8]; exact va_up_ne _ _ h
  have p8 : E8 (b + (k + 57)) = .inr (3, [.null, .int 0]) := by rw [hE8]; exact va_up_self _ _ _
  refine lv_dup hx hb dX0_init_41 rfl ?_
  refine pw_callm hz (va_runIN (As := []) (rest := [.ref (b + (k + 57)), .ref (b + k)]) ⟨hx, hb, hml, hown, hts⟩ (c_Row_new l D cJ cI cR b _ H.size (k + 57) hH p8) ⟨va_cnB 0 hts gX0_init_X4_init_n25 rfl rfl rfl hz.2.2.2.2.2.1.2.2.2.2.2.2.2.2.2.1 hw15 (by decide +kernel) ⟨Nat.le_of_ble_eq_true rfl, Nat.le_of_ble_eq_true rfl⟩, rfl, hw16⟩ hz.preS rfl rfl hl.1 rfl (lv_room (Nat.le_of_ble_eq_true rfl)) dX0_init_42 ⟨Nat.le_of_ble_eq_true rfl, Nat.le_of_ble_eq_true rfl⟩) (fun E9 H locs hp9 hz hH => ?_)
  have hz : PS D vwCl (tys3 cJ cI cR) b (k + 59) s E9 H locs := hz
  have hH : H.size = b + (k + 59) := hH
  obtain ⟨ra9, rb9, q9⟩ := hp9
  have r9 : rowF cJ (b + (k + 57)) E9 := ⟨ra9, rb9⟩
  refine pw_putFS (C := RX0) (T := TX0) (N := 10) (ci := 0) (ty := .object "GaloisDesk$Row") (v := .ref (b + (k + 57))) hx hb hts hw8 tyX0 tyX0_ok nmX0 hown hz hH (by omega) ((q9 _ (lt_lt (Nat.le_of_ble_eq_true rfl))).trans ((q8 _ (lt_ne (Nat.le_of_ble_eq_true rfl))).trans p7)) rfl 3 (by decide) hw18 (fun _ h9 => h9) rfl hin rfl (by decide +kernel) rfl rfl (Nat.le_of_ble_eq_true rfl) dX0_init_45 (fun H locs hz hH => ?_)
  obtain ⟨E10, hE10⟩ : ∃ X, X = va_up E9 (b + k) (.inr (0, [.ref (b + (k + 1)), .ref (b + (k + 1) + 1), .ref (b + (k + 55)), .ref (b + (k + 57)), .null, .null, .null, .null, .null, .null])) := ⟨_, rfl⟩
  have hz : PS D vwCl (tys3 cJ cI cR) b (k + 59) s E10 H locs := by rw [hE10]; exact hz
  have q10 : ∀ a : Nat, a ≠ (b + k) → E10 a = E9 a := fun a h => by rw [hE10]; exact va_up_ne _ _ h
  have p10 : E10 (b + k) = .inr (0, [.ref (b + (k + 1)), .ref (b + (k + 1) + 1), .ref (b + (k + 55)), .ref (b + (k + 57)), .null, .null, .null, .null, .null, .null]) := by rw [hE10]; exact va_up_self _ _ _
  refine lv_aload_n hx hb dX0_init_48 rfl (lv_at hl 0 rfl) ?_
  refine pw_new (ci := 3) (fs := [.null, .int 0]) (C := RX4) (T := TX4) (N := 2) hx hb hts hw12 tyX4 tyX4_ok hown hw13 hw14 hw15 hz hH rfl (fun j hj => by rcases (show j = 0 ∨ j = 1 by omega) with rfl | rfl <;> rfl) (Nat.le_of_ble_eq_true rfl) (Nat.le_of_ble_eq_true rfl) dX0_init_49 (fun H hz hH => ?_)
  have hH : H.size = b + (k + 60) := hH
  obtain ⟨E11, hE11⟩ : ∃ X, X = va_up E10 (b + (k + 59)) (.inr (3, [.null, .int 0])) := ⟨_, rfl⟩
  have hz : PS D vwCl (tys3 cJ cI cR) b (k + 60) s E11 H locs := by rw [hE11]; exact hz
  have q11 : ∀ a : Nat, a ≠ (b + (k + 59)) → E11 a = E10 a := fun a h => by rw [hE11]; exact va_up_ne _ _ h
  have p11 : E11 (b + (k + 59)) = .inr (3, [.null, .int 0]) := by rw [hE11]; exact va_up_self _ _ _
  refine lv_dup hx hb dX0_init_52 rfl ?_
  refine pw_callm hz (va_runIN (As := []) (rest := [.ref (b + (k + 59)), .ref (b + k)]) ⟨hx, hb, hml, hown, hts⟩ (c_Row_new l D cJ cI cR b _ H.size (k + 59) hH p11) ⟨va_cnB 0 hts gX0_init_X4_init_n25 rfl rfl rfl hz.2.2.2.2.2.1.2.2.2.2.2.2.2.2.2.1 hw15 (by decide +kernel) ⟨Nat.le_of_ble_eq_true rfl, Nat.le_of_ble_eq_true rfl⟩, rfl, hw16⟩ hz.preS rfl rfl hl.1 rfl (lv_room (Nat.le_of_ble_eq_true rfl)) dX0_init_53 ⟨Nat.le_of_ble_eq_true rfl, Nat.le_of_ble_eq_true rfl⟩) (fun E12 H locs hp12 hz hH => ?_)
  have hz : PS D vwCl (tys3 cJ cI cR) b (k + 61) s E12 H locs := hz
  have hH : H.size = b + (k + 61) := hH
  obtain ⟨ra12, rb12, q12⟩ := hp12
  have r12 : rowF cJ (b + (k + 59)) E12 := ⟨ra12, rb12⟩
  refine pw_putFS (C := RX0) (T := TX0) (N := 10) (ci := 0) (ty := .object "GaloisDesk$Row") (v := .ref (b + (k + 59))) hx hb hts hw8 tyX0 tyX0_ok nmX0 hown hz hH (by omega) ((q12 _ (lt_lt (Nat.le_of_ble_eq_true rfl))).trans ((q11 _ (lt_ne (Nat.le_of_ble_eq_true rfl))).trans p10)) rfl 4 (by decide) hw19 (fun _ h9 => h9) rfl hin rfl (by decide +kernel) rfl rfl (Nat.le_of_ble_eq_true rfl) dX0_init_56 (fun H locs hz hH => ?_)
  obtain ⟨E13, hE13⟩ : ∃ X, X = va_up E12 (b + k) (.inr (0, [.ref (b + (k + 1)), .ref (b + (k + 1) + 1), .ref (b + (k + 55)), .ref (b + (k + 57)), .ref (b + (k + 59)), .null, .null, .null, .null, .null])) := ⟨_, rfl⟩
  have hz : PS D vwCl (tys3 cJ cI cR) b (k + 61) s E13 H locs := by rw [hE13]; exact hz
  have q13 : ∀ a : Nat, a ≠ (b + k) → E13 a = E12 a := fun a h => by rw [hE13]; exact va_up_ne _ _ h
  have p13 : E13 (b + k) = .inr (0, [.ref (b + (k + 1)), .ref (b + (k + 1) + 1), .ref (b + (k + 55)), .ref (b + (k + 57)), .ref (b + (k + 59)), .null, .null, .null, .null, .null]) := by rw [hE13]; exact va_up_self _ _ _
  refine lv_aload_n hx hb dX0_init_59 rfl (lv_at hl 0 rfl) ?_
  refine pw_new (ci := 3) (fs := [.null, .int 0]) (C := RX4) (T := TX4) (N := 2) hx hb hts hw12 tyX4 tyX4_ok hown hw13 hw14 hw15 hz hH rfl (fun j hj => by rcases (show j = 0 ∨ j = 1 by omega) with rfl | rfl <;> rfl) (Nat.le_of_ble_eq_true rfl) (Nat.le_of_ble_eq_true rfl) dX0_init_60 (fun H hz hH => ?_)
  have hH : H.size = b + (k + 62) := hH
  obtain ⟨E14, hE14⟩ : ∃ X, X = va_up E13 (b + (k + 61)) (.inr (3, [.null, .int 0])) := ⟨_, rfl⟩
  have hz : PS D vwCl (tys3 cJ cI cR) b (k + 62) s E14 H locs := by rw [hE14]; exact hz
  have q14 : ∀ a : Nat, a ≠ (b + (k + 61)) → E14 a = E13 a := fun a h => by rw [hE14]; exact va_up_ne _ _ h
  have p14 : E14 (b + (k + 61)) = .inr (3, [.null, .int 0]) := by rw [hE14]; exact va_up_self _ _ _
  refine lv_dup hx hb dX0_init_63 rfl ?_
  refine pw_callm hz (va_runIN (As := []) (rest := [.ref (b + (k + 61)), .ref (b + k)]) ⟨hx, hb, hml, hown, hts⟩ (c_Row_new l D cJ cI cR b _ H.size (k + 61) hH p14) ⟨va_cnB 0 hts gX0_init_X4_init_n25 rfl rfl rfl hz.2.2.2.2.2.1.2.2.2.2.2.2.2.2.2.1 hw15 (by decide +kernel) ⟨Nat.le_of_ble_eq_true rfl, Nat.le_of_ble_eq_true rfl⟩, rfl, hw16⟩ hz.preS rfl rfl hl.1 rfl (lv_room (Nat.le_of_ble_eq_true rfl)) dX0_init_64 ⟨Nat.le_of_ble_eq_true rfl, Nat.le_of_ble_eq_true rfl⟩) (fun E15 H locs hp15 hz hH => ?_)
  have hz : PS D vwCl (tys3 cJ cI cR) b (k + 63) s E15 H locs := hz
  have hH : H.size = b + (k + 63) := hH
  obtain ⟨ra15, rb15, q15⟩ := hp15
  have r15 : rowF cJ (b + (k + 61)) E15 := ⟨ra15, rb15⟩
  refine pw_putFS (C := RX0) (T := TX0) (N := 10) (ci := 0) (ty := .object "GaloisDesk$Row") (v := .ref (b + (k + 61))) hx hb hts hw8 tyX0 tyX0_ok nmX0 hown hz hH (by omega) ((q15 _ (lt_lt (Nat.le_of_ble_eq_true rfl))).trans ((q14 _ (lt_ne (Nat.le_of_ble_eq_true rfl))).trans p13)) rfl 5 (by decide) hw20 (fun _ h9 => h9) rfl hin rfl (by decide +kernel) rfl rfl (Nat.le_of_ble_eq_true rfl) dX0_init_67 (fun H locs hz hH => ?_)
  obtain ⟨E16, hE16⟩ : ∃ X, X = va_up E15 (b + k) (.inr (0, [.ref (b + (k + 1)), .ref (b + (k + 1) + 1), .ref (b + (k + 55)), .ref (b + (k + 57)), .ref (b + (k + 59)), .ref (b + (k + 61)), .null, .null, .null, .null])) := ⟨_, rfl⟩
  have hz : PS D vwCl (tys3 cJ cI cR) b (k + 63) s E16 H locs := by rw [hE16]; exact hz
  have q16 : ∀ a : Nat, a ≠ (b + k) → E16 a = E15 a := fun a h => by rw [hE16]; exact va_up_ne _ _ h
  have p16 : E16 (b + k) = .inr (0, [.ref (b + (k + 1)), .ref (b + (k + 1) + 1), .ref (b + (k + 55)), .ref (b + (k + 57)), .ref (b + (k + 59)), .ref (b + (k + 61)), .null, .null, .null, .null]) := by rw [hE16]; exact va_up_self _ _ _
  refine lv_aload_n hx hb dX0_init_70 rfl (lv_at hl 0 rfl) ?_
  refine pw_new (ci := 3) (fs := [.null, .int 0]) (C := RX4) (T := TX4) (N := 2) hx hb hts hw12 tyX4 tyX4_ok hown hw13 hw14 hw15 hz hH rfl (fun j hj => by rcases (show j = 0 ∨ j = 1 by omega) with rfl | rfl <;> rfl) (Nat.le_of_ble_eq_true rfl) (Nat.le_of_ble_eq_true rfl) dX0_init_71 (fun H hz hH => ?_)
  have hH : H.size = b + (k + 64) := hH
  obtain ⟨E17, hE17⟩ : ∃ X, X = va_up E16 (b + (k + 63)) (.inr (3, [.null, .int 0])) := ⟨_, rfl⟩
  have hz : PS D vwCl (tys3 cJ cI cR) b (k + 64) s E17 H locs := by rw [hE17]; exact hz
  have q17 : ∀ a : Nat, a ≠ (b + (k + 63)) → E17 a = E16 a := fun a h => by rw [hE17]; exact va_up_ne _ _ h
  have p17 : E17 (b + (k + 63)) = .inr (3, [.null, .int 0]) := by rw [hE17]; exact va_up_self _ _ _
  refine lv_dup hx hb dX0_init_74 rfl ?_
  refine pw_callm hz (va_runIN (As := []) (rest := [.ref (b + (k + 63)), .ref (b + k)]) ⟨hx, hb, hml, hown, hts⟩ (c_Row_new l D cJ cI cR b _ H.size (k + 63) hH p17) ⟨va_cnB 0 hts gX0_init_X4_init_n25 rfl rfl rfl hz.2.2.2.2.2.1.2.2.2.2.2.2.2.2.2.1 hw15 (by decide +kernel) ⟨Nat.le_of_ble_eq_true rfl, Nat.le_of_ble_eq_true rfl⟩, rfl, hw16⟩ hz.preS rfl rfl hl.1 rfl (lv_room (Nat.le_of_ble_eq_true rfl)) dX0_init_75 ⟨Nat.le_of_ble_eq_true rfl, Nat.le_of_ble_eq_true rfl⟩) (fun E18 H locs hp18 hz hH => ?_)
  have hz : PS D vwCl (tys3 cJ cI cR) b (k + 65) s E18 H locs := hz
  have hH : H.size = b + (k + 65) := hH
  obtain ⟨ra18, rb18, q18⟩ := hp18
  have r18 : rowF cJ (b + (k + 63)) E18 := ⟨ra18, rb18⟩
  refine pw_putFS (C := RX0) (T := TX0) (N := 10) (ci := 0) (ty := .object "GaloisDesk$Row") (v := .ref (b + (k + 63))) hx hb hts hw8 tyX0 tyX0_ok nmX0 hown hz hH (by omega) ((q18 _ (lt_lt (Nat.le_of_ble_eq_true rfl))).trans ((q17 _ (lt_ne (Nat.le_of_ble_eq_true rfl))).trans p16)) rfl 6 (by decide) hw21 (fun _ h9 => h9) rfl hin rfl (by decide +kernel) rfl rfl (Nat.le_of_ble_eq_true rfl) dX0_init_78 (fun H locs hz hH => ?_)
  obtain ⟨E19, hE19⟩ : ∃ X, X = va_up E18 (b + k) (.inr (0, [.ref (b + (k + 1)), .ref (b + (k + 1) + 1), .ref (b + (k + 55)), .ref (b + (k + 57)), .ref (b + (k + 59)), .ref (b + (k + 61)), .ref (b + (k + 63)), .null, .null, .null])) := ⟨_, rfl⟩
  have hz : PS D vwCl (tys3 cJ cI cR) b (k + 65) s E19 H locs := by rw [hE19]; exact hz
  have q19 : ∀ a : Nat, a ≠ (b + k) → E19 a = E18 a := fun a h => by rw [hE19]; exact va_up_ne _ _ h
  have p19 : E19 (b + k) = .inr (0, [.ref (b + (k + 1)), .ref (b + (k + 1) + 1), .ref (b + (k + 55)), .ref (b + (k + 57)), .ref (b + (k + 59)), .ref (b + (k + 61)), .ref (b + (k + 63)), .null, .null, .null]) := by rw [hE19]; exact va_up_self _ _ _
  refine lv_aload_n hx hb dX0_init_81 rfl (lv_at hl 0 rfl) ?_
  refine pw_new (ci := 3) (fs := [.null, .int 0]) (C := RX4) (T := TX4) (N := 2) hx hb hts hw12 tyX4 tyX4_ok hown hw13 hw14 hw15 hz hH rfl (fun j hj => by rcases (show j = 0 ∨ j = 1 by omega) with rfl | rfl <;> rfl) (Nat.le_of_ble_eq_true rfl) (Nat.le_of_ble_eq_true rfl) dX0_init_82 (fun H hz hH => ?_)
  have hH : H.size = b + (k + 66) := hH
  obtain ⟨E20, hE20⟩ : ∃ X, X = va_up E19 (b + (k + 65)) (.inr (3, [.null, .int 0])) := ⟨_, rfl⟩
  have hz : PS D vwCl (tys3 cJ cI cR) b (k + 66) s E20 H locs := by rw [hE20]; exact hz
  have q20 : ∀ a : Nat, a ≠ (b + (k + 65)) → E20 a = E19 a := fun a h => by rw [hE20]; exact va_up_ne _ _ h
  have p20 : E20 (b + (k + 65)) = .inr (3, [.null, .int 0]) := by rw [hE20]; exact va_up_self _ _ _
  refine lv_dup hx hb dX0_init_85 rfl ?_
  refine pw_callm hz (va_runIN (As := []) (rest := [.ref (b + (k + 65)), .ref (b + k)]) ⟨hx, hb, hml, hown, hts⟩ (c_Row_new l D cJ cI cR b _ H.size (k + 65) hH p20) ⟨va_cnB 0 hts gX0_init_X4_init_n25 rfl rfl rfl hz.2.2.2.2.2.1.2.2.2.2.2.2.2.2.2.1 hw15 (by decide +kernel) ⟨Nat.le_of_ble_eq_true rfl, Nat.le_of_ble_eq_true rfl⟩, rfl, hw16⟩ hz.preS rfl rfl hl.1 rfl (lv_room (Nat.le_of_ble_eq_true rfl)) dX0_init_86 ⟨Nat.le_of_ble_eq_true rfl, Nat.le_of_ble_eq_true rfl⟩) (fun E21 H locs hp21 hz hH => ?_)
  have hz : PS D vwCl (tys3 cJ cI cR) b (k + 67) s E21 H locs := hz
  have hH : H.size = b + (k + 67) := hH
  obtain ⟨ra21, rb21, q21⟩ := hp21
  have r21 : rowF cJ (b + (k + 65)) E21 := ⟨ra21, rb21⟩
  refine pw_putFS (C := RX0) (T := TX0) (N := 10) (ci := 0) (ty := .object "GaloisDesk$Row") (v := .ref (b + (k + 65))) hx hb hts hw8 tyX0 tyX0_ok nmX0 hown hz hH (by omega) ((q21 _ (lt_lt (Nat.le_of_ble_eq_true rfl))).trans ((q20 _ (lt_ne (Nat.le_of_ble_eq_true rfl))).trans p19)) rfl 7 (by decide) hw22 (fun _ h9 => h9) rfl hin rfl (by decide +kernel) rfl rfl (Nat.le_of_ble_eq_true rfl) dX0_init_89 (fun H locs hz hH => ?_)
  obtain ⟨E22, hE22⟩ : ∃ X, X = va_up E21 (b + k) (.inr (0, [.ref (b + (k + 1)), .ref (b + (k + 1) + 1), .ref (b + (k + 55)), .ref (b + (k + 57)), .ref (b + (k + 59)), .ref (b + (k + 61)), .ref (b + (k + 63)), .ref (b + (k + 65)), .null, .null])) := ⟨_, rfl⟩
  have hz : PS D vwCl (tys3 cJ cI cR) b (k + 67) s E22 H locs := by rw [hE22]; exact hz
  have q22 : ∀ a : Nat, a ≠ (b + k) → E22 a = E21 a := fun a h => by rw [hE22]; exact va_up_ne _ _ h
  have p22 : E22 (b + k) = .inr (0, [.ref (b + (k + 1)), .ref (b + (k + 1) + 1), .ref (b + (k + 55)), .ref (b + (k + 57)), .ref (b + (k + 59)), .ref (b + (k + 61)), .ref (b + (k + 63)), .ref (b + (k + 65)), .null, .null]) := by rw [hE22]; exact va_up_self _ _ _
  refine lv_aload_n hx hb dX0_init_92 rfl (lv_at hl 0 rfl) ?_
  refine pw_new (ci := 3) (fs := [.null, .int 0]) (C := RX4) (T := TX4) (N := 2) hx hb hts hw12 tyX4 tyX4_ok hown hw13 hw14 hw15 hz hH rfl (fun j hj => by rcases (show j = 0 ∨ j = 1 by omega) with rfl | rfl <;> rfl) (Nat.le_of_ble_eq_true rfl) (Nat.le_of_ble_eq_true rfl) dX0_init_93 (fun H hz hH => ?_)
  have hH : H.size = b + (k + 68) := hH
  obtain ⟨E23, hE23⟩ : ∃ X, X = va_up E22 (b + (k + 67)) (.inr (3, [.null, .int 0])) := ⟨_, rfl⟩
  have hz : PS D vwCl (tys3 cJ cI cR) b (k + 68) s E23 H locs := by rw [hE23]; exact hz
  have q23 : ∀ a : Nat, a ≠ (b + (k + 67)) → E23 a = E22 a := fun a h => by rw [hE23]; exact va_up_ne _ _ h
  have p23 : E23 (b + (k + 67)) = .inr (3, [.null, .int 0]) := by rw [hE23]; exact va_up_self _ _ _
  refine lv_dup hx hb dX0_init_96 rfl ?_
  refine pw_callm hz (va_runIN (As := []) (rest := [.ref (b + (k + 67)), .ref (b + k)]) ⟨hx, hb, hml, hown, hts⟩ (c_Row_new l D cJ cI cR b _ H.size (k + 67) hH p23) ⟨va_cnB 0 hts gX0_init_X4_init_n25 rfl rfl rfl hz.2.2.2.2.2.1.2.2.2.2.2.2.2.2.2.1 hw15 (by decide +kernel) ⟨Nat.le_of_ble_eq_true rfl, Nat.le_of_ble_eq_true rfl⟩, rfl, hw16⟩ hz.preS rfl rfl hl.1 rfl (lv_room (Nat.le_of_ble_eq_true rfl)) dX0_init_97 ⟨Nat.le_of_ble_eq_true rfl, Nat.le_of_ble_eq_true rfl⟩) (fun E24 H locs hp24 hz hH => ?_)
  have hz : PS D vwCl (tys3 cJ cI cR) b (k + 69) s E24 H locs := hz
  have hH : H.size = b + (k + 69) := hH
  obtain ⟨ra24, rb24, q24⟩ := hp24
  have r24 : rowF cJ (b + (k + 67)) E24 := ⟨ra24, rb24⟩
  refine pw_putFS (C := RX0) (T := TX0) (N := 10) (ci := 0) (ty := .object "GaloisDesk$Row") (v := .ref (b + (k + 67))) hx hb hts hw8 tyX0 tyX0_ok nmX0 hown hz hH (by omega) ((q24 _ (lt_lt (Nat.le_of_ble_eq_true rfl))).trans ((q23 _ (lt_ne (Nat.le_of_ble_eq_true rfl))).trans p22)) rfl 8 (by decide) hw23 (fun _ h9 => h9) rfl hin rfl (by decide +kernel) rfl rfl (Nat.le_of_ble_eq_true rfl) dX0_init_100 (fun H locs hz hH => ?_)
  obtain ⟨E25, hE25⟩ : ∃ X, X = va_up E24 (b + k) (.inr (0, [.ref (b + (k + 1)), .ref (b + (k + 1) + 1), .ref (b + (k + 55)), .ref (b + (k + 57)), .ref (b + (k + 59)), .ref (b + (k + 61)), .ref (b + (k + 63)), .ref (b + (k + 65)), .ref (b + (k + 67)), .null])) := ⟨_, rfl⟩
  have hz : PS D vwCl (tys3 cJ cI cR) b (k + 69) s E25 H locs := by rw [hE25]; exact hz
  have q25 : ∀ a : Nat, a ≠ (b + k) → E25 a = E24 a := fun a h => by rw [hE25]; exact va_up_ne _ _ h
  have p25 : E25 (b + k) = .inr (0, [.ref (b + (k + 1)), .ref (b + (k + 1) + 1), .ref (b + (k + 55)), .ref (b + (k + 57)), .ref (b + (k + 59)), .ref (b + (k + 61)), .ref (b + (k + 63)), .ref (b + (k + 65)), .ref (b + (k + 67)), .null]) := by rw [hE25]; exact va_up_self _ _ _
  refine lv_aload_n hx hb dX0_init_103 rfl (lv_at hl 0 rfl) ?_
  refine pw_new (ci := 1) (fs := [.null, .null, .int 0, .int 0]) (C := RX2) (T := TX2) (N := 4) hx hb hts hw24 tyX2 tyX2_ok hown hw25 hw26 hw27 hz hH rfl (fun j hj => by rcases (show j = 0 ∨ j = 1 ∨ j = 2 ∨ j = 3 by omega) with rfl | rfl | rfl | rfl <;> rfl) (Nat.le_of_ble_eq_true rfl) (Nat.le_of_ble_eq_true rfl) dX0_init_104 (fun H hz hH => ?_)
  have hH : H.size = b + (k + 70) := hH
  obtain ⟨E26, hE26⟩ : ∃ X, X = va_up E25 (b + (k + 69)) (.inr (1, [.null, .null, .int 0, .int 0])) := ⟨_, rfl⟩
  have hz : PS D vwCl (tys3 cJ cI cR) b (k + 70) s E26 H locs := by rw [hE26]; exact hz
  have q26 : ∀ a : Nat, a ≠ (b + (k + 69)) → E26 a = E25 a := fun a h => by rw [hE26]; exact va_up_ne _ _ h
  have p26 : E26 (b + (k + 69)) = .inr (1, [.null, .null, .int 0, .int 0]) := by rw [hE26]; exact va_up_self _ _ _
  refine lv_dup hx hb dX0_init_107 rfl ?_
  refine pw_callm hz (va_runIN (As := []) (rest := [.ref (b + (k + 69)), .ref (b + k)]) ⟨hx, hb, hml, hown, hts⟩ (c_PartList_new l D cJ cI cR b _ H.size (k + 69) hH p26) ⟨va_cnB 0 hts gX0_init_X2_init_n50 rfl rfl rfl hz.2.2.2.2.2.1.2.2.2.2.2.2.2.2.2.2.1 hw27 (by decide +kernel) ⟨Nat.le_of_ble_eq_true rfl, Nat.le_of_ble_eq_true rfl⟩, rfl, hw28⟩ hz.preS rfl rfl hl.1 rfl (lv_room (Nat.le_of_ble_eq_true rfl)) dX0_init_108 ⟨Nat.le_of_ble_eq_true rfl, Nat.le_of_ble_eq_true rfl⟩) (fun E27 H locs hp27 hz hH => ?_)
  have hz : PS D vwCl (tys3 cJ cI cR) b (k + 84) s E27 H locs := hz
  have hH : H.size = b + (k + 84) := hH
  obtain ⟨o27, q27⟩ := hp27
  refine pw_putFS (C := RX0) (T := TX0) (N := 10) (ci := 0) (ty := .object "GaloisDesk$PartList") (v := .ref (b + (k + 69))) hx hb hts hw8 tyX0 tyX0_ok nmX0 hown hz hH (by omega) ((q27 _ (lt_lt (Nat.le_of_ble_eq_true rfl))).trans ((q26 _ (lt_ne (Nat.le_of_ble_eq_true rfl))).trans p25)) rfl 9 (by decide) hw29 (fun _ h9 => h9) rfl hin rfl (by decide +kernel) rfl rfl (Nat.le_of_ble_eq_true rfl) dX0_init_111 (fun H locs hz hH => ?_)
  obtain ⟨E28, hE28⟩ : ∃ X, X = va_up E27 (b + k) (.inr (0, [.ref (b + (k + 1)), .ref (b + (k + 1) + 1), .ref (b + (k + 55)), .ref (b + (k + 57)), .ref (b + (k + 59)), .ref (b + (k + 61)), .ref (b + (k + 63)), .ref (b + (k + 65)), .ref (b + (k + 67)), .ref (b + (k + 69))])) := ⟨_, rfl⟩
  have hz : PS D vwCl (tys3 cJ cI cR) b (k + 84) s E28 H locs := by rw [hE28]; exact hz
  have q28 : ∀ a : Nat, a ≠ (b + k) → E28 a = E27 a := fun a h => by rw [hE28]; exact va_up_ne _ _ h
  have p28 : E28 (b + k) = .inr (0, [.ref (b + (k + 1)), .ref (b + (k + 1) + 1), .ref (b + (k + 55)), .ref (b + (k + 57)), .ref (b + (k + 59)), .ref (b + (k + 61)), .ref (b + (k + 63)), .ref (b + (k + 65)), .ref (b + (k + 67)), .ref (b + (k + 69))]) := by rw [hE28]; exact va_up_self _ _ _
  have kc0 := p28
  rw [ka_3 b k 1 1] at kc0
  rw [(Nat.add_assoc b k 69).symm] at kc0
  rw [(Nat.add_assoc b k 67).symm] at kc0
  rw [(Nat.add_assoc b k 65).symm] at kc0
  rw [(Nat.add_assoc b k 63).symm] at kc0
  rw [(Nat.add_assoc b k 61).symm] at kc0
  rw [(Nat.add_assoc b k 59).symm] at kc0
  rw [(Nat.add_assoc b k 57).symm] at kc0
  rw [(Nat.add_assoc b k 55).symm] at kc0
  rw [(Nat.add_assoc b k 1).symm] at kc0
  have k2 := o2.keep (fun q h1 h2 => have hq1 : q ≠ b + k := kp_ne h1 (Nat.le_of_ble_eq_true rfl); have hq2 : q < b + (k + 55) := kp_lt h2 (Nat.le_of_ble_eq_true rfl); ((q28 q hq1).trans ((q27 q (lu_lt hq2 (Nat.le_of_ble_eq_true rfl))).trans ((q26 q (lu_ne hq2 (Nat.le_of_ble_eq_true rfl))).trans ((q25 q hq1).trans ((q24 q (lu_lt hq2 (Nat.le_of_ble_eq_true rfl))).trans ((q23 q (lu_ne hq2 (Nat.le_of_ble_eq_true rfl))).trans ((q22 q hq1).trans ((q21 q (lu_lt hq2 (Nat.le_of_ble_eq_true rfl))).trans ((q20 q (lu_ne hq2 (Nat.le_of_ble_eq_true rfl))).trans ((q19 q hq1).trans ((q18 q (lu_lt hq2 (Nat.le_of_ble_eq_true rfl))).trans ((q17 q (lu_ne hq2 (Nat.le_of_ble_eq_true rfl))).trans ((q16 q hq1).trans ((q15 q (lu_lt hq2 (Nat.le_of_ble_eq_true rfl))).trans ((q14 q (lu_ne hq2 (Nat.le_of_ble_eq_true rfl))).trans ((q13 q hq1).trans ((q12 q (lu_lt hq2 (Nat.le_of_ble_eq_true rfl))).trans ((q11 q (lu_ne hq2 (Nat.le_of_ble_eq_true rfl))).trans ((q10 q hq1).trans ((q9 q (lu_lt hq2 (Nat.le_of_ble_eq_true rfl))).trans ((q8 q (lu_ne hq2 (Nat.le_of_ble_eq_true rfl))).trans ((q7 q hq1).trans ((q6 q (lu_lt hq2 (Nat.le_of_ble_eq_true rfl))).trans ((q5 q (lu_ne hq2 (Nat.le_of_ble_eq_true rfl))).trans ((q4 q hq1).trans (q3 q hq1)))))))))))))))))))))))))))
  rw [(Nat.add_assoc b k 1).symm] at k2
  have k6 := r6.keep (fun q h1 h2 => have hq1 : q ≠ b + k := kp_ne h1 (Nat.le_of_ble_eq_true rfl); have hq2 : q < b + (k + 57) := kp_lt h2 (Nat.le_of_ble_eq_true rfl); ((q28 q hq1).trans ((q27 q (lu_lt hq2 (Nat.le_of_ble_eq_true rfl))).trans ((q26 q (lu_ne hq2 (Nat.le_of_ble_eq_true rfl))).trans ((q25 q hq1).trans ((q24 q (lu_lt hq2 (Nat.le_of_ble_eq_true rfl))).trans ((q23 q (lu_ne hq2 (Nat.le_of_ble_eq_true rfl))).trans ((q22 q hq1).trans ((q21 q (lu_lt hq2 (Nat.le_of_ble_eq_true rfl))).trans ((q20 q (lu_ne hq2 (Nat.le_of_ble_eq_true rfl))).trans ((q19 q hq1).trans ((q18 q (lu_lt hq2 (Nat.le_of_ble_eq_true rfl))).trans ((q17 q (lu_ne hq2 (Nat.le_of_ble_eq_true rfl))).trans ((q16 q hq1).trans ((q15 q (lu_lt hq2 (Nat.le_of_ble_eq_true rfl))).trans ((q14 q (lu_ne hq2 (Nat.le_of_ble_eq_true rfl))).trans ((q13 q hq1).trans ((q12 q (lu_lt hq2 (Nat.le_of_ble_eq_true rfl))).trans ((q11 q (lu_ne hq2 (Nat.le_of_ble_eq_true rfl))).trans ((q10 q hq1).trans ((q9 q (lu_lt hq2 (Nat.le_of_ble_eq_true rfl))).trans ((q8 q (lu_ne hq2 (Nat.le_of_ble_eq_true rfl))).trans (q7 q hq1)))))))))))))))))))))))
  rw [(Nat.add_assoc b k 55).symm] at k6
  have k9 := r9.keep (fun q h1 h2 => have hq1 : q ≠ b + k := kp_ne h1 (Nat.le_of_ble_eq_true rfl); have hq2 : q < b + (k + 59) := kp_lt h2 (Nat.le_of_ble_eq_true rfl); ((q28 q hq1).trans ((q27 q (lu_lt hq2 (Nat.le_of_ble_eq_true rfl))).trans ((q26 q (lu_ne hq2 (Nat.le_of_ble_eq_true rfl))).trans ((q25 q hq1).trans ((q24 q (lu_lt hq2 (Nat.le_of_ble_eq_true rfl))).trans ((q23 q (lu_ne hq2 (Nat.le_of_ble_eq_true rfl))).trans ((q22 q hq1).trans ((q21 q (lu_lt hq2 (Nat.le_of_ble_eq_true rfl))).trans ((q20 q (lu_ne hq2 (Nat.le_of_ble_eq_true rfl))).trans ((q19 q hq1).trans ((q18 q (lu_lt hq2 (Nat.le_of_ble_eq_true rfl))).trans ((q17 q (lu_ne hq2 (Nat.le_of_ble_eq_true rfl))).trans ((q16 q hq1).trans ((q15 q (lu_lt hq2 (Nat.le_of_ble_eq_true rfl))).trans ((q14 q (lu_ne hq2 (Nat.le_of_ble_eq_true rfl))).trans ((q13 q hq1).trans ((q12 q (lu_lt hq2 (Nat.le_of_ble_eq_true rfl))).trans ((q11 q (lu_ne hq2 (Nat.le_of_ble_eq_true rfl))).trans (q10 q hq1))))))))))))))))))))
  rw [(Nat.add_assoc b k 57).symm] at k9
  have k12 := r12.keep (fun q h1 h2 => have hq1 : q ≠ b + k := kp_ne h1 (Nat.le_of_ble_eq_true rfl); have hq2 : q < b + (k + 61) := kp_lt h2 (Nat.le_of_ble_eq_true rfl); ((q28 q hq1).trans ((q27 q (lu_lt hq2 (Nat.le_of_ble_eq_true rfl))).trans ((q26 q (lu_ne hq2 (Nat.le_of_ble_eq_true rfl))).trans ((q25 q hq1).trans ((q24 q (lu_lt hq2 (Nat.le_of_ble_eq_true rfl))).trans ((q23 q (lu_ne hq2 (Nat.le_of_ble_eq_true rfl))).trans ((q22 q hq1).trans ((q21 q (lu_lt hq2 (Nat.le_of_ble_eq_true rfl))).trans ((q20 q (lu_ne hq2 (Nat.le_of_ble_eq_true rfl))).trans ((q19 q hq1).trans ((q18 q (lu_lt hq2 (Nat.le_of_ble_eq_true rfl))).trans ((q17 q (lu_ne hq2 (Nat.le_of_ble_eq_true rfl))).trans ((q16 q hq1).trans ((q15 q (lu_lt hq2 (Nat.le_of_ble_eq_true rfl))).trans ((q14 q (lu_ne hq2 (Nat.le_of_ble_eq_true rfl))).trans (q13 q hq1)))))))))))))))))
  rw [(Nat.add_assoc b k 59).symm] at k12
  have k15 := r15.keep (fun q h1 h2 => have hq1 : q ≠ b + k := kp_ne h1 (Nat.le_of_ble_eq_true rfl); have hq2 : q < b + (k + 63) := kp_lt h2 (Nat.le_of_ble_eq_true rfl); ((q28 q hq1).trans ((q27 q (lu_lt hq2 (Nat.le_of_ble_eq_true rfl))).trans ((q26 q (lu_ne hq2 (Nat.le_of_ble_eq_true rfl))).trans ((q25 q hq1).trans ((q24 q (lu_lt hq2 (Nat.le_of_ble_eq_true rfl))).trans ((q23 q (lu_ne hq2 (Nat.le_of_ble_eq_true rfl))).trans ((q22 q hq1).trans ((q21 q (lu_lt hq2 (Nat.le_of_ble_eq_true rfl))).trans ((q20 q (lu_ne hq2 (Nat.le_of_ble_eq_true rfl))).trans ((q19 q hq1).trans ((q18 q (lu_lt hq2 (Nat.le_of_ble_eq_true rfl))).trans ((q17 q (lu_ne hq2 (Nat.le_of_ble_eq_true rfl))).trans (q16 q hq1))))))))))))))
  rw [(Nat.add_assoc b k 61).symm] at k15
  have k18 := r18.keep (fun q h1 h2 => have hq1 : q ≠ b + k := kp_ne h1 (Nat.le_of_ble_eq_true rfl); have hq2 : q < b + (k + 65) := kp_lt h2 (Nat.le_of_ble_eq_true rfl); ((q28 q hq1).trans ((q27 q (lu_lt hq2 (Nat.le_of_ble_eq_true rfl))).trans ((q26 q (lu_ne hq2 (Nat.le_of_ble_eq_true rfl))).trans ((q25 q hq1).trans ((q24 q (lu_lt hq2 (Nat.le_of_ble_eq_true rfl))).trans ((q23 q (lu_ne hq2 (Nat.le_of_ble_eq_true rfl))).trans ((q22 q hq1).trans ((q21 q (lu_lt hq2 (Nat.le_of_ble_eq_true rfl))).trans ((q20 q (lu_ne hq2 (Nat.le_of_ble_eq_true rfl))).trans (q19 q hq1)))))))))))
  rw [(Nat.add_assoc b k 63).symm] at k18
  have k21 := r21.keep (fun q h1 h2 => have hq1 : q ≠ b + k := kp_ne h1 (Nat.le_of_ble_eq_true rfl); have hq2 : q < b + (k + 67) := kp_lt h2 (Nat.le_of_ble_eq_true rfl); ((q28 q hq1).trans ((q27 q (lu_lt hq2 (Nat.le_of_ble_eq_true rfl))).trans ((q26 q (lu_ne hq2 (Nat.le_of_ble_eq_true rfl))).trans ((q25 q hq1).trans ((q24 q (lu_lt hq2 (Nat.le_of_ble_eq_true rfl))).trans ((q23 q (lu_ne hq2 (Nat.le_of_ble_eq_true rfl))).trans (q22 q hq1))))))))
  rw [(Nat.add_assoc b k 65).symm] at k21
  have k24 := r24.keep (fun q h1 h2 => have hq1 : q ≠ b + k := kp_ne h1 (Nat.le_of_ble_eq_true rfl); have hq2 : q < b + (k + 69) := kp_lt h2 (Nat.le_of_ble_eq_true rfl); ((q28 q hq1).trans ((q27 q (lu_lt hq2 (Nat.le_of_ble_eq_true rfl))).trans ((q26 q (lu_ne hq2 (Nat.le_of_ble_eq_true rfl))).trans (q25 q hq1)))))
  rw [(Nat.add_assoc b k 67).symm] at k24
  have k27 := o27.keep (fun q h1 h2 => have hq1 : q ≠ b + k := kp_ne h1 (Nat.le_of_ble_eq_true rfl); have hq2 : q < b + (k + 84) := kp_lt h2 (Nat.le_of_ble_eq_true rfl); (q28 q hq1))
  rw [(Nat.add_assoc b k 69).symm] at k27
  exact pw_mret hx hb hret hlocks hz hH (⟨⟨kc0, k2, k6, k9, k12, k15, k18, k21, k24, k27⟩, fun a h => ((q28 a (Nat.ne_of_lt h)).trans ((q27 a (lu_lt0 h)).trans ((q26 a (lu_ne0 h)).trans ((q25 a (Nat.ne_of_lt h)).trans ((q24 a (lu_lt0 h)).trans ((q23 a (lu_ne0 h)).trans ((q22 a (Nat.ne_of_lt h)).trans ((q21 a (lu_lt0 h)).trans ((q20 a (lu_ne0 h)).trans ((q19 a (Nat.ne_of_lt h)).trans ((q18 a (lu_lt0 h)).trans ((q17 a (lu_ne0 h)).trans ((q16 a (Nat.ne_of_lt h)).trans ((q15 a (lu_lt0 h)).trans ((q14 a (lu_ne0 h)).trans ((q13 a (Nat.ne_of_lt h)).trans ((q12 a (lu_lt0 h)).trans ((q11 a (lu_ne0 h)).trans ((q10 a (Nat.ne_of_lt h)).trans ((q9 a (lu_lt0 h)).trans ((q8 a (lu_ne0 h)).trans ((q7 a (Nat.ne_of_lt h)).trans ((q6 a (lu_lt0 h)).trans ((q5 a (lu_ne0 h)).trans ((q4 a (Nat.ne_of_lt h)).trans ((q3 a (Nat.ne_of_lt h)).trans ((q2 a (lu_lt0 h)).trans (q1 a (lu_ne0 h)))))))))))))))))))))))))))))⟩) dX0_init_114

set_option maxHeartbeats 400000 in
set_option maxRecDepth 100000 in
/-- GaloisDesk() -/
theorem c_Desk_new (l : Launch) (D : va_G) (cJ cI cR : ClassId) (b : Nat) (E : Nat → va_E) (sz k : Nat) (hsz0 : sz = b + (k + 1)) (hthis : E (b + k) = .inr (5, [.null, .null, .null, .null, .null, .null, .int 0, .null, .null])) : Met l yX6_init wsX6_init { frames := 5, cells := 123, slots := 910, locals := 94 } (cP D vwCl (tys3 cJ cI cR) b (k + 1) E sz [.ref (b + k)]) (cQm D vwCl (tys3 cJ cI cR) b (k + 124) (fun E' => deskAt cJ cI cR (b + k) E' ∧ ∀ a, a < b + k → E' a = E a)) 123 910 (PA b) := by
  refine Met.ofW (cc := cX6_init) (maxL := 1) (ret := none) (by decide) rfl ?_
  intro p e s m args below meth c s₁ B hml hv
  obtain ⟨rfl, hsz, hB⟩ := hv
  have hx := B.exec
  have hb := B.bytes
  have hret := B.returns
  have hts := atoms_spec (ws := wsX6_init) B.pre
  have hown : s.vm.findClass RX6 = some m.cls := findClass_of_methodNamed B.named
  have hlocks := B.notSynchronized
  have hin : meth.name = "<init>" := (name_of_methodNamed B.named B.method).1
  subst hsz
  have hz := PS.start hB
  have hl := lv_entry ([.ref (b + k)]) (n := 1) (Nat.le_of_ble_eq_true rfl)
  rw [lg_entry_eq]
  generalize (lg_sl ([.ref (b + k)]) ++ List.replicate (1 - (lg_sl ([.ref (b + k)])).length) Slot.unset).toArray = ls at hl ⊢
  have hl : lv_has ls 1 [(0, .ref (b + k))] := hl
  have hw0 := hts (.methodLink RX6 3 objectInit) (by decide +kernel)
  have hw1 := hts (.instanceMethod objectInit) (by decide +kernel)
  have hw2 := hts (.code objectInit ⟨#[0xb1]⟩ 1 none) (List.mem_of_getElem? (i := 3) rfl)
  have hw3 : ∀ w ∈ u_ws RX6 TX6 9, w ∈ wsX6_init := by decide +kernel
  have hw4 := hts (.fieldLink RX6 13 "GaloisDesk" "slots" "[LGaloisDesk$Row;") (by decide +kernel)
  have hw5 : ∀ w ∈ u_ws RX4 TX4 2, w ∈ wsX6_init := by decide +kernel
  have hw6 := hts (.classLink RX6 17 RX4) (by decide +kernel)
  have hw7 := hts (.instantiable RX4 2) (by decide +kernel)
  have hw8 := hts (.initialized RX4) (by decide +kernel)
  have hw9 := hts (.instanceMethod yX4_init) (by decide +kernel)
  have hw10 := hts (.fieldLink RX6 20 "GaloisDesk" "result" "LGaloisDesk$Row;") (by decide +kernel)
  have hw11 := hts (.fieldLink RX6 24 "GaloisDesk" "left" "LGaloisDesk$Row;") (by decide +kernel)
  have hw12 := hts (.fieldLink RX6 27 "GaloisDesk" "right" "LGaloisDesk$Row;") (by decide +kernel)
  have hw13 : ∀ w ∈ u_ws RX2 TX2 4, w ∈ wsX6_init := by decide +kernel
  have hw14 := hts (.classLink RX6 30 RX2) (by decide +kernel)
  have hw15 := hts (.instantiable RX2 4) (by decide +kernel)
  have hw16 := hts (.initialized RX2) (by decide +kernel)
  have hw17 := hts (.instanceMethod yX2_init) (by decide +kernel)
  have hw18 := hts (.fieldLink RX6 33 "GaloisDesk" "told" "LGaloisDesk$PartList;") (by decide +kernel)
  have hw19 := hts (.arrayClass .int) (by decide +kernel)
  have hw20 := hts (.fieldLink RX6 37 "GaloisDesk" "patternDegrees" "[I") (by decide +kernel)
  have hw21 := hts (.fieldLink RX6 41 "GaloisDesk" "patternCount" "I") (by decide +kernel)
  have hw22 : ∀ w ∈ u_ws RX0 TX0 10, w ∈ wsX6_init := by decide +kernel
  have hw23 := hts (.classLink RX6 45 RX0) (by decide +kernel)
  have hw24 := hts (.instantiable RX0 10) (by decide +kernel)
  have hw25 := hts (.initialized RX0) (by decide +kernel)
  have hw26 := hts (.instanceMethod yX0_init) (by decide +kernel)
  have hw27 := hts (.fieldLink RX6 48 "GaloisDesk" "factoring" "LGaloisDesk$Factoring;") (by decide +kernel)
  have hw28 := hts (.fieldLink RX6 52 "GaloisDesk$Factoring" "splitter" "LGaloisDesk$Splitter;") (by decide +kernel)
  have hw29 := hts (.fieldLink RX6 56 "GaloisDesk" "splitter" "LGaloisDesk$Splitter;") (by decide +kernel)
  have hH : s.heap.size = b + (k + 1) := hsz0
  refine lv_aload_n hx hb dX6_init_0 rfl (lv_at hl 0 rfl) ?_
  refine W.objInit hx hb hown hw0 hw1 hw2 rfl (by rw [hml]; exact hl.1) rfl dX6_init_1 (Nat.le_of_ble_eq_true rfl) (Nat.le_of_ble_eq_true rfl) ?_
  refine W.eq (g2 := F0 m 4 ls []) rfl ?_
  refine lv_aload_n hx hb dX6_init_4 rfl (lv_at hl 0 rfl) ?_
  refine lv_bipush (v := 8) hx hb dX6_init_5 (by decide) ?_
  refine pw_callr hz (va_runS (As := [.int 8]) (rest := [.ref (b + k)]) ⟨hx, hb, hml, hown, hts⟩ (c_freshRows l D cJ cI cR b _ _ (k + 1) 8 (by decide) hH) (va_cwS 1 hts gX6_init_X6_freshRows rfl rfl rfl (by decide +kernel) ⟨Nat.le_of_ble_eq_true rfl, Nat.le_of_ble_eq_true rfl⟩) hz.preS rfl rfl hl.1 rfl (lv_room (Nat.le_of_ble_eq_true rfl)) dX6_init_7 ⟨Nat.le_of_ble_eq_true rfl, Nat.le_of_ble_eq_true rfl⟩) (fun ra E1 H locs hp1 hz hH => ?_)
  have hz : PS D vwCl (tys3 cJ cI cR) b (k + 18) s E1 H locs := hz
  have hH : H.size = b + (k + 18) := hH
  obtain ⟨rfl, hp1⟩ := hp1
  obtain ⟨f1, q1⟩ := hp1
  refine pw_putFS (C := RX6) (T := TX6) (N := 9) (ci := 5) (ty := .array (.object "GaloisDesk$Row")) (v := .ref (b + (k + 1))) hx hb hts hw3 tyX6 tyX6_ok nmX6 hown hz hH (by omega) ((q1 _ (lt_lt (Nat.le_of_ble_eq_true rfl))).trans hthis) rfl 0 (by decide) hw4 (fun _ h9 => h9) rfl hin rfl (by decide +kernel) rfl rfl (Nat.le_of_ble_eq_true rfl) dX6_init_10 (fun H locs hz hH => ?_)
  obtain ⟨E2, hE2⟩ : ∃ X, X = va_up E1 (b + k) (.inr (5, [.ref (b + (k + 1)), .null, .null, .null, .null, .null, .int 0, .null, .null])) := ⟨_, rfl⟩
  have hz : PS D vwCl (tys3 cJ cI cR) b (k + 18) s E2 H locs := by rw [hE2]; exact hz
  have q2 : ∀ a : Nat, a ≠ (b + k) → E2 a = E1 a := fun a h => by rw [hE2]; exact va_up_ne _ _ h
  have p2 : E2 (b + k) = .inr (5, [.ref (b + (k + 1)), .null, .null, .null, .null, .null, .int 0, .null, .null]) := by rw [hE2]; exact va_up_self _ _ _
  refine lv_aload_n hx hb dX6_init_13 rfl (lv_at hl 0 rfl) ?_
  refine pw_new (ci := 3) (fs := [.null, .int 0]) (C := RX4) (T := TX4) (N := 2) hx hb hts hw5 tyX4 tyX4_ok hown hw6 hw7 hw8 hz hH rfl (fun j hj => by rcases (show j = 0 ∨ j = 1 by omega) with rfl | rfl <;> rfl) (Nat.le_of_ble_eq_true rfl) (Nat.le_of_ble_eq_true rfl) dX6_init_14 (fun H hz hH => ?_)
  have hH : H.size = b + (k + 19) := hH
  obtain ⟨E3, hE3⟩ : ∃ X, X = va_up E2 (b + (k + 18)) (.inr (3, [.null, .int 0])) := ⟨_, rfl⟩
  have hz : PS D vwCl (tys3 cJ cI cR) b (k + 19) s E3 H locs := by rw [hE3]; exact hz
  have q3 : ∀ a : Nat, a ≠ (b + (k + 18)) → E3 a = E2 a := fun a h => by rw [hE3]; exact va_up_ne _ _ h
  have p3 : E3 (b + (k + 18)) = .inr (3, [.null, .int 0]) := by rw [hE3]; exact va_up_self _ _ _
  refine lv_dup hx hb dX6_init_17 rfl ?_
  refine pw_callm hz (va_runIN (As := []) (rest := [.ref (b + (k + 18)), .ref (b + k)]) ⟨hx, hb, hml, hown, hts⟩ (c_Row_new l D cJ cI cR b _ H.size (k + 18) hH p3) ⟨va_cnB 0 hts gX6_init_X4_init_n19 rfl rfl rfl hz.2.2.2.2.2.1.1 hw8 (by decide +kernel) ⟨Nat.le_of_ble_eq_true rfl, Nat.le_of_ble_eq_true rfl⟩, rfl, hw9⟩ hz.preS rfl rfl hl.1 rfl (lv_room (Nat.le_of_ble_eq_true rfl)) dX6_init_18 ⟨Nat.le_of_ble_eq_true rfl, Nat.le_of_ble_eq_true rfl⟩) (fun E4 H locs hp4 hz hH => ?_)
  have hz : PS D vwCl (tys3 cJ cI cR) b (k + 20) s E4 H locs := hz
  have hH : H.size = b + (k + 20) := hH
  obtain ⟨ra4, rb4, q4⟩ := hp4
  have r4 : rowF cJ (b + (k + 18)) E4 := ⟨ra4, rb4⟩
  refine pw_putFS (C := RX6) (T := TX6) (N := 9) (ci := 5) (ty := .object "GaloisDesk$Row") (v := .ref (b + (k + 18))) hx hb hts hw3 tyX6 tyX6_ok nmX6 hown hz hH (by omega) ((q4 _ (lt_lt (Nat.le_of_ble_eq_true rfl))).trans ((q3 _ (lt_ne (Nat.le_of_ble_eq_true rfl))).trans p2)) rfl 1 (by decide) hw10 (fun _ h9 => h9) rfl hin rfl (by decide +kernel) rfl rfl (Nat.le_of_ble_eq_true rfl) dX6_init_21 (fun H locs hz hH => ?_)
  obtain ⟨E5, hE5⟩ : ∃ X, X = va_up E4 (b + k) (.inr (5, [.ref (b + (k + 1)), .ref (b + (k + 18)), .null, .null, .null, .null, .int 0, .null, .null])) := ⟨_, rfl⟩
  have hz : PS D vwCl (tys3 cJ cI cR) b (k + 20) s E5 H locs := by rw [hE5]; exact hz
  have q5 : ∀ a : Nat, a ≠ (b + k) → E5 a = E4 a := fun a h => by rw [hE5]; exact va_up_ne _ _ h
  have p5 : E5 (b + k) = .inr (5, [.ref (b + (k + 1)), .ref (b + (k + 18)), .null, .null, .null, .null, .int 0, .null, .null]) := by rw [hE5]; exact va_up_self _ _ _
  refine lv_aload_n hx hb dX6_init_24 rfl (lv_at hl 0 rfl) ?_
  refine pw_new (ci := 3) (fs := [.null, .int 0]) (C := RX4) (T := TX4) (N := 2) hx hb hts hw5 tyX4 tyX4_ok hown hw6 hw7 hw8 hz hH rfl (fun j hj => by rcases (show j = 0 ∨ j = 1 by omega) with rfl | rfl <;> rfl) (Nat.le_of_ble_eq_true rfl) (Nat.le_of_ble_eq_true rfl) dX6_init_25 (fun H hz hH => ?_)
  have hH : H.size = b + (k + 21) := hH
  obtain ⟨E6, hE6⟩ : ∃ X, X = va_up E5 (b + (k + 20)) (.inr (3, [.null, .int 0])) := ⟨_, rfl⟩
  have hz : PS D vwCl (tys3 cJ cI cR) b (k + 21) s E6 H locs := by rw [hE6]; exact hz
  have q6 : ∀ a : Nat, a ≠ (b + (k + 20)) → E6 a = E5 a := fun a h => by rw [hE6]; exact va_up_ne _ _ h
  have p6 : E6 (b + (k + 20)) = .inr (3, [.null, .int 0]) := by rw [hE6]; exact va_up_self _ _ _
  refine lv_dup hx hb dX6_init_28 rfl ?_
  refine pw_callm hz (va_runIN (As := []) (rest := [.ref (b + (k + 20)), .ref (b + k)]) ⟨hx, hb, hml, hown, hts⟩ (c_Row_new l D cJ cI cR b _ H.size (k + 20) hH p6) ⟨va_cnB 0 hts gX6_init_X4_init_n19 rfl rfl rfl hz.2.2.2.2.2.1.1 hw8 (by decide +kernel) ⟨Nat.le_of_ble_eq_true rfl, Nat.le_of_ble_eq_true rfl⟩, rfl, hw9⟩ hz.preS rfl rfl hl.1 rfl (lv_room (Nat.le_of_ble_eq_true rfl)) dX6_init_29 ⟨Nat.le_of_ble_eq_true rfl, Nat.le_of_ble_eq_true rfl⟩) (fun E7 H locs hp7 hz hH => ?_)
  have hz : PS D vwCl (tys3 cJ cI cR) b (k + 22) s E7 H locs := hz
  have hH : H.size = b + (k + 22) := hH
  obtain ⟨ra7, rb7, q7⟩ := hp7
  have r7 : rowF cJ (b + (k + 20)) E7 := ⟨ra7, rb7⟩
  refine pw_putFS (C := RX6) (T := TX6) (N := 9) (ci := 5) (ty := .object "GaloisDesk$Row") (v := .ref (b + (k + 20))) hx hb hts hw3 tyX6 tyX6_ok nmX6 hown hz hH (by omega) ((q7 _ (lt_lt (Nat.le_of_ble_eq_true rfl))).trans ((q6 _ (lt_ne (Nat.le_of_ble_eq_true rfl))).trans p5)) rfl 2 (by decide) hw11 (fun _ h9 => h9) rfl hin rfl (by decide +kernel) rfl rfl (Nat.le_of_ble_eq_true rfl) dX6_init_32 (fun H locs hz hH => ?_)
  obtain ⟨E8, hE8⟩ : ∃ X, X = va_up E7 (b + k) (.inr (5, [.ref (b + (k + 1)), .ref (b + (k + 18)), .ref (b + (k + 20)), .null, .null, .null, .int 0, .null, .null])) := ⟨_, rfl⟩
  have hz : PS D vwCl (tys3 cJ cI cR) b (k + 22) s E8 H locs := by rw [hE8]; exact hz
  have q8 : ∀ a : Nat, a ≠ (b + k) → E8 a = E7 a := fun a h => by rw [hE8]; exact va_up_ne _ _ h
  have p8 : E8 (b + k) = .inr (5, [.ref (b + (k + 1)), .ref (b + (k + 18)), .ref (b + (k + 20)), .null, .null, .null, .int 0, .null, .null]) := by rw [hE8]; exact va_up_self _ _ _
  refine lv_aload_n hx hb dX6_init_35 rfl (lv_at hl 0 rfl) ?_
  refine pw_new (ci := 3) (fs := [.null, .int 0]) (C := RX4) (T := TX4) (N := 2) hx hb hts hw5 tyX4 tyX4_ok hown hw6 hw7 hw8 hz hH rfl (fun j hj => by rcases (show j = 0 ∨ j = 1 by omega) with rfl | rfl <;> rfl) (Nat.le_of_ble_eq_true rfl) (Nat.le_of_ble_eq_true rfl) dX6_init_36 (fun H hz hH => ?_)
  have hH : H.size = b + (k + 23) := hH
  obtain ⟨E9, hE9⟩ : ∃ X, X = va_up E8 (b + (k + 22)) (.inr (3, [.null, .int 0])) := ⟨_, rfl⟩
  have hz : PS D vwCl (tys3 cJ cI cR) b (k + 23) s E9 H locs := by rw [hE9]; exact hz
  have q9 : ∀ a : Nat, a ≠ (b + (k + 22)) → E9 a = E8 a := fun a h => by rw [hE9]; exact va_up_ne _ _ h
  have p9 : E9 (b + (k + 22)) = .inr (3, [.null, .int 0]) := by rw [hE9]; exact va_up_self _ _ _
  refine lv_dup hx hb dX6_init_39 rfl ?_
  refine pw_callm hz (va_runIN (As := []) (rest := [.ref (b + (k + 22)), .ref (b + k)]) ⟨hx, hb, hml, hown, hts⟩ (c_Row_new l D cJ cI cR b _ H.size (k + 22) hH p9) ⟨va_cnB 0 hts gX6_init_X4_init_n19 rfl rfl rfl hz.2.2.2.2.2.1.1 hw8 (by decide +kernel) ⟨Nat.le_of_ble_eq_true rfl, Nat.le_of_ble_eq_true rfl⟩, rfl, hw9⟩ hz.preS rfl rfl hl.1 rfl (lv_room (Nat.le_of_ble_eq_true rfl)) dX6_init_40 ⟨Nat.le_of_ble_eq_true rfl, Nat.le_of_ble_eq_true rfl⟩) (fun E10 H locs hp10 hz hH => ?_)
  have hz : PS D vwCl (tys3 cJ cI cR) b (k + 24) s E10 H locs := hz
  have hH : H.size = b + (k + 24) := hH
  obtain ⟨ra10, rb10, q10⟩ := hp10
  have r10 : rowF cJ (b + (k + 22)) E10 := ⟨ra10, rb10⟩
  refine pw_putFS (C := RX6) (T := TX6) (N := 9) (ci := 5) (ty := .object "GaloisDesk$Row") (v := .ref (b + (k + 22))) hx hb hts hw3 tyX6 tyX6_ok nmX6 hown hz hH (by omega) ((q10 _ (lt_lt (Nat.le_of_ble_eq_true rfl))).trans ((q9 _ (lt_ne (Nat.le_of_ble_eq_true rfl))).trans p8)) rfl 3 (by decide) hw12 (fun _ h9 => h9) rfl hin rfl (by decide +kernel) rfl rfl (Nat.le_of_ble_eq_true rfl) dX6_init_43 (fun H locs hz hH => ?_)
  obtain ⟨E11, hE11⟩ : ∃ X, X = va_up E10 (b + k) (.inr (5, [.ref (b + (k + 1)), .ref (b + (k + 18)), .ref (b + (k + 20)), .ref (b + (k + 22)), .null, .null, .int 0, .null, .null])) := ⟨_, rfl⟩
  have hz : PS D vwCl (tys3 cJ cI cR) b (k + 24) s E11 H locs := by rw [hE11]; exact hz
  have q11 : ∀ a : Nat, a ≠ (b + k) → E11 a = E10 a := fun a h => by rw [hE11]; exact va_up_ne _ _ h
  have p11 : E11 (b + k) = .inr (5, [.ref (b + (k + 1)), .ref (b + (k + 18)), .ref (b + (k + 20)), .ref (b + (k + 22)), .null, .null, .int 0, .null, .null]) := by rw [hE11]; exact va_up_self _ _ _
  refine lv_aload_n hx hb dX6_init_46 rfl (lv_at hl 0 rfl) ?_
  refine pw_new (ci := 1) (fs := [.null, .null, .int 0, .int 0]) (C := RX2) (T := TX2) (N := 4) hx hb hts hw13 tyX2 tyX2_ok hown hw14 hw15 hw16 hz hH rfl (fun j hj => by rcases (show j = 0 ∨ j = 1 ∨ j = 2 ∨ j = 3 by omega) with rfl | rfl | rfl | rfl <;> rfl) (Nat.le_of_ble_eq_true rfl) (Nat.le_of_ble_eq_true rfl) dX6_init_47 (fun H hz hH => ?_)
  have hH : H.size = b + (k + 25) := hH
  obtain ⟨E12, hE12⟩ : ∃ X, X = va_up E11 (b + (k + 24)) (.inr (1, [.null, .null, .int 0, .int 0])) := ⟨_, rfl⟩
  have hz : PS D vwCl (tys3 cJ cI cR) b (k + 25) s E12 H locs := by rw [hE12]; exact hz
  have q12 : ∀ a : Nat, a ≠ (b + (k + 24)) → E12 a = E11 a := fun a h => by rw [hE12]; exact va_up_ne _ _ h
  have p12 : E12 (b + (k + 24)) = .inr (1, [.null, .null, .int 0, .int 0]) := by rw [hE12]; exact va_up_self _ _ _
  refine lv_dup hx hb dX6_init_50 rfl ?_
  refine pw_callm hz (va_runIN (As := []) (rest := [.ref (b + (k + 24)), .ref (b + k)]) ⟨hx, hb, hml, hown, hts⟩ (c_PartList_new l D cJ cI cR b _ H.size (k + 24) hH p12) ⟨va_cnB 0 hts gX6_init_X2_init_n32 rfl rfl rfl hz.2.2.2.2.2.1.2.1 hw16 (by decide +kernel) ⟨Nat.le_of_ble_eq_true rfl, Nat.le_of_ble_eq_true rfl⟩, rfl, hw17⟩ hz.preS rfl rfl hl.1 rfl (lv_room (Nat.le_of_ble_eq_true rfl)) dX6_init_51 ⟨Nat.le_of_ble_eq_true rfl, Nat.le_of_ble_eq_true rfl⟩) (fun E13 H locs hp13 hz hH => ?_)
  have hz : PS D vwCl (tys3 cJ cI cR) b (k + 39) s E13 H locs := hz
  have hH : H.size = b + (k + 39) := hH
  obtain ⟨o13, q13⟩ := hp13
  refine pw_putFS (C := RX6) (T := TX6) (N := 9) (ci := 5) (ty := .object "GaloisDesk$PartList") (v := .ref (b + (k + 24))) hx hb hts hw3 tyX6 tyX6_ok nmX6 hown hz hH (by omega) ((q13 _ (lt_lt (Nat.le_of_ble_eq_true rfl))).trans ((q12 _ (lt_ne (Nat.le_of_ble_eq_true rfl))).trans p11)) rfl 4 (by decide) hw18 (fun _ h9 => h9) rfl hin rfl (by decide +kernel) rfl rfl (Nat.le_of_ble_eq_true rfl) dX6_init_54 (fun H locs hz hH => ?_)
  obtain ⟨E14, hE14⟩ : ∃ X, X = va_up E13 (b + k) (.inr (5, [.ref (b + (k + 1)), .ref (b + (k + 18)), .ref (b + (k + 20)), .ref (b + (k + 22)), .ref (b + (k + 24)), .null, .int 0, .null, .null])) := ⟨_, rfl⟩
  have hz : PS D vwCl (tys3 cJ cI cR) b (k + 39) s E14 H locs := by rw [hE14]; exact hz
  have q14 : ∀ a : Nat, a ≠ (b + k) → E14 a = E13 a := fun a h => by rw [hE14]; exact va_up_ne _ _ h
  have p14 : E14 (b + k) = .inr (5, [.ref (b + (k + 1)), .ref (b + (k + 18)), .ref (b + (k + 20)), .ref (b + (k + 22)), .ref (b + (k + 24)), .null, .int 0, .null, .null]) := by rw [hE14]; exact va_up_self _ _ _
  refine lv_aload_n hx hb dX6_init_57 rfl (lv_at hl 0 rfl) ?_
  refine lv_bipush (v := 6) hx hb dX6_init_58 (by decide) ?_
  refine pw_newa (atype := .int) (ty := .int) (N' := 6) (a0 := (6, .inl (fun _ => 0))) hx hb hw19 rfl hz hH 1 rfl (fun _ h => by cases h) (fun cA => by rw [vp_cell_i]; rfl) (by decide +kernel) (by decide +kernel) (by show 6 * 4 ≤ 536870912; omega) (Nat.le_of_ble_eq_true rfl) (Nat.le_of_ble_eq_true rfl) dX6_init_60 (fun H hz hH => ?_)
  have hH : H.size = b + (k + 40) := hH
  obtain ⟨E15, hE15⟩ : ∃ X, X = va_up E14 (b + (k + 39)) (.inl (cI, 6, .inl (fun _ => 0))) := ⟨_, rfl⟩
  have hz : PS D vwCl (tys3 cJ cI cR) b (k + 40) s E15 H locs := by rw [hE15]; exact hz
  have q15 : ∀ a : Nat, a ≠ (b + (k + 39)) → E15 a = E14 a := fun a h => by rw [hE15]; exact va_up_ne _ _ h
  have p15 : E15 (b + (k + 39)) = .inl (cI, 6, .inl (fun _ => 0)) := by rw [hE15]; exact va_up_self _ _ _
  refine pw_putFS (C := RX6) (T := TX6) (N := 9) (ci := 5) (ty := .array .int) (v := .ref (b + (k + 39))) hx hb hts hw3 tyX6 tyX6_ok nmX6 hown hz hH (by omega) ((q15 _ (lt_ne (Nat.le_of_ble_eq_true rfl))).trans p14) rfl 5 (by decide) hw20 (fun _ h9 => h9) rfl hin rfl (by decide +kernel) rfl rfl (Nat.le_of_ble_eq_true rfl) dX6_init_62 (fun H locs hz hH => ?_)
  obtain ⟨E16, hE16⟩ : ∃ X, X = va_up E15 (b + k) (.inr (5, [.ref (b + (k + 1)), .ref (b + (k + 18)), .ref (b + (k + 20)), .ref (b + (k + 22)), .ref (b + (k + 24)), .ref (b + (k + 39)), .int 0, .null, .null])) := ⟨_, rfl⟩
  have hz : PS D vwCl (tys3 cJ cI cR) b (k + 40) s E16 H locs := by rw [hE16]; exact hz
  have q16 : ∀ a : Nat, a ≠ (b + k) → E16 a = E15 a := fun a h => by rw [hE16]; exact va_up_ne _ _ h
  have p16 : E16 (b + k) = .inr (5, [.ref (b + (k + 1)), .ref (b + (k + 18)), .ref (b + (k + 20)), .ref (b + (k + 22)), .ref (b + (k + 24)), .ref (b + (k + 39)), .int 0, .null, .null]) := by rw [hE16]; exact va_up_self _ _ _
  refine lv_aload_n hx hb dX6_init_65 rfl (lv_at hl 0 rfl) ?_
  refine lv_iconst (v := 0) hx hb dX6_init_66 (by decide) ?_
  refine pw_putS (C := RX6) (T := TX6) (N := 9) (ci := 5) (ty := .int) (v := .int 0) hx hb hts hw3 tyX6 tyX6_ok nmX6 hown hz hH (by omega) p16 rfl 6 (by decide) hw21 (fun _ h9 => h9) rfl (by decide +kernel) rfl rfl (Nat.le_of_ble_eq_true rfl) dX6_init_67 (fun H locs hz hH => ?_)
  obtain ⟨E17, hE17⟩ : ∃ X, X = va_up E16 (b + k) (.inr (5, [.ref (b + (k + 1)), .ref (b + (k + 18)), .ref (b + (k + 20)), .ref (b + (k + 22)), .ref (b + (k + 24)), .ref (b + (k + 39)), .int 0, .null, .null])) := ⟨_, rfl⟩
  have hz : PS D vwCl (tys3 cJ cI cR) b (k + 40) s E17 H locs := by rw [hE17]; exact hz
  have q17 : ∀ a : Nat, a ≠ (b + k) → E17 a = E16 a := fun a h => by rw [hE17]; exact va_up_ne _ _ h
  have p17 : E17 (b + k) = .inr (5, [.ref (b + (k + 1)), .ref (b + (k + 18)), .ref (b + (k + 20)), .ref (b + (k + 22)), .ref (b + (k + 24)), .ref (b + (k + 39)), .int 0, .null, .null]) := by rw [hE17]; exact va_up_self _ _ _
  refine lv_aload_n hx hb dX6_init_70 rfl (lv_at hl 0 rfl) ?_
  refine pw_new (ci := 0) (fs := [.null, .null, .null, .null, .null, .null, .null, .null, .null, .null]) (C := RX0) (T := TX0) (N := 10) hx hb hts hw22 tyX0 tyX0_ok hown hw23 hw24 hw25 hz hH rfl (fun j hj => by rcases (show j = 0 ∨ j = 1 ∨ j = 2 ∨ j = 3 ∨ j = 4 ∨ j = 5 ∨ j = 6 ∨ j = 7 ∨ j = 8 ∨ j = 9 by omega) with rfl | rfl | rfl | rfl | rfl | rfl | rfl | rfl | rfl | rfl <;> rfl) (Nat.le_of_ble_eq_true rfl) (Nat.le_of_ble_eq_true rfl) dX6_init_71 (fun H hz hH => ?_)
  have hH : H.size = b + (k + 41) := hH
  obtain ⟨E18, hE18⟩ : ∃ X, X = va_up E17 (b + (k + 40)) (.inr (0, [.null, .null, .null, .null, .null, .null, .null, .null, .null, .null])) := ⟨_, rfl⟩
  have hz : PS D vwCl (tys3 cJ cI cR) b (k + 41) s E18 H locs := by rw [hE18]; exact hz
  have q18 : ∀ a : Nat, a ≠ (b + (k + 40)) → E18 a = E17 a := fun a h => by rw [hE18]; exact va_up_ne _ _ h
  have p18 : E18 (b + (k + 40)) = .inr (0, [.null, .null, .null, .null, .null, .null, .null, .null, .null, .null]) := by rw [hE18]; exact va_up_self _ _ _
  refine lv_dup hx hb dX6_init_74 rfl ?_
  refine pw_callm hz (va_runIN (As := []) (rest := [.ref (b + (k + 40)), .ref (b + k)]) ⟨hx, hb, hml, hown, hts⟩ (c_Factoring_new l D cJ cI cR b _ H.size (k + 40) hH p18) ⟨va_cnB 0 hts gX6_init_X0_init_n47 rfl rfl rfl hz.2.2.2.2.2.1.2.2.1 hw25 (by decide +kernel) ⟨Nat.le_of_ble_eq_true rfl, Nat.le_of_ble_eq_true rfl⟩, rfl, hw26⟩ hz.preS rfl rfl hl.1 rfl (lv_room (Nat.le_of_ble_eq_true rfl)) dX6_init_75 ⟨Nat.le_of_ble_eq_true rfl, Nat.le_of_ble_eq_true rfl⟩) (fun E19 H locs hp19 hz hH => ?_)
  have hz : PS D vwCl (tys3 cJ cI cR) b (k + 124) s E19 H locs := hz
  have hH : H.size = b + (k + 124) := hH
  obtain ⟨o19, q19⟩ := hp19
  refine pw_putFS (C := RX6) (T := TX6) (N := 9) (ci := 5) (ty := .object "GaloisDesk$Factoring") (v := .ref (b + (k + 40))) hx hb hts hw3 tyX6 tyX6_ok nmX6 hown hz hH (by omega) ((q19 _ (lt_lt (Nat.le_of_ble_eq_true rfl))).trans ((q18 _ (lt_ne (Nat.le_of_ble_eq_true rfl))).trans p17)) rfl 7 (by decide) hw27 (fun _ h9 => h9) rfl hin rfl (by decide +kernel) rfl rfl (Nat.le_of_ble_eq_true rfl) dX6_init_78 (fun H locs hz hH => ?_)
  obtain ⟨E20, hE20⟩ : ∃ X, X = va_up E19 (b + k) (.inr (5, [.ref (b + (k + 1)), .ref (b + (k + 18)), .ref (b + (k + 20)), .ref (b + (k + 22)), .ref (b + (k + 24)), .ref (b + (k + 39)), .int 0, .ref (b + (k + 40)), .null])) := ⟨_, rfl⟩
  have hz : PS D vwCl (tys3 cJ cI cR) b (k + 124) s E20 H locs := by rw [hE20]; exact hz
  have q20 : ∀ a : Nat, a ≠ (b + k) → E20 a = E19 a := fun a h => by rw [hE20]; exact va_up_ne _ _ h
  have p20 : E20 (b + k) = .inr (5, [.ref (b + (k + 1)), .ref (b + (k + 18)), .ref (b + (k + 20)), .ref (b + (k + 22)), .ref (b + (k + 24)), .ref (b + (k + 39)), .int 0, .ref (b + (k + 40)), .null]) := by rw [hE20]; exact va_up_self _ _ _
  refine lv_aload_n hx hb dX6_init_81 rfl (lv_at hl 0 rfl) ?_
  refine lv_aload_n hx hb dX6_init_82 rfl (lv_at hl 0 rfl) ?_
  refine pw_get (C := RX6) (T := TX6) (N := 9) (ci := 5) (v := .ref (b + (k + 40))) hx hb hts hw3 hown hz (by omega) p20 rfl 7 (by decide) hw27 (fun _ h9 => h9) rfl dX6_init_83 ?_
  have hfac : E20 (b + (k + 40)) = .inr (0, [.ref (b + (k + 40) + 1), .ref (b + (k + 40) + 2), .ref (b + (k + 40) + 55), .ref (b + (k + 40) + 57), .ref (b + (k + 40) + 59), .ref (b + (k + 40) + 61), .ref (b + (k + 40) + 63), .ref (b + (k + 40) + 65), .ref (b + (k + 40) + 67), .ref (b + (k + 40) + 69)]) := (o19.keep (fun q h1 h2 => have hq1 : q ≠ b + k := kp_ne h1 (Nat.le_of_ble_eq_true rfl); have hq2 : q < b + (k + 124) := kp_lt h2 (Nat.le_of_ble_eq_true rfl); (q20 q hq1))).1
  refine pw_get (C := RX0) (T := TX0) (N := 10) (ci := 0) (v := .ref (b + (k + 40) + 1)) hx hb hts hw22 hown hz (by omega) hfac rfl 0 (by decide) hw28 (fun _ h9 => h9) rfl dX6_init_86 ?_
  refine pw_putFS (C := RX6) (T := TX6) (N := 9) (ci := 5) (ty := .object "GaloisDesk$Splitter") (v := .ref (b + (k + 40) + 1)) hx hb hts hw3 tyX6 tyX6_ok nmX6 hown hz hH (by omega) p20 rfl 8 (by decide) hw29 (fun _ h9 => h9) rfl hin rfl (by decide +kernel) rfl rfl (Nat.le_of_ble_eq_true rfl) dX6_init_89 (fun H locs hz hH => ?_)
  obtain ⟨E21, hE21⟩ : ∃ X, X = va_up E20 (b + k) (.inr (5, [.ref (b + (k + 1)), .ref (b + (k + 18)), .ref (b + (k + 20)), .ref (b + (k + 22)), .ref (b + (k + 24)), .ref (b + (k + 39)), .int 0, .ref (b + (k + 40)), .ref (b + (k + 40) + 1)])) := ⟨_, rfl⟩
  have hz : PS D vwCl (tys3 cJ cI cR) b (k + 124) s E21 H locs := by rw [hE21]; exact hz
  have q21 : ∀ a : Nat, a ≠ (b + k) → E21 a = E20 a := fun a h => by rw [hE21]; exact va_up_ne _ _ h
  have p21 : E21 (b + k) = .inr (5, [.ref (b + (k + 1)), .ref (b + (k + 18)), .ref (b + (k + 20)), .ref (b + (k + 22)), .ref (b + (k + 24)), .ref (b + (k + 39)), .int 0, .ref (b + (k + 40)), .ref (b + (k + 40) + 1)]) := by rw [hE21]; exact va_up_self _ _ _
  have k1 := f1.keep (fun q h1 h2 => have hq1 : q ≠ b + k := kp_ne h1 (Nat.le_of_ble_eq_true rfl); have hq2 : q < b + (k + 18) := kp_ltf h2 (Nat.le_of_ble_eq_true rfl); ((q21 q hq1).trans ((q20 q hq1).trans ((q19 q (lu_lt hq2 (Nat.le_of_ble_eq_true rfl))).trans ((q18 q (lu_ne hq2 (Nat.le_of_ble_eq_true rfl))).trans ((q17 q hq1).trans ((q16 q hq1).trans ((q15 q (lu_ne hq2 (Nat.le_of_ble_eq_true rfl))).trans ((q14 q hq1).trans ((q13 q (lu_lt hq2 (Nat.le_of_ble_eq_true rfl))).trans ((q12 q (lu_ne hq2 (Nat.le_of_ble_eq_true rfl))).trans ((q11 q hq1).trans ((q10 q (lu_lt hq2 (Nat.le_of_ble_eq_true rfl))).trans ((q9 q (lu_ne hq2 (Nat.le_of_ble_eq_true rfl))).trans ((q8 q hq1).trans ((q7 q (lu_lt hq2 (Nat.le_of_ble_eq_true rfl))).trans ((q6 q (lu_ne hq2 (Nat.le_of_ble_eq_true rfl))).trans ((q5 q hq1).trans ((q4 q (lu_lt hq2 (Nat.le_of_ble_eq_true rfl))).trans ((q3 q (lu_ne hq2 (Nat.le_of_ble_eq_true rfl))).trans (q2 q hq1)))))))))))))))))))))
  rw [(Nat.add_assoc b k 1).symm] at k1
  have k4 := r4.keep (fun q h1 h2 => have hq1 : q ≠ b + k := kp_ne h1 (Nat.le_of_ble_eq_true rfl); have hq2 : q < b + (k + 20) := kp_lt h2 (Nat.le_of_ble_eq_true rfl); ((q21 q hq1).trans ((q20 q hq1).trans ((q19 q (lu_lt hq2 (Nat.le_of_ble_eq_true rfl))).trans ((q18 q (lu_ne hq2 (Nat.le_of_ble_eq_true rfl))).trans ((q17 q hq1).trans ((q16 q hq1).trans ((q15 q (lu_ne hq2 (Nat.le_of_ble_eq_true rfl))).trans ((q14 q hq1).trans ((q13 q (lu_lt hq2 (Nat.le_of_ble_eq_true rfl))).trans ((q12 q (lu_ne hq2 (Nat.le_of_ble_eq_true rfl))).trans ((q11 q hq1).trans ((q10 q (lu_lt hq2 (Nat.le_of_ble_eq_true rfl))).trans ((q9 q (lu_ne hq2 (Nat.le_of_ble_eq_true rfl))).trans ((q8 q hq1).trans ((q7 q (lu_lt hq2 (Nat.le_of_ble_eq_true rfl))).trans ((q6 q (lu_ne hq2 (Nat.le_of_ble_eq_true rfl))).trans (q5 q hq1))))))))))))))))))
  rw [(Nat.add_assoc b k 18).symm] at k4
  have k7 := r7.keep (fun q h1 h2 => have hq1 : q ≠ b + k := kp_ne h1 (Nat.le_of_ble_eq_true rfl); have hq2 : q < b + (k + 22) := kp_lt h2 (Nat.le_of_ble_eq_true rfl); ((q21 q hq1).trans ((q20 q hq1).trans ((q19 q (lu_lt hq2 (Nat.le_of_ble_eq_true rfl))).trans ((q18 q (lu_ne hq2 (Nat.le_of_ble_eq_true rfl))).trans ((q17 q hq1).trans ((q16 q hq1).trans ((q15 q (lu_ne hq2 (Nat.le_of_ble_eq_true rfl))).trans ((q14 q hq1).trans ((q13 q (lu_lt hq2 (Nat.le_of_ble_eq_true rfl))).trans ((q12 q (lu_ne hq2 (Nat.le_of_ble_eq_true rfl))).trans ((q11 q hq1).trans ((q10 q (lu_lt hq2 (Nat.le_of_ble_eq_true rfl))).trans ((q9 q (lu_ne hq2 (Nat.le_of_ble_eq_true rfl))).trans (q8 q hq1)))))))))))))))
  rw [(Nat.add_assoc b k 20).symm] at k7
  have k10 := r10.keep (fun q h1 h2 => have hq1 : q ≠ b + k := kp_ne h1 (Nat.le_of_ble_eq_true rfl); have hq2 : q < b + (k + 24) := kp_lt h2 (Nat.le_of_ble_eq_true rfl); ((q21 q hq1).trans ((q20 q hq1).trans ((q19 q (lu_lt hq2 (Nat.le_of_ble_eq_true rfl))).trans ((q18 q (lu_ne hq2 (Nat.le_of_ble_eq_true rfl))).trans ((q17 q hq1).trans ((q16 q hq1).trans ((q15 q (lu_ne hq2 (Nat.le_of_ble_eq_true rfl))).trans ((q14 q hq1).trans ((q13 q (lu_lt hq2 (Nat.le_of_ble_eq_true rfl))).trans ((q12 q (lu_ne hq2 (Nat.le_of_ble_eq_true rfl))).trans (q11 q hq1))))))))))))
  rw [(Nat.add_assoc b k 22).symm] at k10
  have k13 := o13.keep (fun q h1 h2 => have hq1 : q ≠ b + k := kp_ne h1 (Nat.le_of_ble_eq_true rfl); have hq2 : q < b + (k + 39) := kp_lt h2 (Nat.le_of_ble_eq_true rfl); ((q21 q hq1).trans ((q20 q hq1).trans ((q19 q (lu_lt hq2 (Nat.le_of_ble_eq_true rfl))).trans ((q18 q (lu_ne hq2 (Nat.le_of_ble_eq_true rfl))).trans ((q17 q hq1).trans ((q16 q hq1).trans ((q15 q (lu_ne hq2 (Nat.le_of_ble_eq_true rfl))).trans (q14 q hq1)))))))))
  rw [(Nat.add_assoc b k 24).symm] at k13
  have k19 := o19.keep (fun q h1 h2 => have hq1 : q ≠ b + k := kp_ne h1 (Nat.le_of_ble_eq_true rfl); have hq2 : q < b + (k + 124) := kp_lt h2 (Nat.le_of_ble_eq_true rfl); ((q21 q hq1).trans (q20 q hq1)))
  rw [(Nat.add_assoc b k 40).symm] at k19
  have kc39 := ((q21 _ (lc_nt (Nat.le_of_ble_eq_true rfl))).trans ((q20 _ (lc_nt (Nat.le_of_ble_eq_true rfl))).trans ((q19 _ (lc_lt (Nat.le_of_ble_eq_true rfl))).trans ((q18 _ (lc_ne (Nat.le_of_ble_eq_true rfl))).trans ((q17 _ (lc_nt (Nat.le_of_ble_eq_true rfl))).trans ((q16 _ (lc_nt (Nat.le_of_ble_eq_true rfl))).trans p15))))))
  rw [(Nat.add_assoc b k 39).symm] at kc39
  have kc0 := p21
  rw [ka_3 b k 40 1] at kc0
  rw [(Nat.add_assoc b k 40).symm] at kc0
  rw [(Nat.add_assoc b k 39).symm] at kc0
  rw [(Nat.add_assoc b k 24).symm] at kc0
  rw [(Nat.add_assoc b k 22).symm] at kc0
  rw [(Nat.add_assoc b k 20).symm] at kc0
  rw [(Nat.add_assoc b k 18).symm] at kc0
  rw [(Nat.add_assoc b k 1).symm] at kc0
  exact pw_mret hx hb hret hlocks hz hH (⟨⟨kc0, k1, k4, k7, k10, k13, kc39, k19⟩, fun a h => ((q21 a (Nat.ne_of_lt h)).trans ((q20 a (Nat.ne_of_lt h)).trans ((q19 a (lu_lt0 h)).trans ((q18 a (lu_ne0 h)).trans ((q17 a (Nat.ne_of_lt h)).trans ((q16 a (Nat.ne_of_lt h)).trans ((q15 a (lu_ne0 h)).trans ((q14 a (Nat.ne_of_lt h)).trans ((q13 a (lu_lt0 h)).trans ((q12 a (lu_ne0 h)).trans ((q11 a (Nat.ne_of_lt h)).trans ((q10 a (lu_lt0 h)).trans ((q9 a (lu_ne0 h)).trans ((q8 a (Nat.ne_of_lt h)).trans ((q7 a (lu_lt0 h)).trans ((q6 a (lu_ne0 h)).trans ((q5 a (Nat.ne_of_lt h)).trans ((q4 a (lu_lt0 h)).trans ((q3 a (lu_ne0 h)).trans ((q2 a (Nat.ne_of_lt h)).trans (q1 a (lu_lt0 h))))))))))))))))))))))⟩) dX6_init_92
