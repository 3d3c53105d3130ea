def wp_X6_checkSlot (K : Cx) (I : TI) (L : TL) (A : TA) (i0 : Int32) (Q : TI → TL → TA → Prop) : Prop := ((i0 < 0 → False) ∧ (¬ i0 < 0 → ((i0 < 8 → Q I L A) ∧ (¬ i0 < 8 → False))))
set_option maxHeartbeats 1000000 in
set_option maxRecDepth 100000 in
theorem w_X6_checkSlot (K : Cx) (I : TI) (L : TL) (A : TA) (i0 : Int32) (Q : TI → TL → TA → Prop) (hwp : wp_X6_checkSlot K I L A i0 Q) : ConV K yX6_checkSlot wsX6_checkSlot 1 40 I L A [.int i0] Q := by
  intro hK sz
  refine Met.ofW (cc := cX6_checkSlot) (maxL := 1) (ret := none) (by decide) rfl ?_
  intro p e s m args below meth c s₁ B hml hv
  obtain ⟨rfl, hsz, hB⟩ := hv
  have hx := B.exec
  have hb := B.bytes
  have hret := B.returns
  have hts := atoms_spec (ws := wsX6_checkSlot) B.pre
  have hown : s.vm.findClass RX6 = some m.cls := findClass_of_methodNamed B.named
  have hlocks := B.notSynchronized
  subst hsz
  have hz : SS K s I L A s.heap [] := PS.start hB
  have hl := lv_entry ([.int i0]) (n := 1) (Nat.le_of_ble_eq_true rfl)
  rw [lg_entry_eq]
  generalize (lg_sl ([.int i0]) ++ List.replicate (1 - (lg_sl ([.int i0])).length) Slot.unset).toArray = ls at hl ⊢
  have hl : lv_has ls 1 [(0, .int i0)] := hl
  clear hB B
  refine lv_iload_n hx hb dX6_checkSlot_0 rfl (lv_at hl 0 rfl) ?_
  refine lv_if_lt (tgt := 10) hx hb dX6_checkSlot_1 (by decide) (fun q => ?_) (fun q => ?_)
  · have hwp := hwp.1 q
    exact hwp.elim
  · have hwp := hwp.2 q
    refine lv_iload_n hx hb dX6_checkSlot_4 rfl (lv_at hl 0 rfl) ?_
    refine lv_bipush (v := 8) hx hb dX6_checkSlot_5 (by decide) ?_
    refine lv_icmp_lt (tgt := 20) hx hb dX6_checkSlot_7 (by decide) (fun q => ?_) (fun q => ?_)
    · have hwp := hwp.1 q
      exact sw_vret hx hb hret hlocks hz hwp dX6_checkSlot_20
    · have hwp := hwp.2 q
      exact hwp.elim

def wp_X6_checkThreeSlots (K : Cx) (I : TI) (L : TL) (A : TA) (i0 : Int32) (i1 : Int32) (i2 : Int32) (Q : TI → TL → TA → Prop) : Prop := ∃ P1 : TI → TL → TA → Prop, ConV K yX6_checkSlot wsX6_checkSlot 1 40 I L A [.int i0] P1 ∧ ∀ (I3 : TI) (L4 : TL) (A5 : TA), P1 I3 L4 A5 → ∃ P6 : TI → TL → TA → Prop, ConV K yX6_checkSlot wsX6_checkSlot 1 40 I3 L4 A5 [.int i1] P6 ∧ ∀ (I8 : TI) (L9 : TL) (A10 : TA), P6 I8 L9 A10 → ∃ P11 : TI → TL → TA → Prop, ConV K yX6_checkSlot wsX6_checkSlot 1 40 I8 L9 A10 [.int i2] P11 ∧ ∀ (I13 : TI) (L14 : TL) (A15 : TA), P11 I13 L14 A15 → Q I13 L14 A15
set_option maxHeartbeats 1000000 in
set_option maxRecDepth 100000 in
theorem w_X6_checkThreeSlots (K : Cx) (I : TI) (L : TL) (A : TA) (i0 : Int32) (i1 : Int32) (i2 : Int32) (Q : TI → TL → TA → Prop) (hwp : wp_X6_checkThreeSlots K I L A i0 i1 i2 Q) : ConV K yX6_checkThreeSlots wsX6_checkThreeSlots 2 60 I L A [.int i0, .int i1, .int i2] Q := by
  intro hK sz
  refine Met.ofW (cc := cX6_checkThreeSlots) (maxL := 3) (ret := none) (by decide) rfl ?_
  intro p e s m args below meth c s₁ B hml hv
  obtain ⟨rfl, hsz, hB⟩ := hv
  have hx := B.exec
  have hb := B.bytes
  have hret := B.returns
  have hts := atoms_spec (ws := wsX6_checkThreeSlots) B.pre
  have hown : s.vm.findClass RX6 = some m.cls := findClass_of_methodNamed B.named
  have hlocks := B.notSynchronized
  subst hsz
  have hz : SS K s I L A s.heap [] := PS.start hB
  have hl := lv_entry ([.int i0, .int i1, .int i2]) (n := 3) (Nat.le_of_ble_eq_true rfl)
  rw [lg_entry_eq]
  generalize (lg_sl ([.int i0, .int i1, .int i2]) ++ List.replicate (3 - (lg_sl ([.int i0, .int i1, .int i2])).length) Slot.unset).toArray = ls at hl ⊢
  have hl : lv_has ls 3 [(0, .int i0), (1, .int i1), (2, .int i2)] := hl
  clear hB B
  refine lv_iload_n hx hb dX6_checkThreeSlots_0 rfl (lv_at hl 0 rfl) ?_
  obtain ⟨P1, hc2, hwp⟩ := hwp
  refine sw_callv hz (va_runS (As := [.int i0]) (rest := []) ⟨hx, hb, hml, hown, hts⟩ (hc2 hK _) (va_cwS 1 hts gX6_checkThreeSlots_X6_checkSlot rfl rfl rfl (by decide +kernel) ⟨Nat.le_of_ble_eq_true rfl, Nat.le_of_ble_eq_true rfl⟩) hz.preS rfl rfl hl.1 rfl (lv_room (Nat.le_of_ble_eq_true rfl)) dX6_checkThreeSlots_1 ⟨Nat.le_of_ble_eq_true rfl, Nat.le_of_ble_eq_true rfl⟩) (fun I3 L4 A5 H locs hp hz => ?_)
  have hwp := hwp I3 L4 A5 hp
  refine lv_iload_n hx hb dX6_checkThreeSlots_4 rfl (lv_at hl 1 rfl) ?_
  obtain ⟨P6, hc7, hwp⟩ := hwp
  refine sw_callv hz (va_runS (As := [.int i1]) (rest := []) ⟨hx, hb, hml, hown, hts⟩ (hc7 hK _) (va_cwS 1 hts gX6_checkThreeSlots_X6_checkSlot rfl rfl rfl (by decide +kernel) ⟨Nat.le_of_ble_eq_true rfl, Nat.le_of_ble_eq_true rfl⟩) hz.preS rfl rfl hl.1 rfl (lv_room (Nat.le_of_ble_eq_true rfl)) dX6_checkThreeSlots_5 ⟨Nat.le_of_ble_eq_true rfl, Nat.le_of_ble_eq_true rfl⟩) (fun I8 L9 A10 H locs hp hz => ?_)
  have hwp := hwp I8 L9 A10 hp
  refine lv_iload_n hx hb dX6_checkThreeSlots_8 rfl (lv_at hl 2 rfl) ?_
  obtain ⟨P11, hc12, hwp⟩ := hwp
  refine sw_callv hz (va_runS (As := [.int i2]) (rest := []) ⟨hx, hb, hml, hown, hts⟩ (hc12 hK _) (va_cwS 1 hts gX6_checkThreeSlots_X6_checkSlot rfl rfl rfl (by decide +kernel) ⟨Nat.le_of_ble_eq_true rfl, Nat.le_of_ble_eq_true rfl⟩) hz.preS rfl rfl hl.1 rfl (lv_room (Nat.le_of_ble_eq_true rfl)) dX6_checkThreeSlots_9 ⟨Nat.le_of_ble_eq_true rfl, Nat.le_of_ble_eq_true rfl⟩) (fun I13 L14 A15 H locs hp hz => ?_)
  have hwp := hwp I13 L14 A15 hp
  exact sw_vret hx hb hret hlocks hz hwp dX6_checkThreeSlots_12

def wp_X6_checkWithin (K : Cx) (I : TI) (L : TL) (A : TA) (i0 : Int32) (i1 : Int32) (Q : TI → TL → TA → Prop) : Prop := ((i0 < (-i1) → False) ∧ (¬ i0 < (-i1) → ((i0 ≤ i1 → Q I L A) ∧ (¬ i0 ≤ i1 → False))))
set_option maxHeartbeats 1000000 in
set_option maxRecDepth 100000 in
theorem w_X6_checkWithin (K : Cx) (I : TI) (L : TL) (A : TA) (i0 : Int32) (i1 : Int32) (Q : TI → TL → TA → Prop) (hwp : wp_X6_checkWithin K I L A i0 i1 Q) : ConV K yX6_checkWithin wsX6_checkWithin 1 40 I L A [.int i0, .int i1] Q := by
  intro hK sz
  refine Met.ofW (cc := cX6_checkWithin) (maxL := 2) (ret := none) (by decide) rfl ?_
  intro p e s m args below meth c s₁ B hml hv
  obtain ⟨rfl, hsz, hB⟩ := hv
  have hx := B.exec
  have hb := B.bytes
  have hret := B.returns
  have hts := atoms_spec (ws := wsX6_checkWithin) B.pre
  have hown : s.vm.findClass RX6 = some m.cls := findClass_of_methodNamed B.named
  have hlocks := B.notSynchronized
  subst hsz
  have hz : SS K s I L A s.heap [] := PS.start hB
  have hl := lv_entry ([.int i0, .int i1]) (n := 2) (Nat.le_of_ble_eq_true rfl)
  rw [lg_entry_eq]
  generalize (lg_sl ([.int i0, .int i1]) ++ List.replicate (2 - (lg_sl ([.int i0, .int i1])).length) Slot.unset).toArray = ls at hl ⊢
  have hl : lv_has ls 2 [(0, .int i0), (1, .int i1)] := hl
  clear hB B
  refine lv_iload_n hx hb dX6_checkWithin_0 rfl (lv_at hl 0 rfl) ?_
  refine lv_iload_n hx hb dX6_checkWithin_1 rfl (lv_at hl 1 rfl) ?_
  refine lv_ineg hx hb dX6_checkWithin_2 ?_
  refine lv_icmp_lt (tgt := 11) hx hb dX6_checkWithin_3 (by decide) (fun q => ?_) (fun q => ?_)
  · have hwp := hwp.1 q
    exact hwp.elim
  · have hwp := hwp.2 q
    refine lv_iload_n hx hb dX6_checkWithin_6 rfl (lv_at hl 0 rfl) ?_
    refine lv_iload_n hx hb dX6_checkWithin_7 rfl (lv_at hl 1 rfl) ?_
    refine lv_icmp_le (tgt := 21) hx hb dX6_checkWithin_8 (by decide) (fun q => ?_) (fun q => ?_)
    · have hwp := hwp.1 q
      exact sw_vret hx hb hret hlocks hz hwp dX6_checkWithin_21
    · have hwp := hwp.2 q
      exact hwp.elim

def wp_X6_keepResult (K : Cx) (I : TI) (L : TL) (A : TA) (o0 : Nat) (i1 : Int32) (Q : Int32 → TI → TL → TA → Prop) : Prop := cxS K o0 = shX6 o0 ∧ cxS K (o0 + 18) = shX4 (o0 + 18) ∧ ((6 < (I (o0 + 18) 1) → Q (-2) I L A) ∧ (¬ 6 < (I (o0 + 18) 1) → ∃ P3 : Int32 → TI → TL → TA → Prop, ConI K yX4_isWithin wsX4_isWithin 0 0 I L A [.ref (o0 + 18), .long 300] P3 ∧ ∀ (r8 : Int32) (I5 : TI) (L6 : TL) (A7 : TA), P3 r8 I5 L6 A7 → ((r8 = 0 → Q (-2) I5 L6 A7) ∧ (¬ r8 = 0 → aok (cxS K) (o0 + 1) 2 i1 ∧ cxS K (A7 (o0 + 1) (ix i1)) = shX4 (A7 (o0 + 1) (ix i1)) ∧ ∃ P11 : TI → TL → TA → Prop, ConV K yX4_become wsX4_become 1 40 I5 L6 A7 [.ref (A7 (o0 + 1) (ix i1)), .ref (o0 + 18)] P11 ∧ ∀ (I13 : TI) (L14 : TL) (A15 : TA), P11 I13 L14 A15 → Q (I13 (o0 + 18) 1) I13 L14 A15))))
set_option maxHeartbeats 1000000 in
set_option maxRecDepth 100000 in
theorem w_X6_keepResult (K : Cx) (I : TI) (L : TL) (A : TA) (o0 : Nat) (i1 : Int32) (Q : Int32 → TI → TL → TA → Prop) (hwp : wp_X6_keepResult K I L A o0 i1 Q) : ConI K yX6_keepResult wsX6_keepResult 2 61 I L A [.ref o0, .int i1] Q := by
  intro hK sz
  refine Met.ofW (cc := cX6_keepResult) (maxL := 2) (ret := (some .int)) (by decide) rfl ?_
  intro p e s m args below meth c s₁ B hml hv
  obtain ⟨rfl, hsz, hB⟩ := hv
  have hx := B.exec
  have hb := B.bytes
  have hret := B.returns
  have hts := atoms_spec (ws := wsX6_keepResult) B.pre
  have hown : s.vm.findClass RX6 = some m.cls := findClass_of_methodNamed B.named
  have hlocks := B.notSynchronized
  subst hsz
  have hz : SS K s I L A s.heap [] := PS.start hB
  have hl := lv_entry ([.ref o0, .int i1]) (n := 2) (Nat.le_of_ble_eq_true rfl)
  rw [lg_entry_eq]
  generalize (lg_sl ([.ref o0, .int i1]) ++ List.replicate (2 - (lg_sl ([.ref o0, .int i1])).length) Slot.unset).toArray = ls at hl ⊢
  have hl : lv_has ls 2 [(0, .ref o0), (1, .int i1)] := hl
  have hw0 : ∀ w ∈ u_ws RX6 TX6 9, w ∈ wsX6_keepResult := by decide +kernel
  have hw1 := hts (.fieldLink RX6 20 "GaloisDesk" "result" "LGaloisDesk$Row;") (by decide +kernel)
  have hw2 : ∀ w ∈ u_ws RX4 TX4 2, w ∈ wsX6_keepResult := by decide +kernel
  have hw3 := hts (.fieldLink RX6 75 "GaloisDesk$Row" "top" "I") (by decide +kernel)
  have hw4 := hts (.constantLong RX6 169 (300)) (by decide +kernel)
  have hw5 := hts (.fieldLink RX6 13 "GaloisDesk" "slots" "[LGaloisDesk$Row;") (by decide +kernel)
  clear hB B
  refine lv_aload_n hx hb dX6_keepResult_0 rfl (lv_at hl 0 rfl) ?_
  obtain ⟨hs1, hwp⟩ := hwp
  refine sw_get (C := RX6) (T := TX6) (N := 9) (v := .ref (o0 + 18)) hx hb hts hw0 hown hK hz hs1 rfl 1 (by decide) hw1 (fun _ h9 => h9) rfl dX6_keepResult_1 ?_
  obtain ⟨hs2, hwp⟩ := hwp
  refine sw_get (C := RX4) (T := TX4) (N := 2) (v := .int (I (o0 + 18) 1)) hx hb hts hw2 hown hK hz hs2 rfl 1 (by decide) hw3 (fun _ h9 => h9) rfl dX6_keepResult_4 ?_
  refine lv_bipush (v := 6) hx hb dX6_keepResult_7 (by decide) ?_
  refine lv_icmp_gt (tgt := 25) hx hb dX6_keepResult_9 (by decide) (fun q => ?_) (fun q => ?_)
  · have hwp := hwp.1 q
    refine lv_bipush (v := (-2)) hx hb dX6_keepResult_25 (by decide) ?_
    exact sw_iret hx hb hret hlocks hz hwp dX6_keepResult_27
  · have hwp := hwp.2 q
    refine lv_aload_n hx hb dX6_keepResult_12 rfl (lv_at hl 0 rfl) ?_
    refine sw_get (C := RX6) (T := TX6) (N := 9) (v := .ref (o0 + 18)) hx hb hts hw0 hown hK hz hs1 rfl 1 (by decide) hw1 (fun _ h9 => h9) rfl dX6_keepResult_13 ?_
    refine lv_ldc2 hx hb hown hw4 dX6_keepResult_16 ?_
    obtain ⟨P3, hc4, hwp⟩ := hwp
    refine sw_calli hz (va_runV (As := [.long 300]) (rest := []) ⟨hx, hb, hml, hown, hts⟩ (hc4 hK _) (cwV 1 hts gX6_keepResult_X4_isWithin rfl rfl rfl (by decide +kernel) ⟨Nat.le_of_ble_eq_true rfl, Nat.le_of_ble_eq_true rfl⟩) (hz.preV hK hs2 rfl) rfl rfl hl.1 rfl (lv_room (Nat.le_of_ble_eq_true rfl)) dX6_keepResult_19 ⟨Nat.le_of_ble_eq_true rfl, Nat.le_of_ble_eq_true rfl⟩) (fun r8 I5 L6 A7 H locs hp hz => ?_)
    have hwp := hwp r8 I5 L6 A7 hp
    refine lv_if_ne (tgt := 28) hx hb dX6_keepResult_22 (by decide) (fun q => ?_) (fun q => ?_)
    · have hwp := hwp.2 q
      refine lv_aload_n hx hb dX6_keepResult_28 rfl (lv_at hl 0 rfl) ?_
      refine sw_get (C := RX6) (T := TX6) (N := 9) (v := .ref (o0 + 1)) hx hb hts hw0 hown hK hz hs1 rfl 0 (by decide) hw5 (fun _ h9 => h9) rfl dX6_keepResult_29 ?_
      refine lv_iload_n hx hb dX6_keepResult_32 rfl (lv_at hl 1 rfl) ?_
      obtain ⟨ho9, hwp⟩ := hwp
      refine sw_aald hx hb hK hz ho9 dX6_keepResult_33 ?_
      refine lv_aload_n hx hb dX6_keepResult_34 rfl (lv_at hl 0 rfl) ?_
      refine sw_get (C := RX6) (T := TX6) (N := 9) (v := .ref (o0 + 18)) hx hb hts hw0 hown hK hz hs1 rfl 1 (by decide) hw1 (fun _ h9 => h9) rfl dX6_keepResult_35 ?_
      obtain ⟨hs10, hwp⟩ := hwp
      obtain ⟨P11, hc12, hwp⟩ := hwp
      refine sw_callv hz (va_runV (As := [.ref (o0 + 18)]) (rest := []) ⟨hx, hb, hml, hown, hts⟩ (hc12 hK _) (cwV 1 hts gX6_keepResult_X4_become rfl rfl rfl (by decide +kernel) ⟨Nat.le_of_ble_eq_true rfl, Nat.le_of_ble_eq_true rfl⟩) (hz.preV hK hs10 rfl) rfl rfl hl.1 rfl (lv_room (Nat.le_of_ble_eq_true rfl)) dX6_keepResult_38 ⟨Nat.le_of_ble_eq_true rfl, Nat.le_of_ble_eq_true rfl⟩) (fun I13 L14 A15 H locs hp hz => ?_)
      have hwp := hwp I13 L14 A15 hp
      refine lv_aload_n hx hb dX6_keepResult_41 rfl (lv_at hl 0 rfl) ?_
      refine sw_get (C := RX6) (T := TX6) (N := 9) (v := .ref (o0 + 18)) hx hb hts hw0 hown hK hz hs1 rfl 1 (by decide) hw1 (fun _ h9 => h9) rfl dX6_keepResult_42 ?_
      refine sw_get (C := RX4) (T := TX4) (N := 2) (v := .int (I13 (o0 + 18) 1)) hx hb hts hw2 hown hK hz hs2 rfl 1 (by decide) hw3 (fun _ h9 => h9) rfl dX6_keepResult_45 ?_
      exact sw_iret hx hb hret hlocks hz hwp dX6_keepResult_48
    · have hwp := hwp.1 q
      refine lv_bipush (v := (-2)) hx hb dX6_keepResult_25 (by decide) ?_
      exact sw_iret hx hb hret hlocks hz hwp dX6_keepResult_27

def wp_X6_add (K : Cx) (I : TI) (L : TL) (A : TA) (o0 : Nat) (i1 : Int32) (i2 : Int32) (i3 : Int32) (i4 : Int32) (i5 : Int32) (Q : Int32 → TI → TL → TA → Prop) : Prop := ∃ P1 : TI → TL → TA → Prop, ConV K yX6_checkThreeSlots wsX6_checkThreeSlots 2 60 I L A [.int i1, .int i2, .int i3] P1 ∧ ∀ (I3 : TI) (L4 : TL) (A5 : TA), P1 I3 L4 A5 → ∃ P6 : TI → TL → TA → Prop, ConV K yX6_checkWithin wsX6_checkWithin 1 40 I3 L4 A5 [.int i4, .int 10] P6 ∧ ∀ (I8 : TI) (L9 : TL) (A10 : TA), P6 I8 L9 A10 → ∃ P11 : TI → TL → TA → Prop, ConV K yX6_checkWithin wsX6_checkWithin 1 40 I8 L9 A10 [.int i5, .int 10] P11 ∧ ∀ (I13 : TI) (L14 : TL) (A15 : TA), P11 I13 L14 A15 → cxS K o0 = shX6 o0 ∧ aok (cxS K) (o0 + 1) 2 i2 ∧ aok (cxS K) (o0 + 1) 2 i3 ∧ cxS K (o0 + 18) = shX4 (o0 + 18) ∧ ∃ P20 : TI → TL → TA → Prop, ConV K yX4_becomeSum wsX4_becomeSum 1 21 I13 L14 A15 [.ref (o0 + 18), .ref (A15 (o0 + 1) (ix i2)), .long (Int32.toInt64 i4), .ref (A15 (o0 + 1) (ix i3)), .long (Int32.toInt64 i5)] P20 ∧ ∀ (I22 : TI) (L23 : TL) (A24 : TA), P20 I22 L23 A24 → ∃ P25 : Int32 → TI → TL → TA → Prop, ConI K yX6_keepResult wsX6_keepResult 2 61 I22 L23 A24 [.ref o0, .int i1] P25 ∧ ∀ (r30 : Int32) (I27 : TI) (L28 : TL) (A29 : TA), P25 r30 I27 L28 A29 → Q r30 I27 L28 A29
set_option maxHeartbeats 1000000 in
set_option maxRecDepth 100000 in
theorem w_X6_add (K : Cx) (I : TI) (L : TL) (A : TA) (o0 : Nat) (i1 : Int32) (i2 : Int32) (i3 : Int32) (i4 : Int32) (i5 : Int32) (Q : Int32 → TI → TL → TA → Prop) (hwp : wp_X6_add K I L A o0 i1 i2 i3 i4 i5 Q) : ConI K yX6_add wsX6_add 3 82 I L A [.ref o0, .int i1, .int i2, .int i3, .int i4, .int i5] Q := by
  intro hK sz
  refine Met.ofW (cc := cX6_add) (maxL := 6) (ret := (some .int)) (by decide) rfl ?_
  intro p e s m args below meth c s₁ B hml hv
  obtain ⟨rfl, hsz, hB⟩ := hv
  have hx := B.exec
  have hb := B.bytes
  have hret := B.returns
  have hts := atoms_spec (ws := wsX6_add) B.pre
  have hown : s.vm.findClass RX6 = some m.cls := findClass_of_methodNamed B.named
  have hlocks := B.notSynchronized
  subst hsz
  have hz : SS K s I L A s.heap [] := PS.start hB
  have hl := lv_entry ([.ref o0, .int i1, .int i2, .int i3, .int i4, .int i5]) (n := 6) (Nat.le_of_ble_eq_true rfl)
  rw [lg_entry_eq]
  generalize (lg_sl ([.ref o0, .int i1, .int i2, .int i3, .int i4, .int i5]) ++ List.replicate (6 - (lg_sl ([.ref o0, .int i1, .int i2, .int i3, .int i4, .int i5])).length) Slot.unset).toArray = ls at hl ⊢
  have hl : lv_has ls 6 [(0, .ref o0), (1, .int i1), (2, .int i2), (3, .int i3), (4, .int i4), (5, .int i5)] := hl
  have hw0 : ∀ w ∈ u_ws RX6 TX6 9, w ∈ wsX6_add := by decide +kernel
  have hw1 := hts (.fieldLink RX6 20 "GaloisDesk" "result" "LGaloisDesk$Row;") (by decide +kernel)
  have hw2 := hts (.fieldLink RX6 13 "GaloisDesk" "slots" "[LGaloisDesk$Row;") (by decide +kernel)
  clear hB B
  refine lv_iload_n hx hb dX6_add_0 rfl (lv_at hl 1 rfl) ?_
  refine lv_iload_n hx hb dX6_add_1 rfl (lv_at hl 2 rfl) ?_
  refine lv_iload_n hx hb dX6_add_2 rfl (lv_at hl 3 rfl) ?_
  obtain ⟨P1, hc2, hwp⟩ := hwp
  refine sw_callv hz (va_runS (As := [.int i1, .int i2, .int i3]) (rest := []) ⟨hx, hb, hml, hown, hts⟩ (hc2 hK _) (va_cwS 3 hts gX6_add_X6_checkThreeSlots rfl rfl rfl (by decide +kernel) ⟨Nat.le_of_ble_eq_true rfl, Nat.le_of_ble_eq_true rfl⟩) hz.preS rfl rfl hl.1 rfl (lv_room (Nat.le_of_ble_eq_true rfl)) dX6_add_3 ⟨Nat.le_of_ble_eq_true rfl, Nat.le_of_ble_eq_true rfl⟩) (fun I3 L4 A5 H locs hp hz => ?_)
  have hwp := hwp I3 L4 A5 hp
  refine lv_iload hx hb dX6_add_6 (lv_at hl 4 rfl) ?_
  refine lv_bipush (v := 10) hx hb dX6_add_8 (by decide) ?_
  obtain ⟨P6, hc7, hwp⟩ := hwp
  refine sw_callv hz (va_runS (As := [.int i4, .int 10]) (rest := []) ⟨hx, hb, hml, hown, hts⟩ (hc7 hK _) (va_cwS 2 hts gX6_add_X6_checkWithin rfl rfl rfl (by decide +kernel) ⟨Nat.le_of_ble_eq_true rfl, Nat.le_of_ble_eq_true rfl⟩) hz.preS rfl rfl hl.1 rfl (lv_room (Nat.le_of_ble_eq_true rfl)) dX6_add_10 ⟨Nat.le_of_ble_eq_true rfl, Nat.le_of_ble_eq_true rfl⟩) (fun I8 L9 A10 H locs hp hz => ?_)
  have hwp := hwp I8 L9 A10 hp
  refine lv_iload hx hb dX6_add_13 (lv_at hl 5 rfl) ?_
  refine lv_bipush (v := 10) hx hb dX6_add_15 (by decide) ?_
  obtain ⟨P11, hc12, hwp⟩ := hwp
  refine sw_callv hz (va_runS (As := [.int i5, .int 10]) (rest := []) ⟨hx, hb, hml, hown, hts⟩ (hc12 hK _) (va_cwS 2 hts gX6_add_X6_checkWithin rfl rfl rfl (by decide +kernel) ⟨Nat.le_of_ble_eq_true rfl, Nat.le_of_ble_eq_true rfl⟩) hz.preS rfl rfl hl.1 rfl (lv_room (Nat.le_of_ble_eq_true rfl)) dX6_add_17 ⟨Nat.le_of_ble_eq_true rfl, Nat.le_of_ble_eq_true rfl⟩) (fun I13 L14 A15 H locs hp hz => ?_)
  have hwp := hwp I13 L14 A15 hp
  refine lv_aload_n hx hb dX6_add_20 rfl (lv_at hl 0 rfl) ?_
  obtain ⟨hs16, hwp⟩ := hwp
  refine sw_get (C := RX6) (T := TX6) (N := 9) (v := .ref (o0 + 18)) hx hb hts hw0 hown hK hz hs16 rfl 1 (by decide) hw1 (fun _ h9 => h9) rfl dX6_add_21 ?_
  refine lv_aload_n hx hb dX6_add_24 rfl (lv_at hl 0 rfl) ?_
  refine sw_get (C := RX6) (T := TX6) (N := 9) (v := .ref (o0 + 1)) hx hb hts hw0 hown hK hz hs16 rfl 0 (by decide) hw2 (fun _ h9 => h9) rfl dX6_add_25 ?_
  refine lv_iload_n hx hb dX6_add_28 rfl (lv_at hl 2 rfl) ?_
  obtain ⟨ho17, hwp⟩ := hwp
  refine sw_aald hx hb hK hz ho17 dX6_add_29 ?_
  refine lv_iload hx hb dX6_add_30 (lv_at hl 4 rfl) ?_
  refine lv_i2l hx hb dX6_add_32 rfl ?_
  refine lv_aload_n hx hb dX6_add_33 rfl (lv_at hl 0 rfl) ?_
  refine sw_get (C := RX6) (T := TX6) (N := 9) (v := .ref (o0 + 1)) hx hb hts hw0 hown hK hz hs16 rfl 0 (by decide) hw2 (fun _ h9 => h9) rfl dX6_add_34 ?_
  refine lv_iload_n hx hb dX6_add_37 rfl (lv_at hl 3 rfl) ?_
  obtain ⟨ho18, hwp⟩ := hwp
  refine sw_aald hx hb hK hz ho18 dX6_add_38 ?_
  refine lv_iload hx hb dX6_add_39 (lv_at hl 5 rfl) ?_
  refine lv_i2l hx hb dX6_add_41 rfl ?_
  obtain ⟨hs19, hwp⟩ := hwp
  obtain ⟨P20, hc21, hwp⟩ := hwp
  refine sw_callv hz (va_runV (As := [.ref (A15 (o0 + 1) (ix i2)), .long (Int32.toInt64 i4), .ref (A15 (o0 + 1) (ix i3)), .long (Int32.toInt64 i5)]) (rest := []) ⟨hx, hb, hml, hown, hts⟩ (hc21 hK _) (cwV 4 hts gX6_add_X4_becomeSum rfl rfl rfl (by decide +kernel) ⟨Nat.le_of_ble_eq_true rfl, Nat.le_of_ble_eq_true rfl⟩) (hz.preV hK hs19 rfl) rfl rfl hl.1 rfl (lv_room (Nat.le_of_ble_eq_true rfl)) dX6_add_42 ⟨Nat.le_of_ble_eq_true rfl, Nat.le_of_ble_eq_true rfl⟩) (fun I22 L23 A24 H locs hp hz => ?_)
  have hwp := hwp I22 L23 A24 hp
  refine lv_aload_n hx hb dX6_add_45 rfl (lv_at hl 0 rfl) ?_
  refine lv_iload_n hx hb dX6_add_46 rfl (lv_at hl 1 rfl) ?_
  obtain ⟨P25, hc26, hwp⟩ := hwp
  refine sw_calli hz (va_runV (As := [.int i1]) (rest := []) ⟨hx, hb, hml, hown, hts⟩ (hc26 hK _) (cwV 1 hts gX6_add_X6_keepResult rfl rfl rfl (by decide +kernel) ⟨Nat.le_of_ble_eq_true rfl, Nat.le_of_ble_eq_true rfl⟩) (hz.preV hK hs16 rfl) rfl rfl hl.1 rfl (lv_room (Nat.le_of_ble_eq_true rfl)) dX6_add_47 ⟨Nat.le_of_ble_eq_true rfl, Nat.le_of_ble_eq_true rfl⟩) (fun r30 I27 L28 A29 H locs hp hz => ?_)
  have hwp := hwp r30 I27 L28 A29 hp
  exact sw_iret hx hb hret hlocks hz hwp dX6_add_50

def wp_X6_checkPlace (K : Cx) (I : TI) (L : TL) (A : TA) (i0 : Int32) (Q : TI → TL → TA → Prop) : Prop := ((i0 < 0 → False) ∧ (¬ i0 < 0 → ((i0 ≤ 6 → Q I L A) ∧ (¬ i0 ≤ 6 → False))))
set_option maxHeartbeats 1000000 in
set_option maxRecDepth 100000 in
theorem w_X6_checkPlace (K : Cx) (I : TI) (L : TL) (A : TA) (i0 : Int32) (Q : TI → TL → TA → Prop) (hwp : wp_X6_checkPlace K I L A i0 Q) : ConV K yX6_checkPlace wsX6_checkPlace 1 40 I L A [.int i0] Q := by
  intro hK sz
  refine Met.ofW (cc := cX6_checkPlace) (maxL := 1) (ret := none) (by decide) rfl ?_
  intro p e s m args below meth c s₁ B hml hv
  obtain ⟨rfl, hsz, hB⟩ := hv
  have hx := B.exec
  have hb := B.bytes
  have hret := B.returns
  have hts := atoms_spec (ws := wsX6_checkPlace) B.pre
  have hown : s.vm.findClass RX6 = some m.cls := findClass_of_methodNamed B.named
  have hlocks := B.notSynchronized
  subst hsz
  have hz : SS K s I L A s.heap [] := PS.start hB
  have hl := lv_entry ([.int i0]) (n := 1) (Nat.le_of_ble_eq_true rfl)
  rw [lg_entry_eq]
  generalize (lg_sl ([.int i0]) ++ List.replicate (1 - (lg_sl ([.int i0])).length) Slot.unset).toArray = ls at hl ⊢
  have hl : lv_has ls 1 [(0, .int i0)] := hl
  clear hB B
  refine lv_iload_n hx hb dX6_checkPlace_0 rfl (lv_at hl 0 rfl) ?_
  refine lv_if_lt (tgt := 10) hx hb dX6_checkPlace_1 (by decide) (fun q => ?_) (fun q => ?_)
  · have hwp := hwp.1 q
    exact hwp.elim
  · have hwp := hwp.2 q
    refine lv_iload_n hx hb dX6_checkPlace_4 rfl (lv_at hl 0 rfl) ?_
    refine lv_bipush (v := 6) hx hb dX6_checkPlace_5 (by decide) ?_
    refine lv_icmp_le (tgt := 20) hx hb dX6_checkPlace_7 (by decide) (fun q => ?_) (fun q => ?_)
    · have hwp := hwp.1 q
      exact sw_vret hx hb hret hlocks hz hwp dX6_checkPlace_20
    · have hwp := hwp.2 q
      exact hwp.elim

def wp_X6_checkPrime_24 (K : Cx) (i0 : Int32) (I : TI) (L : TL) (A : TA) (x1 : Int32) (Q : TI → TL → TA → Prop) : Prop := ∃ (Inv : Nat → TI → TL → TA → Int32 → Prop) (μ : Nat), Inv μ I L A x1 ∧ ∀ (μ : Nat) (C24 : TI → TL → TA → Int32 → Prop), (∀ (μ' : Nat) (I : TI) (L : TL) (A : TA) (x1 : Int32) , μ' < μ → Inv μ' I L A x1 → C24 I L A x1) → ∀ (I : TI) (L : TL) (A : TA) (x1 : Int32) , Inv μ I L A x1 → ((i0 < (x1 * x1) → Q I L A) ∧ (¬ i0 < (x1 * x1) → ¬ x1 = 0 ∧ (((i0 - i0 / x1 * x1) = 0 → False) ∧ (¬ (i0 - i0 / x1 * x1) = 0 → ∀ v2 : Int32, v2 = x1 + 1 → C24 I L A v2))))
def wp_X6_checkPrime (K : Cx) (I : TI) (L : TL) (A : TA) (i0 : Int32) (Q : TI → TL → TA → Prop) : Prop := ((i0 < 2 → False) ∧ (¬ i0 < 2 → ((i0 ≤ 997 → wp_X6_checkPrime_24 K i0 I L A 2 Q) ∧ (¬ i0 ≤ 997 → False))))
set_option maxHeartbeats 1000000 in
set_option maxRecDepth 100000 in
theorem w_X6_checkPrime (K : Cx) (I : TI) (L : TL) (A : TA) (i0 : Int32) (Q : TI → TL → TA → Prop) (hwp : wp_X6_checkPrime K I L A i0 Q) : ConV K yX6_checkPrime wsX6_checkPrime 1 40 I L A [.int i0] Q := by
  intro hK sz
  refine Met.ofW (cc := cX6_checkPrime) (maxL := 2) (ret := none) (by decide) rfl ?_
  intro p e s m args below meth c s₁ B hml hv
  obtain ⟨rfl, hsz, hB⟩ := hv
  have hx := B.exec
  have hb := B.bytes
  have hret := B.returns
  have hts := atoms_spec (ws := wsX6_checkPrime) B.pre
  have hown : s.vm.findClass RX6 = some m.cls := findClass_of_methodNamed B.named
  have hlocks := B.notSynchronized
  subst hsz
  have hz : SS K s I L A s.heap [] := PS.start hB
  have hl := lv_entry ([.int i0]) (n := 2) (Nat.le_of_ble_eq_true rfl)
  rw [lg_entry_eq]
  generalize (lg_sl ([.int i0]) ++ List.replicate (2 - (lg_sl ([.int i0])).length) Slot.unset).toArray = ls at hl ⊢
  have hl : lv_has ls 2 [(0, .int i0)] := hl
  clear hB B
  have wL24 : ∀ (I : TI) (L : TL) (A : TA) (x1 : Int32) (H : Heap) (locs : List Loc) (ls : Array Slot), wp_X6_checkPrime_24 K i0 I L A x1 Q → SS K s I L A H locs → lv_has ls 2 [(0, .int i0), (1, .int x1)] → W p (cxl K) e (headSpec wsX6_checkPrime (rmF 1 40)).room s m ([.int i0] : List Value).toArray below meth c H locs 0 0 (MQ below (cxQv K Q) ([.int i0] : List Value).toArray s 0 0 (PA (cxb K))) (F0 m 24 ls []) := by
    intro I L A x1 H locs ls hwp hz hl
    obtain ⟨Inv, μ, hi, hst⟩ := hwp
    have key : ∀ (μ : Nat) (I : TI) (L : TL) (A : TA) (x1 : Int32) (H : Heap) (locs : List Loc) (ls : Array Slot), Inv μ I L A x1 → SS K s I L A H locs → lv_has ls 2 [(0, .int i0), (1, .int x1)] → W p (cxl K) e (headSpec wsX6_checkPrime (rmF 1 40)).room s m ([.int i0] : List Value).toArray below meth c H locs 0 0 (MQ below (cxQv K Q) ([.int i0] : List Value).toArray s 0 0 (PA (cxb K))) (F0 m 24 ls []) := by
      clear hi hz hl
      intro μ
      induction μ using Nat.strongRecOn with | ind μ ih => ?_
      intro I L A x1 H locs ls hi hz hl
      obtain ⟨C24, hCd⟩ : ∃ C : TI → TL → TA → Int32 → Prop, C = fun I L A x1 => ∃ μ', μ' < μ ∧ Inv μ' I L A x1 := ⟨_, rfl⟩
      have hC24 : ∀ (I : TI) (L : TL) (A : TA) (x1 : Int32) (H : Heap) (locs : List Loc) (ls : Array Slot), C24 I L A x1 → SS K s I L A H locs → lv_has ls 2 [(0, .int i0), (1, .int x1)] → W p (cxl K) e (headSpec wsX6_checkPrime (rmF 1 40)).room s m ([.int i0] : List Value).toArray below meth c H locs 0 0 (MQ below (cxQv K Q) ([.int i0] : List Value).toArray s 0 0 (PA (cxb K))) (F0 m 24 ls []) := by
        intro I L A x1 H locs ls hc hz hl
        rw [hCd] at hc
        obtain ⟨μ', hlt, hc⟩ := hc
        exact ih μ' hlt I L A x1 H locs ls hc hz hl
      have hwp := hst μ C24 (fun μ' I L A x1 hlt hc => by rw [hCd]; exact ⟨μ', hlt, hc⟩) I L A x1 hi
      refine lv_iload_n hx hb dX6_checkPrime_24 rfl (lv_at hl 1 rfl) ?_
      refine lv_iload_n hx hb dX6_checkPrime_25 rfl (lv_at hl 1 rfl) ?_
      refine lv_imul hx hb dX6_checkPrime_26 ?_
      refine lv_iload_n hx hb dX6_checkPrime_27 rfl (lv_at hl 0 rfl) ?_
      refine lv_icmp_gt (tgt := 53) hx hb dX6_checkPrime_28 (by decide) (fun q => ?_) (fun q => ?_)
      · have hwp := hwp.1 q
        exact sw_vret hx hb hret hlocks hz hwp dX6_checkPrime_53
      · have hwp := hwp.2 q
        refine lv_iload_n hx hb dX6_checkPrime_31 rfl (lv_at hl 0 rfl) ?_
        refine lv_iload_n hx hb dX6_checkPrime_32 rfl (lv_at hl 1 rfl) ?_
        obtain ⟨hn1, hwp⟩ := hwp
        refine lv_irem hx hb dX6_checkPrime_33 hn1 ?_
        refine lv_if_ne (tgt := 47) hx hb dX6_checkPrime_34 (by decide) (fun q => ?_) (fun q => ?_)
        · have hwp := hwp.2 q
          obtain ⟨v2, q_v2⟩ : ∃ y : Int32, y = x1 + 1 := ⟨_, rfl⟩
          have hwp := hwp v2 q_v2
          refine lv_iinc (v := v2) (lv' := [(1, .int v2), (0, .int i0)]) hx hb dX6_checkPrime_47 hl (k := 1) rfl (by rw [q_v2]; rfl) (by decide) rfl (fun ls hl => ?_)
          refine lv_goto (tgt := 24) hx hb dX6_checkPrime_50 (by decide) ?_
          exact hC24 _ _ _ _ _ _ _ hwp hz (lv_sub hl [1, 0] rfl)
        · have hwp := hwp.1 q
          exact hwp.elim
    exact key μ I L A x1 H locs ls hi hz hl
  refine lv_iload_n hx hb dX6_checkPrime_0 rfl (lv_at hl 0 rfl) ?_
  refine lv_iconst (v := 2) hx hb dX6_checkPrime_1 (by decide) ?_
  refine lv_icmp_lt (tgt := 12) hx hb dX6_checkPrime_2 (by decide) (fun q => ?_) (fun q => ?_)
  · have hwp := hwp.1 q
    exact hwp.elim
  · have hwp := hwp.2 q
    refine lv_iload_n hx hb dX6_checkPrime_5 rfl (lv_at hl 0 rfl) ?_
    refine lv_sipush (v := 997) hx hb dX6_checkPrime_6 (by decide) ?_
    refine lv_icmp_le (tgt := 22) hx hb dX6_checkPrime_9 (by decide) (fun q => ?_) (fun q => ?_)
    · have hwp := hwp.1 q
      refine lv_iconst (v := 2) hx hb dX6_checkPrime_22 (by decide) ?_
      refine lv_istore_n (lv' := [(1, .int 2), (0, .int i0)]) hx hb dX6_checkPrime_23 rfl hl (by decide) rfl (fun ls hl => ?_)
      exact wL24 _ _ _ _ _ _ _ hwp hz (lv_sub hl [1, 0] rfl)
    · have hwp := hwp.2 q
      exact hwp.elim

def wp_X6_common_113 (K : Cx) (o0 : Nat) (i1 : Int32) (i2 : Int32) (i3 : Int32) (I : TI) (L : TL) (A : TA) (Q : Int32 → TI → TL → TA → Prop) : Prop := cxS K o0 = shX6 o0 ∧ ∃ P2 : Int32 → TI → TL → TA → Prop, ConI K yX6_keepResult wsX6_keepResult 2 61 I L A [.ref o0, .int i1] P2 ∧ ∀ (r7 : Int32) (I4 : TI) (L5 : TL) (A6 : TA), P2 r7 I4 L5 A6 → Q r7 I4 L5 A6
def wp_X6_common (K : Cx) (I : TI) (L : TL) (A : TA) (o0 : Nat) (i1 : Int32) (i2 : Int32) (i3 : Int32) (Q : Int32 → TI → TL → TA → Prop) : Prop := ∃ P8 : TI → TL → TA → Prop, ConV K yX6_checkThreeSlots wsX6_checkThreeSlots 2 60 I L A [.int i1, .int i2, .int i3] P8 ∧ ∀ (I10 : TI) (L11 : TL) (A12 : TA), P8 I10 L11 A12 → cxS K o0 = shX6 o0 ∧ aok (cxS K) (o0 + 1) 2 i2 ∧ cxS K (o0 + 20) = shX4 (o0 + 20) ∧ ∃ P16 : TI → TL → TA → Prop, ConV K yX4_become wsX4_become 1 40 I10 L11 A12 [.ref (o0 + 20), .ref (A12 (o0 + 1) (ix i2))] P16 ∧ ∀ (I18 : TI) (L19 : TL) (A20 : TA), P16 I18 L19 A20 → ∃ P21 : TI → TL → TA → Prop, ConV K yX4_makePrimitive wsX4_makePrimitive 3 93 I18 L19 A20 [.ref (o0 + 20)] P21 ∧ ∀ (I23 : TI) (L24 : TL) (A25 : TA), P21 I23 L24 A25 → aok (cxS K) (o0 + 1) 2 i3 ∧ cxS K (o0 + 22) = shX4 (o0 + 22) ∧ ∃ P28 : TI → TL → TA → Prop, ConV K yX4_become wsX4_become 1 40 I23 L24 A25 [.ref (o0 + 22), .ref (A25 (o0 + 1) (ix i3))] P28 ∧ ∀ (I30 : TI) (L31 : TL) (A32 : TA), P28 I30 L31 A32 → ∃ P33 : TI → TL → TA → Prop, ConV K yX4_makePrimitive wsX4_makePrimitive 3 93 I30 L31 A32 [.ref (o0 + 22)] P33 ∧ ∀ (I35 : TI) (L36 : TL) (A37 : TA), P33 I35 L36 A37 → ((0 ≤ (I35 (o0 + 20) 1) → ((0 ≤ (I35 (o0 + 22) 1) → cxS K (o0 + 40) = shX0 (o0 + 40) ∧ ∃ P39 : TI → TL → TA → Prop, ConV K yX0_findCommon wsX0_findCommon 4 116 I35 L36 A37 [.ref (o0 + 40), .ref (o0 + 18), .ref (o0 + 20), .ref (o0 + 22)] P39 ∧ ∀ (I41 : TI) (L42 : TL) (A43 : TA), P39 I41 L42 A43 → wp_X6_common_113 K o0 i1 i2 i3 I41 L42 A43 Q) ∧ (¬ 0 ≤ (I35 (o0 + 22) 1) → cxS K (o0 + 18) = shX4 (o0 + 18) ∧ ∃ P45 : TI → TL → TA → Prop, ConV K yX4_become wsX4_become 1 40 I35 L36 A37 [.ref (o0 + 18), .ref (o0 + 20)] P45 ∧ ∀ (I47 : TI) (L48 : TL) (A49 : TA), P45 I47 L48 A49 → wp_X6_common_113 K o0 i1 i2 i3 I47 L48 A49 Q))) ∧ (¬ 0 ≤ (I35 (o0 + 20) 1) → cxS K (o0 + 18) = shX4 (o0 + 18) ∧ ∃ P51 : TI → TL → TA → Prop, ConV K yX4_become wsX4_become 1 40 I35 L36 A37 [.ref (o0 + 18), .ref (o0 + 22)] P51 ∧ ∀ (I53 : TI) (L54 : TL) (A55 : TA), P51 I53 L54 A55 → wp_X6_common_113 K o0 i1 i2 i3 I53 L54 A55 Q))
set_option maxHeartbeats 1000000 in
set_option maxRecDepth 100000 in
theorem w_X6_common (K : Cx) (I : TI) (L : TL) (A : TA) (o0 : Nat) (i1 : Int32) (i2 : Int32) (i3 : Int32) (Q : Int32 → TI → TL → TA → Prop) (hwp : wp_X6_common K I L A o0 i1 i2 i3 Q) : ConI K yX6_common wsX6_common 5 146 I L A [.ref o0, .int i1, .int i2, .int i3] Q := by
  intro hK sz
  refine Met.ofW (cc := cX6_common) (maxL := 4) (ret := (some .int)) (by decide) rfl ?_
  intro p e s m args below meth c s₁ B hml hv
  obtain ⟨rfl, hsz, hB⟩ := hv
  have hx := B.exec
  have hb := B.bytes
  have hret := B.returns
  have hts := atoms_spec (ws := wsX6_common) B.pre
  have hown : s.vm.findClass RX6 = some m.cls := findClass_of_methodNamed B.named
  have hlocks := B.notSynchronized
  subst hsz
  have hz : SS K s I L A s.heap [] := PS.start hB
  have hl := lv_entry ([.ref o0, .int i1, .int i2, .int i3]) (n := 4) (Nat.le_of_ble_eq_true rfl)
  rw [lg_entry_eq]
  generalize (lg_sl ([.ref o0, .int i1, .int i2, .int i3]) ++ List.replicate (4 - (lg_sl ([.ref o0, .int i1, .int i2, .int i3])).length) Slot.unset).toArray = ls at hl ⊢
  have hl : lv_has ls 4 [(0, .ref o0), (1, .int i1), (2, .int i2), (3, .int i3)] := hl
  have hw0 : ∀ w ∈ u_ws RX6 TX6 9, w ∈ wsX6_common := by decide +kernel
  have hw1 := hts (.fieldLink RX6 24 "GaloisDesk" "left" "LGaloisDesk$Row;") (by decide +kernel)
  have hw2 := hts (.fieldLink RX6 13 "GaloisDesk" "slots" "[LGaloisDesk$Row;") (by decide +kernel)
  have hw3 := hts (.fieldLink RX6 27 "GaloisDesk" "right" "LGaloisDesk$Row;") (by decide +kernel)
  have hw4 : ∀ w ∈ u_ws RX4 TX4 2, w ∈ wsX6_common := by decide +kernel
  have hw5 := hts (.fieldLink RX6 75 "GaloisDesk$Row" "top" "I") (by decide +kernel)
  have hw6 := hts (.fieldLink RX6 48 "GaloisDesk" "factoring" "LGaloisDesk$Factoring;") (by decide +kernel)
  have hw7 := hts (.fieldLink RX6 20 "GaloisDesk" "result" "LGaloisDesk$Row;") (by decide +kernel)
  clear hB B
  have wL113 : ∀ (I : TI) (L : TL) (A : TA) (H : Heap) (locs : List Loc) (ls : Array Slot), wp_X6_common_113 K o0 i1 i2 i3 I L A Q → SS K s I L A H locs → lv_has ls 4 [(0, .ref o0), (1, .int i1)] → W p (cxl K) e (headSpec wsX6_common (rmF 5 146)).room s m ([.ref o0, .int i1, .int i2, .int i3] : List Value).toArray below meth c H locs 0 0 (MQ below (cxQi K Q) ([.ref o0, .int i1, .int i2, .int i3] : List Value).toArray s 0 0 (PA (cxb K))) (F0 m 113 ls []) := by
    intro I L A H locs ls hwp hz hl
    refine lv_aload_n hx hb dX6_common_113 rfl (lv_at hl 0 rfl) ?_
    refine lv_iload_n hx hb dX6_common_114 rfl (lv_at hl 1 rfl) ?_
    obtain ⟨hs1, hwp⟩ := hwp
    obtain ⟨P2, hc3, hwp⟩ := hwp
    refine sw_calli hz (va_runV (As := [.int i1]) (rest := []) ⟨hx, hb, hml, hown, hts⟩ (hc3 hK _) (cwV 1 hts gX6_common_X6_keepResult rfl rfl rfl (by decide +kernel) ⟨Nat.le_of_ble_eq_true rfl, Nat.le_of_ble_eq_true rfl⟩) (hz.preV hK hs1 rfl) rfl rfl hl.1 rfl (lv_room (Nat.le_of_ble_eq_true rfl)) dX6_common_115 ⟨Nat.le_of_ble_eq_true rfl, Nat.le_of_ble_eq_true rfl⟩) (fun r7 I4 L5 A6 H locs hp hz => ?_)
    have hwp := hwp r7 I4 L5 A6 hp
    exact sw_iret hx hb hret hlocks hz hwp dX6_common_118
  refine lv_iload_n hx hb dX6_common_0 rfl (lv_at hl 1 rfl) ?_
  refine lv_iload_n hx hb dX6_common_1 rfl (lv_at hl 2 rfl) ?_
  refine lv_iload_n hx hb dX6_common_2 rfl (lv_at hl 3 rfl) ?_
  obtain ⟨P8, hc9, hwp⟩ := hwp
  refine sw_callv hz (va_runS (As := [.int i1, .int i2, .int i3]) (rest := []) ⟨hx, hb, hml, hown, hts⟩ (hc9 hK _) (va_cwS 3 hts gX6_common_X6_checkThreeSlots rfl rfl rfl (by decide +kernel) ⟨Nat.le_of_ble_eq_true rfl, Nat.le_of_ble_eq_true rfl⟩) hz.preS rfl rfl hl.1 rfl (lv_room (Nat.le_of_ble_eq_true rfl)) dX6_common_3 ⟨Nat.le_of_ble_eq_true rfl, Nat.le_of_ble_eq_true rfl⟩) (fun I10 L11 A12 H locs hp hz => ?_)
  have hwp := hwp I10 L11 A12 hp
  refine lv_aload_n hx hb dX6_common_6 rfl (lv_at hl 0 rfl) ?_
  obtain ⟨hs13, hwp⟩ := hwp
  refine sw_get (C := RX6) (T := TX6) (N := 9) (v := .ref (o0 + 20)) hx hb hts hw0 hown hK hz hs13 rfl 2 (by decide) hw1 (fun _ h9 => h9) rfl dX6_common_7 ?_
  refine lv_aload_n hx hb dX6_common_10 rfl (lv_at hl 0 rfl) ?_
  refine sw_get (C := RX6) (T := TX6) (N := 9) (v := .ref (o0 + 1)) hx hb hts hw0 hown hK hz hs13 rfl 0 (by decide) hw2 (fun _ h9 => h9) rfl dX6_common_11 ?_
  refine lv_iload_n hx hb dX6_common_14 rfl (lv_at hl 2 rfl) ?_
  obtain ⟨ho14, hwp⟩ := hwp
  refine sw_aald hx hb hK hz ho14 dX6_common_15 ?_
  obtain ⟨hs15, hwp⟩ := hwp
  obtain ⟨P16, hc17, hwp⟩ := hwp
  refine sw_callv hz (va_runV (As := [.ref (A12 (o0 + 1) (ix i2))]) (rest := []) ⟨hx, hb, hml, hown, hts⟩ (hc17 hK _) (cwV 1 hts gX6_common_X4_become rfl rfl rfl (by decide +kernel) ⟨Nat.le_of_ble_eq_true rfl, Nat.le_of_ble_eq_true rfl⟩) (hz.preV hK hs15 rfl) rfl rfl hl.1 rfl (lv_room (Nat.le_of_ble_eq_true rfl)) dX6_common_16 ⟨Nat.le_of_ble_eq_true rfl, Nat.le_of_ble_eq_true rfl⟩) (fun I18 L19 A20 H locs hp hz => ?_)
  have hwp := hwp I18 L19 A20 hp
  refine lv_aload_n hx hb dX6_common_19 rfl (lv_at hl 0 rfl) ?_
  refine sw_get (C := RX6) (T := TX6) (N := 9) (v := .ref (o0 + 20)) hx hb hts hw0 hown hK hz hs13 rfl 2 (by decide) hw1 (fun _ h9 => h9) rfl dX6_common_20 ?_
  obtain ⟨P21, hc22, hwp⟩ := hwp
  refine sw_callv hz (va_runV (As := []) (rest := []) ⟨hx, hb, hml, hown, hts⟩ (hc22 hK _) (cwV 0 hts gX6_common_X4_makePrimitive rfl rfl rfl (by decide +kernel) ⟨Nat.le_of_ble_eq_true rfl, Nat.le_of_ble_eq_true rfl⟩) (hz.preV hK hs15 rfl) rfl rfl hl.1 rfl (lv_room (Nat.le_of_ble_eq_true rfl)) dX6_common_23 ⟨Nat.le_of_ble_eq_true rfl, Nat.le_of_ble_eq_true rfl⟩) (fun I23 L24 A25 H locs hp hz => ?_)
  have hwp := hwp I23 L24 A25 hp
  refine lv_aload_n hx hb dX6_common_26 rfl (lv_at hl 0 rfl) ?_
  refine sw_get (C := RX6) (T := TX6) (N := 9) (v := .ref (o0 + 22)) hx hb hts hw0 hown hK hz hs13 rfl 3 (by decide) hw3 (fun _ h9 => h9) rfl dX6_common_27 ?_
  refine lv_aload_n hx hb dX6_common_30 rfl (lv_at hl 0 rfl) ?_
  refine sw_get (C := RX6) (T := TX6) (N := 9) (v := .ref (o0 + 1)) hx hb hts hw0 hown hK hz hs13 rfl 0 (by decide) hw2 (fun _ h9 => h9) rfl dX6_common_31 ?_
  refine lv_iload_n hx hb dX6_common_34 rfl (lv_at hl 3 rfl) ?_
  obtain ⟨ho26, hwp⟩ := hwp
  refine sw_aald hx hb hK hz ho26 dX6_common_35 ?_
  obtain ⟨hs27, hwp⟩ := hwp
  obtain ⟨P28, hc29, hwp⟩ := hwp
  refine sw_callv hz (va_runV (As := [.ref (A25 (o0 + 1) (ix i3))]) (rest := []) ⟨hx, hb, hml, hown, hts⟩ (hc29 hK _) (cwV 1 hts gX6_common_X4_become rfl rfl rfl (by decide +kernel) ⟨Nat.le_of_ble_eq_true rfl, Nat.le_of_ble_eq_true rfl⟩) (hz.preV hK hs27 rfl) rfl rfl hl.1 rfl (lv_room (Nat.le_of_ble_eq_true rfl)) dX6_common_36 ⟨Nat.le_of_ble_eq_true rfl, Nat.le_of_ble_eq_true rfl⟩) (fun I30 L31 A32 H locs hp hz => ?_)
  have hwp := hwp I30 L31 A32 hp
  refine lv_aload_n hx hb dX6_common_39 rfl (lv_at hl 0 rfl) ?_
  refine sw_get (C := RX6) (T := TX6) (N := 9) (v := .ref (o0 + 22)) hx hb hts hw0 hown hK hz hs13 rfl 3 (by decide) hw3 (fun _ h9 => h9) rfl dX6_common_40 ?_
  obtain ⟨P33, hc34, hwp⟩ := hwp
  refine sw_callv hz (va_runV (As := []) (rest := []) ⟨hx, hb, hml, hown, hts⟩ (hc34 hK _) (cwV 0 hts gX6_common_X4_makePrimitive rfl rfl rfl (by decide +kernel) ⟨Nat.le_of_ble_eq_true rfl, Nat.le_of_ble_eq_true rfl⟩) (hz.preV hK hs27 rfl) rfl rfl hl.1 rfl (lv_room (Nat.le_of_ble_eq_true rfl)) dX6_common_43 ⟨Nat.le_of_ble_eq_true rfl, Nat.le_of_ble_eq_true rfl⟩) (fun I35 L36 A37 H locs hp hz => ?_)
  have hwp := hwp I35 L36 A37 hp
  refine lv_aload_n hx hb dX6_common_46 rfl (lv_at hl 0 rfl) ?_
  refine sw_get (C := RX6) (T := TX6) (N := 9) (v := .ref (o0 + 20)) hx hb hts hw0 hown hK hz hs13 rfl 2 (by decide) hw1 (fun _ h9 => h9) rfl dX6_common_47 ?_
  refine sw_get (C := RX4) (T := TX4) (N := 2) (v := .int (I35 (o0 + 20) 1)) hx hb hts hw4 hown hK hz hs15 rfl 1 (by decide) hw5 (fun _ h9 => h9) rfl dX6_common_50 ?_
  refine lv_if_ge (tgt := 70) hx hb dX6_common_53 (by decide) (fun q => ?_) (fun q => ?_)
  · have hwp := hwp.1 q
    refine lv_aload_n hx hb dX6_common_70 rfl (lv_at hl 0 rfl) ?_
    refine sw_get (C := RX6) (T := TX6) (N := 9) (v := .ref (o0 + 22)) hx hb hts hw0 hown hK hz hs13 rfl 3 (by decide) hw3 (fun _ h9 => h9) rfl dX6_common_71 ?_
    refine sw_get (C := RX4) (T := TX4) (N := 2) (v := .int (I35 (o0 + 22) 1)) hx hb hts hw4 hown hK hz hs27 rfl 1 (by decide) hw5 (fun _ h9 => h9) rfl dX6_common_74 ?_
    refine lv_if_ge (tgt := 94) hx hb dX6_common_77 (by decide) (fun q => ?_) (fun q => ?_)
    · have hwp := hwp.1 q
      refine lv_aload_n hx hb dX6_common_94 rfl (lv_at hl 0 rfl) ?_
      refine sw_get (C := RX6) (T := TX6) (N := 9) (v := .ref (o0 + 40)) hx hb hts hw0 hown hK hz hs13 rfl 7 (by decide) hw6 (fun _ h9 => h9) rfl dX6_common_95 ?_
      refine lv_aload_n hx hb dX6_common_98 rfl (lv_at hl 0 rfl) ?_
      refine sw_get (C := RX6) (T := TX6) (N := 9) (v := .ref (o0 + 18)) hx hb hts hw0 hown hK hz hs13 rfl 1 (by decide) hw7 (fun _ h9 => h9) rfl dX6_common_99 ?_
      refine lv_aload_n hx hb dX6_common_102 rfl (lv_at hl 0 rfl) ?_
      refine sw_get (C := RX6) (T := TX6) (N := 9) (v := .ref (o0 + 20)) hx hb hts hw0 hown hK hz hs13 rfl 2 (by decide) hw1 (fun _ h9 => h9) rfl dX6_common_103 ?_
      refine lv_aload_n hx hb dX6_common_106 rfl (lv_at hl 0 rfl) ?_
      refine sw_get (C := RX6) (T := TX6) (N := 9) (v := .ref (o0 + 22)) hx hb hts hw0 hown hK hz hs13 rfl 3 (by decide) hw3 (fun _ h9 => h9) rfl dX6_common_107 ?_
      obtain ⟨hs38, hwp⟩ := hwp
      obtain ⟨P39, hc40, hwp⟩ := hwp
      refine sw_callv hz (va_runV (As := [.ref (o0 + 18), .ref (o0 + 20), .ref (o0 + 22)]) (rest := []) ⟨hx, hb, hml, hown, hts⟩ (hc40 hK _) (cwV 3 hts gX6_common_X0_findCommon rfl rfl rfl (by decide +kernel) ⟨Nat.le_of_ble_eq_true rfl, Nat.le_of_ble_eq_true rfl⟩) (hz.preV hK hs38 rfl) rfl rfl hl.1 rfl (lv_room (Nat.le_of_ble_eq_true rfl)) dX6_common_110 ⟨Nat.le_of_ble_eq_true rfl, Nat.le_of_ble_eq_true rfl⟩) (fun I41 L42 A43 H locs hp hz => ?_)
      have hwp := hwp I41 L42 A43 hp
      exact wL113 _ _ _ _ _ _ hwp hz (lv_sub hl [0, 1] rfl)
    · have hwp := hwp.2 q
      refine lv_aload_n hx hb dX6_common_80 rfl (lv_at hl 0 rfl) ?_
      refine sw_get (C := RX6) (T := TX6) (N := 9) (v := .ref (o0 + 18)) hx hb hts hw0 hown hK hz hs13 rfl 1 (by decide) hw7 (fun _ h9 => h9) rfl dX6_common_81 ?_
      refine lv_aload_n hx hb dX6_common_84 rfl (lv_at hl 0 rfl) ?_
      refine sw_get (C := RX6) (T := TX6) (N := 9) (v := .ref (o0 + 20)) hx hb hts hw0 hown hK hz hs13 rfl 2 (by decide) hw1 (fun _ h9 => h9) rfl dX6_common_85 ?_
      obtain ⟨hs44, hwp⟩ := hwp
      obtain ⟨P45, hc46, hwp⟩ := hwp
      refine sw_callv hz (va_runV (As := [.ref (o0 + 20)]) (rest := []) ⟨hx, hb, hml, hown, hts⟩ (hc46 hK _) (cwV 1 hts gX6_common_X4_become rfl rfl rfl (by decide +kernel) ⟨Nat.le_of_ble_eq_true rfl, Nat.le_of_ble_eq_true rfl⟩) (hz.preV hK hs44 rfl) rfl rfl hl.1 rfl (lv_room (Nat.le_of_ble_eq_true rfl)) dX6_common_88 ⟨Nat.le_of_ble_eq_true rfl, Nat.le_of_ble_eq_true rfl⟩) (fun I47 L48 A49 H locs hp hz => ?_)
      have hwp := hwp I47 L48 A49 hp
      refine lv_goto (tgt := 113) hx hb dX6_common_91 (by decide) ?_
      exact wL113 _ _ _ _ _ _ hwp hz (lv_sub hl [0, 1] rfl)
  · have hwp := hwp.2 q
    refine lv_aload_n hx hb dX6_common_56 rfl (lv_at hl 0 rfl) ?_
    refine sw_get (C := RX6) (T := TX6) (N := 9) (v := .ref (o0 + 18)) hx hb hts hw0 hown hK hz hs13 rfl 1 (by decide) hw7 (fun _ h9 => h9) rfl dX6_common_57 ?_
    refine lv_aload_n hx hb dX6_common_60 rfl (lv_at hl 0 rfl) ?_
    refine sw_get (C := RX6) (T := TX6) (N := 9) (v := .ref (o0 + 22)) hx hb hts hw0 hown hK hz hs13 rfl 3 (by decide) hw3 (fun _ h9 => h9) rfl dX6_common_61 ?_
    obtain ⟨hs50, hwp⟩ := hwp
    obtain ⟨P51, hc52, hwp⟩ := hwp
    refine sw_callv hz (va_runV (As := [.ref (o0 + 22)]) (rest := []) ⟨hx, hb, hml, hown, hts⟩ (hc52 hK _) (cwV 1 hts gX6_common_X4_become rfl rfl rfl (by decide +kernel) ⟨Nat.le_of_ble_eq_true rfl, Nat.le_of_ble_eq_true rfl⟩) (hz.preV hK hs50 rfl) rfl rfl hl.1 rfl (lv_room (Nat.le_of_ble_eq_true rfl)) dX6_common_64 ⟨Nat.le_of_ble_eq_true rfl, Nat.le_of_ble_eq_true rfl⟩) (fun I53 L54 A55 H locs hp hz => ?_)
    have hwp := hwp I53 L54 A55 hp
    refine lv_goto (tgt := 113) hx hb dX6_common_67 (by decide) ?_
    exact wL113 _ _ _ _ _ _ hwp hz (lv_sub hl [0, 1] rfl)

def wp_X6_content (K : Cx) (I : TI) (L : TL) (A : TA) (o0 : Nat) (Q : Int32 → TI → TL → TA → Prop) : Prop := cxS K o0 = shX6 o0 ∧ cxS K (o0 + 24) = shX2 (o0 + 24) ∧ Q (I (o0 + 24) 3) I L A
set_option maxHeartbeats 1000000 in
set_option maxRecDepth 100000 in
theorem w_X6_content (K : Cx) (I : TI) (L : TL) (A : TA) (o0 : Nat) (Q : Int32 → TI → TL → TA → Prop) (hwp : wp_X6_content K I L A o0 Q) : ConI K yX6_content wsX6_content 0 0 I L A [.ref o0] Q := by
  intro hK sz
  refine Met.ofW (cc := cX6_content) (maxL := 1) (ret := (some .int)) (by decide) rfl ?_
  intro p e s m args below meth c s₁ B hml hv
  obtain ⟨rfl, hsz, hB⟩ := hv
  have hx := B.exec
  have hb := B.bytes
  have hret := B.returns
  have hts := atoms_spec (ws := wsX6_content) B.pre
  have hown : s.vm.findClass RX6 = some m.cls := findClass_of_methodNamed B.named
  have hlocks := B.notSynchronized
  subst hsz
  have hz : SS K s I L A s.heap [] := PS.start hB
  have hl := lv_entry ([.ref o0]) (n := 1) (Nat.le_of_ble_eq_true rfl)
  rw [lg_entry_eq]
  generalize (lg_sl ([.ref o0]) ++ List.replicate (1 - (lg_sl ([.ref o0])).length) Slot.unset).toArray = ls at hl ⊢
  have hl : lv_has ls 1 [(0, .ref o0)] := hl
  have hw0 : ∀ w ∈ u_ws RX6 TX6 9, w ∈ wsX6_content := by decide +kernel
  have hw1 := hts (.fieldLink RX6 33 "GaloisDesk" "told" "LGaloisDesk$PartList;") (by decide +kernel)
  have hw2 : ∀ w ∈ u_ws RX2 TX2 4, w ∈ wsX6_content := by decide +kernel
  have hw3 := hts (.fieldLink RX6 138 "GaloisDesk$PartList" "number" "I") (by decide +kernel)
  clear hB B
  refine lv_aload_n hx hb dX6_content_0 rfl (lv_at hl 0 rfl) ?_
  obtain ⟨hs1, hwp⟩ := hwp
  refine sw_get (C := RX6) (T := TX6) (N := 9) (v := .ref (o0 + 24)) hx hb hts hw0 hown hK hz hs1 rfl 4 (by decide) hw1 (fun _ h9 => h9) rfl dX6_content_1 ?_
  obtain ⟨hs2, hwp⟩ := hwp
  refine sw_get (C := RX2) (T := TX2) (N := 4) (v := .int (I (o0 + 24) 3)) hx hb hts hw2 hown hK hz hs2 rfl 3 (by decide) hw3 (fun _ h9 => h9) rfl dX6_content_4 ?_
  exact sw_iret hx hb hret hlocks hz hwp dX6_content_7

def wp_X6_degree (K : Cx) (I : TI) (L : TL) (A : TA) (o0 : Nat) (i1 : Int32) (Q : Int32 → TI → TL → TA → Prop) : Prop := ((i1 < 0 → Q 0 I L A) ∧ (¬ i1 < 0 → cxS K o0 = shX6 o0 ∧ ((i1 < (I o0 6) → aok (cxS K) (o0 + 39) 0 i1 ∧ Q (I (o0 + 39) (ix i1)) I L A) ∧ (¬ i1 < (I o0 6) → Q 0 I L A))))
set_option maxHeartbeats 1000000 in
set_option maxRecDepth 100000 in
theorem w_X6_degree (K : Cx) (I : TI) (L : TL) (A : TA) (o0 : Nat) (i1 : Int32) (Q : Int32 → TI → TL → TA → Prop) (hwp : wp_X6_degree K I L A o0 i1 Q) : ConI K yX6_degree wsX6_degree 0 0 I L A [.ref o0, .int i1] Q := by
  intro hK sz
  refine Met.ofW (cc := cX6_degree) (maxL := 2) (ret := (some .int)) (by decide) rfl ?_
  intro p e s m args below meth c s₁ B hml hv
  obtain ⟨rfl, hsz, hB⟩ := hv
  have hx := B.exec
  have hb := B.bytes
  have hret := B.returns
  have hts := atoms_spec (ws := wsX6_degree) B.pre
  have hown : s.vm.findClass RX6 = some m.cls := findClass_of_methodNamed B.named
  have hlocks := B.notSynchronized
  subst hsz
  have hz : SS K s I L A s.heap [] := PS.start hB
  have hl := lv_entry ([.ref o0, .int i1]) (n := 2) (Nat.le_of_ble_eq_true rfl)
  rw [lg_entry_eq]
  generalize (lg_sl ([.ref o0, .int i1]) ++ List.replicate (2 - (lg_sl ([.ref o0, .int i1])).length) Slot.unset).toArray = ls at hl ⊢
  have hl : lv_has ls 2 [(0, .ref o0), (1, .int i1)] := hl
  have hw0 : ∀ w ∈ u_ws RX6 TX6 9, w ∈ wsX6_degree := by decide +kernel
  have hw1 := hts (.fieldLink RX6 41 "GaloisDesk" "patternCount" "I") (by decide +kernel)
  have hw2 := hts (.fieldLink RX6 37 "GaloisDesk" "patternDegrees" "[I") (by decide +kernel)
  clear hB B
  refine lv_iload_n hx hb dX6_degree_0 rfl (lv_at hl 1 rfl) ?_
  refine lv_if_lt (tgt := 12) hx hb dX6_degree_1 (by decide) (fun q => ?_) (fun q => ?_)
  · have hwp := hwp.1 q
    refine lv_iconst (v := 0) hx hb dX6_degree_12 (by decide) ?_
    refine lv_goto (tgt := 22) hx hb dX6_degree_13 (by decide) ?_
    exact sw_iret hx hb hret hlocks hz hwp dX6_degree_22
  · have hwp := hwp.2 q
    refine lv_iload_n hx hb dX6_degree_4 rfl (lv_at hl 1 rfl) ?_
    refine lv_aload_n hx hb dX6_degree_5 rfl (lv_at hl 0 rfl) ?_
    obtain ⟨hs1, hwp⟩ := hwp
    refine sw_get (C := RX6) (T := TX6) (N := 9) (v := .int (I o0 6)) hx hb hts hw0 hown hK hz hs1 rfl 6 (by decide) hw1 (fun _ h9 => h9) rfl dX6_degree_6 ?_
    refine lv_icmp_lt (tgt := 16) hx hb dX6_degree_9 (by decide) (fun q => ?_) (fun q => ?_)
    · have hwp := hwp.1 q
      refine lv_aload_n hx hb dX6_degree_16 rfl (lv_at hl 0 rfl) ?_
      refine sw_get (C := RX6) (T := TX6) (N := 9) (v := .ref (o0 + 39)) hx hb hts hw0 hown hK hz hs1 rfl 5 (by decide) hw2 (fun _ h9 => h9) rfl dX6_degree_17 ?_
      refine lv_iload_n hx hb dX6_degree_20 rfl (lv_at hl 1 rfl) ?_
      obtain ⟨ho2, hwp⟩ := hwp
      refine sw_iald hx hb hK hz ho2 dX6_degree_21 ?_
      exact sw_iret hx hb hret hlocks hz hwp dX6_degree_22
    · have hwp := hwp.2 q
      refine lv_iconst (v := 0) hx hb dX6_degree_12 (by decide) ?_
      refine lv_goto (tgt := 22) hx hb dX6_degree_13 (by decide) ?_
      exact sw_iret hx hb hret hlocks hz hwp dX6_degree_22

def wp_X6_derive (K : Cx) (I : TI) (L : TL) (A : TA) (o0 : Nat) (i1 : Int32) (i2 : Int32) (Q : Int32 → TI → TL → TA → Prop) : Prop := ∃ P1 : TI → TL → TA → Prop, ConV K yX6_checkSlot wsX6_checkSlot 1 40 I L A [.int i1] P1 ∧ ∀ (I3 : TI) (L4 : TL) (A5 : TA), P1 I3 L4 A5 → ∃ P6 : TI → TL → TA → Prop, ConV K yX6_checkSlot wsX6_checkSlot 1 40 I3 L4 A5 [.int i2] P6 ∧ ∀ (I8 : TI) (L9 : TL) (A10 : TA), P6 I8 L9 A10 → cxS K o0 = shX6 o0 ∧ aok (cxS K) (o0 + 1) 2 i2 ∧ cxS K (o0 + 18) = shX4 (o0 + 18) ∧ ∃ P14 : TI → TL → TA → Prop, ConV K yX4_becomeSlope wsX4_becomeSlope 1 21 I8 L9 A10 [.ref (o0 + 18), .ref (A10 (o0 + 1) (ix i2))] P14 ∧ ∀ (I16 : TI) (L17 : TL) (A18 : TA), P14 I16 L17 A18 → ∃ P19 : Int32 → TI → TL → TA → Prop, ConI K yX6_keepResult wsX6_keepResult 2 61 I16 L17 A18 [.ref o0, .int i1] P19 ∧ ∀ (r24 : Int32) (I21 : TI) (L22 : TL) (A23 : TA), P19 r24 I21 L22 A23 → Q r24 I21 L22 A23
set_option maxHeartbeats 1000000 in
set_option maxRecDepth 100000 in
theorem w_X6_derive (K : Cx) (I : TI) (L : TL) (A : TA) (o0 : Nat) (i1 : Int32) (i2 : Int32) (Q : Int32 → TI → TL → TA → Prop) (hwp : wp_X6_derive K I L A o0 i1 i2 Q) : ConI K yX6_derive wsX6_derive 3 82 I L A [.ref o0, .int i1, .int i2] Q := by
  intro hK sz
  refine Met.ofW (cc := cX6_derive) (maxL := 3) (ret := (some .int)) (by decide) rfl ?_
  intro p e s m args below meth c s₁ B hml hv
  obtain ⟨rfl, hsz, hB⟩ := hv
  have hx := B.exec
  have hb := B.bytes
  have hret := B.returns
  have hts := atoms_spec (ws := wsX6_derive) B.pre
  have hown : s.vm.findClass RX6 = some m.cls := findClass_of_methodNamed B.named
  have hlocks := B.notSynchronized
  subst hsz
  have hz : SS K s I L A s.heap [] := PS.start hB
  have hl := lv_entry ([.ref o0, .int i1, .int i2]) (n := 3) (Nat.le_of_ble_eq_true rfl)
  rw [lg_entry_eq]
  generalize (lg_sl ([.ref o0, .int i1, .int i2]) ++ List.replicate (3 - (lg_sl ([.ref o0, .int i1, .int i2])).length) Slot.unset).toArray = ls at hl ⊢
  have hl : lv_has ls 3 [(0, .ref o0), (1, .int i1), (2, .int i2)] := hl
  have hw0 : ∀ w ∈ u_ws RX6 TX6 9, w ∈ wsX6_derive := by decide +kernel
  have hw1 := hts (.fieldLink RX6 20 "GaloisDesk" "result" "LGaloisDesk$Row;") (by decide +kernel)
  have hw2 := hts (.fieldLink RX6 13 "GaloisDesk" "slots" "[LGaloisDesk$Row;") (by decide +kernel)
  clear hB B
  refine lv_iload_n hx hb dX6_derive_0 rfl (lv_at hl 1 rfl) ?_
  obtain ⟨P1, hc2, hwp⟩ := hwp
  refine sw_callv hz (va_runS (As := [.int i1]) (rest := []) ⟨hx, hb, hml, hown, hts⟩ (hc2 hK _) (va_cwS 1 hts gX6_derive_X6_checkSlot rfl rfl rfl (by decide +kernel) ⟨Nat.le_of_ble_eq_true rfl, Nat.le_of_ble_eq_true rfl⟩) hz.preS rfl rfl hl.1 rfl (lv_room (Nat.le_of_ble_eq_true rfl)) dX6_derive_1 ⟨Nat.le_of_ble_eq_true rfl, Nat.le_of_ble_eq_true rfl⟩) (fun I3 L4 A5 H locs hp hz => ?_)
  have hwp := hwp I3 L4 A5 hp
  refine lv_iload_n hx hb dX6_derive_4 rfl (lv_at hl 2 rfl) ?_
  obtain ⟨P6, hc7, hwp⟩ := hwp
  refine sw_callv hz (va_runS (As := [.int i2]) (rest := []) ⟨hx, hb, hml, hown, hts⟩ (hc7 hK _) (va_cwS 1 hts gX6_derive_X6_checkSlot rfl rfl rfl (by decide +kernel) ⟨Nat.le_of_ble_eq_true rfl, Nat.le_of_ble_eq_true rfl⟩) hz.preS rfl rfl hl.1 rfl (lv_room (Nat.le_of_ble_eq_true rfl)) dX6_derive_5 ⟨Nat.le_of_ble_eq_true rfl, Nat.le_of_ble_eq_true rfl⟩) (fun I8 L9 A10 H locs hp hz => ?_)
  have hwp := hwp I8 L9 A10 hp
  refine lv_aload_n hx hb dX6_derive_8 rfl (lv_at hl 0 rfl) ?_
  obtain ⟨hs11, hwp⟩ := hwp
  refine sw_get (C := RX6) (T := TX6) (N := 9) (v := .ref (o0 + 18)) hx hb hts hw0 hown hK hz hs11 rfl 1 (by decide) hw1 (fun _ h9 => h9) rfl dX6_derive_9 ?_
  refine lv_aload_n hx hb dX6_derive_12 rfl (lv_at hl 0 rfl) ?_
  refine sw_get (C := RX6) (T := TX6) (N := 9) (v := .ref (o0 + 1)) hx hb hts hw0 hown hK hz hs11 rfl 0 (by decide) hw2 (fun _ h9 => h9) rfl dX6_derive_13 ?_
  refine lv_iload_n hx hb dX6_derive_16 rfl (lv_at hl 2 rfl) ?_
  obtain ⟨ho12, hwp⟩ := hwp
  refine sw_aald hx hb hK hz ho12 dX6_derive_17 ?_
  obtain ⟨hs13, hwp⟩ := hwp
  obtain ⟨P14, hc15, hwp⟩ := hwp
  refine sw_callv hz (va_runV (As := [.ref (A10 (o0 + 1) (ix i2))]) (rest := []) ⟨hx, hb, hml, hown, hts⟩ (hc15 hK _) (cwV 1 hts gX6_derive_X4_becomeSlope rfl rfl rfl (by decide +kernel) ⟨Nat.le_of_ble_eq_true rfl, Nat.le_of_ble_eq_true rfl⟩) (hz.preV hK hs13 rfl) rfl rfl hl.1 rfl (lv_room (Nat.le_of_ble_eq_true rfl)) dX6_derive_18 ⟨Nat.le_of_ble_eq_true rfl, Nat.le_of_ble_eq_true rfl⟩) (fun I16 L17 A18 H locs hp hz => ?_)
  have hwp := hwp I16 L17 A18 hp
  refine lv_aload_n hx hb dX6_derive_21 rfl (lv_at hl 0 rfl) ?_
  refine lv_iload_n hx hb dX6_derive_22 rfl (lv_at hl 1 rfl) ?_
  obtain ⟨P19, hc20, hwp⟩ := hwp
  refine sw_calli hz (va_runV (As := [.int i1]) (rest := []) ⟨hx, hb, hml, hown, hts⟩ (hc20 hK _) (cwV 1 hts gX6_derive_X6_keepResult rfl rfl rfl (by decide +kernel) ⟨Nat.le_of_ble_eq_true rfl, Nat.le_of_ble_eq_true rfl⟩) (hz.preV hK hs11 rfl) rfl rfl hl.1 rfl (lv_room (Nat.le_of_ble_eq_true rfl)) dX6_derive_23 ⟨Nat.le_of_ble_eq_true rfl, Nat.le_of_ble_eq_true rfl⟩) (fun r24 I21 L22 A23 H locs hp hz => ?_)
  have hwp := hwp r24 I21 L22 A23 hp
  exact sw_iret hx hb hret hlocks hz hwp dX6_derive_26

def wp_X6_divide (K : Cx) (I : TI) (L : TL) (A : TA) (o0 : Nat) (i1 : Int32) (i2 : Int32) (i3 : Int32) (Q : Int32 → TI → TL → TA → Prop) : Prop := ∃ P1 : TI → TL → TA → Prop, ConV K yX6_checkThreeSlots wsX6_checkThreeSlots 2 60 I L A [.int i1, .int i2, .int i3] P1 ∧ ∀ (I3 : TI) (L4 : TL) (A5 : TA), P1 I3 L4 A5 → cxS K o0 = shX6 o0 ∧ aok (cxS K) (o0 + 1) 2 i3 ∧ cxS K (A5 (o0 + 1) (ix i3)) = shX4 (A5 (o0 + 1) (ix i3)) ∧ ((0 ≤ (I3 (A5 (o0 + 1) (ix i3)) 1) → aok (cxS K) (o0 + 1) 2 i2 ∧ aok (cxS K) (o0 + 1) 2 i3 ∧ cxS K (o0 + 18) = shX4 (o0 + 18) ∧ ∃ P12 : Int32 → TI → TL → TA → Prop, ConI K yX4_becomeQuotient wsX4_becomeQuotient 2 61 I3 L4 A5 [.ref (o0 + 18), .ref (A5 (o0 + 1) (ix i2)), .ref (A5 (o0 + 1) (ix i3)), .ref (o0 + 20)] P12 ∧ ∀ (r17 : Int32) (I14 : TI) (L15 : TL) (A16 : TA), P12 r17 I14 L15 A16 → ((r17 = 0 → Q (-1) I14 L15 A16) ∧ (¬ r17 = 0 → ∃ P18 : Int32 → TI → TL → TA → Prop, ConI K yX6_keepResult wsX6_keepResult 2 61 I14 L15 A16 [.ref o0, .int i1] P18 ∧ ∀ (r23 : Int32) (I20 : TI) (L21 : TL) (A22 : TA), P18 r23 I20 L21 A22 → Q r23 I20 L21 A22))) ∧ (¬ 0 ≤ (I3 (A5 (o0 + 1) (ix i3)) 1) → Q (-3) I3 L4 A5))
set_option maxHeartbeats 1000000 in
set_option maxRecDepth 100000 in
theorem w_X6_divide (K : Cx) (I : TI) (L : TL) (A : TA) (o0 : Nat) (i1 : Int32) (i2 : Int32) (i3 : Int32) (Q : Int32 → TI → TL → TA → Prop) (hwp : wp_X6_divide K I L A o0 i1 i2 i3 Q) : ConI K yX6_divide wsX6_divide 3 92 I L A [.ref o0, .int i1, .int i2, .int i3] Q := by
  intro hK sz
  refine Met.ofW (cc := cX6_divide) (maxL := 4) (ret := (some .int)) (by decide) rfl ?_
  intro p e s m args below meth c s₁ B hml hv
  obtain ⟨rfl, hsz, hB⟩ := hv
  have hx := B.exec
  have hb := B.bytes
  have hret := B.returns
  have hts := atoms_spec (ws := wsX6_divide) B.pre
  have hown : s.vm.findClass RX6 = some m.cls := findClass_of_methodNamed B.named
  have hlocks := B.notSynchronized
  subst hsz
  have hz : SS K s I L A s.heap [] := PS.start hB
  have hl := lv_entry ([.ref o0, .int i1, .int i2, .int i3]) (n := 4) (Nat.le_of_ble_eq_true rfl)
  rw [lg_entry_eq]
  generalize (lg_sl ([.ref o0, .int i1, .int i2, .int i3]) ++ List.replicate (4 - (lg_sl ([.ref o0, .int i1, .int i2, .int i3])).length) Slot.unset).toArray = ls at hl ⊢
  have hl : lv_has ls 4 [(0, .ref o0), (1, .int i1), (2, .int i2), (3, .int i3)] := hl
  have hw0 : ∀ w ∈ u_ws RX6 TX6 9, w ∈ wsX6_divide := by decide +kernel
  have hw1 := hts (.fieldLink RX6 13 "GaloisDesk" "slots" "[LGaloisDesk$Row;") (by decide +kernel)
  have hw2 : ∀ w ∈ u_ws RX4 TX4 2, w ∈ wsX6_divide := by decide +kernel
  have hw3 := hts (.fieldLink RX6 75 "GaloisDesk$Row" "top" "I") (by decide +kernel)
  have hw4 := hts (.fieldLink RX6 20 "GaloisDesk" "result" "LGaloisDesk$Row;") (by decide +kernel)
  have hw5 := hts (.fieldLink RX6 24 "GaloisDesk" "left" "LGaloisDesk$Row;") (by decide +kernel)
  clear hB B
  refine lv_iload_n hx hb dX6_divide_0 rfl (lv_at hl 1 rfl) ?_
  refine lv_iload_n hx hb dX6_divide_1 rfl (lv_at hl 2 rfl) ?_
  refine lv_iload_n hx hb dX6_divide_2 rfl (lv_at hl 3 rfl) ?_
  obtain ⟨P1, hc2, hwp⟩ := hwp
  refine sw_callv hz (va_runS (As := [.int i1, .int i2, .int i3]) (rest := []) ⟨hx, hb, hml, hown, hts⟩ (hc2 hK _) (va_cwS 3 hts gX6_divide_X6_checkThreeSlots rfl rfl rfl (by decide +kernel) ⟨Nat.le_of_ble_eq_true rfl, Nat.le_of_ble_eq_true rfl⟩) hz.preS rfl rfl hl.1 rfl (lv_room (Nat.le_of_ble_eq_true rfl)) dX6_divide_3 ⟨Nat.le_of_ble_eq_true rfl, Nat.le_of_ble_eq_true rfl⟩) (fun I3 L4 A5 H locs hp hz => ?_)
  have hwp := hwp I3 L4 A5 hp
  refine lv_aload_n hx hb dX6_divide_6 rfl (lv_at hl 0 rfl) ?_
  obtain ⟨hs6, hwp⟩ := hwp
  refine sw_get (C := RX6) (T := TX6) (N := 9) (v := .ref (o0 + 1)) hx hb hts hw0 hown hK hz hs6 rfl 0 (by decide) hw1 (fun _ h9 => h9) rfl dX6_divide_7 ?_
  refine lv_iload_n hx hb dX6_divide_10 rfl (lv_at hl 3 rfl) ?_
  obtain ⟨ho7, hwp⟩ := hwp
  refine sw_aald hx hb hK hz ho7 dX6_divide_11 ?_
  obtain ⟨hs8, hwp⟩ := hwp
  refine sw_get (C := RX4) (T := TX4) (N := 2) (v := .int (I3 (A5 (o0 + 1) (ix i3)) 1)) hx hb hts hw2 hown hK hz hs8 rfl 1 (by decide) hw3 (fun _ h9 => h9) rfl dX6_divide_12 ?_
  refine lv_if_ge (tgt := 21) hx hb dX6_divide_15 (by decide) (fun q => ?_) (fun q => ?_)
  · have hwp := hwp.1 q
    refine lv_aload_n hx hb dX6_divide_21 rfl (lv_at hl 0 rfl) ?_
    refine sw_get (C := RX6) (T := TX6) (N := 9) (v := .ref (o0 + 18)) hx hb hts hw0 hown hK hz hs6 rfl 1 (by decide) hw4 (fun _ h9 => h9) rfl dX6_divide_22 ?_
    refine lv_aload_n hx hb dX6_divide_25 rfl (lv_at hl 0 rfl) ?_
    refine sw_get (C := RX6) (T := TX6) (N := 9) (v := .ref (o0 + 1)) hx hb hts hw0 hown hK hz hs6 rfl 0 (by decide) hw1 (fun _ h9 => h9) rfl dX6_divide_26 ?_
    refine lv_iload_n hx hb dX6_divide_29 rfl (lv_at hl 2 rfl) ?_
    obtain ⟨ho9, hwp⟩ := hwp
    refine sw_aald hx hb hK hz ho9 dX6_divide_30 ?_
    refine lv_aload_n hx hb dX6_divide_31 rfl (lv_at hl 0 rfl) ?_
    refine sw_get (C := RX6) (T := TX6) (N := 9) (v := .ref (o0 + 1)) hx hb hts hw0 hown hK hz hs6 rfl 0 (by decide) hw1 (fun _ h9 => h9) rfl dX6_divide_32 ?_
    refine lv_iload_n hx hb dX6_divide_35 rfl (lv_at hl 3 rfl) ?_
    obtain ⟨ho10, hwp⟩ := hwp
    refine sw_aald hx hb hK hz ho10 dX6_divide_36 ?_
    refine lv_aload_n hx hb dX6_divide_37 rfl (lv_at hl 0 rfl) ?_
    refine sw_get (C := RX6) (T := TX6) (N := 9) (v := .ref (o0 + 20)) hx hb hts hw0 hown hK hz hs6 rfl 2 (by decide) hw5 (fun _ h9 => h9) rfl dX6_divide_38 ?_
    obtain ⟨hs11, hwp⟩ := hwp
    obtain ⟨P12, hc13, hwp⟩ := hwp
    refine sw_calli hz (va_runV (As := [.ref (A5 (o0 + 1) (ix i2)), .ref (A5 (o0 + 1) (ix i3)), .ref (o0 + 20)]) (rest := []) ⟨hx, hb, hml, hown, hts⟩ (hc13 hK _) (cwV 3 hts gX6_divide_X4_becomeQuotient rfl rfl rfl (by decide +kernel) ⟨Nat.le_of_ble_eq_true rfl, Nat.le_of_ble_eq_true rfl⟩) (hz.preV hK hs11 rfl) rfl rfl hl.1 rfl (lv_room (Nat.le_of_ble_eq_true rfl)) dX6_divide_41 ⟨Nat.le_of_ble_eq_true rfl, Nat.le_of_ble_eq_true rfl⟩) (fun r17 I14 L15 A16 H locs hp hz => ?_)
    have hwp := hwp r17 I14 L15 A16 hp
    refine lv_if_ne (tgt := 49) hx hb dX6_divide_44 (by decide) (fun q => ?_) (fun q => ?_)
    · have hwp := hwp.2 q
      refine lv_aload_n hx hb dX6_divide_49 rfl (lv_at hl 0 rfl) ?_
      refine lv_iload_n hx hb dX6_divide_50 rfl (lv_at hl 1 rfl) ?_
      obtain ⟨P18, hc19, hwp⟩ := hwp
      refine sw_calli hz (va_runV (As := [.int i1]) (rest := []) ⟨hx, hb, hml, hown, hts⟩ (hc19 hK _) (cwV 1 hts gX6_divide_X6_keepResult rfl rfl rfl (by decide +kernel) ⟨Nat.le_of_ble_eq_true rfl, Nat.le_of_ble_eq_true rfl⟩) (hz.preV hK hs6 rfl) rfl rfl hl.1 rfl (lv_room (Nat.le_of_ble_eq_true rfl)) dX6_divide_51 ⟨Nat.le_of_ble_eq_true rfl, Nat.le_of_ble_eq_true rfl⟩) (fun r23 I20 L21 A22 H locs hp hz => ?_)
      have hwp := hwp r23 I20 L21 A22 hp
      exact sw_iret hx hb hret hlocks hz hwp dX6_divide_54
    · have hwp := hwp.1 q
      refine lv_iconst (v := (-1)) hx hb dX6_divide_47 (by decide) ?_
      exact sw_iret hx hb hret hlocks hz hwp dX6_divide_48
  · have hwp := hwp.2 q
    refine lv_bipush (v := (-3)) hx hb dX6_divide_18 (by decide) ?_
    exact sw_iret hx hb hret hlocks hz hwp dX6_divide_20

def wp_X6_galois (K : Cx) (I : TI) (L : TL) (A : TA) (o0 : Nat) (i1 : Int32) (Q : Int32 → TI → TL → TA → Prop) : Prop := ∃ P1 : TI → TL → TA → Prop, ConV K yX6_checkSlot wsX6_checkSlot 1 40 I L A [.int i1] P1 ∧ ∀ (I3 : TI) (L4 : TL) (A5 : TA), P1 I3 L4 A5 → cxS K o0 = shX6 o0 ∧ aok (cxS K) (o0 + 1) 2 i1 ∧ cxS K (A5 (o0 + 1) (ix i1)) = shX4 (A5 (o0 + 1) (ix i1)) ∧ ∀ v9 : Int32, v9 = (I3 (A5 (o0 + 1) (ix i1)) 1) → ((v9 < 1 → Q 0 I3 L4 A5) ∧ (¬ v9 < 1 → ((v9 ≤ 4 → aok (cxS K) (o0 + 1) 2 i1 ∧ cxS K (o0 + 40) = shX0 (o0 + 40) ∧ ∃ P12 : TI → TL → TA → Prop, ConV K yX0_takeApart wsX0_takeApart 6 160 I3 L4 A5 [.ref (o0 + 40), .ref (A5 (o0 + 1) (ix i1))] P12 ∧ ∀ (I14 : TI) (L15 : TL) (A16 : TA), P12 I14 L15 A16 → cxS K ((o0 + 40) + 69) = shX2 ((o0 + 40) + 69) ∧ ∃ P18 : Int32 → TI → TL → TA → Prop, ConI K yX2_isSingle wsX2_isSingle 0 0 I14 L15 A16 [.ref ((o0 + 40) + 69)] P18 ∧ ∀ (r23 : Int32) (I20 : TI) (L21 : TL) (A22 : TA), P18 r23 I20 L21 A22 → ((r23 = 0 → Q 0 I20 L21 A22) ∧ (¬ r23 = 0 → aok (cxS K) (((o0 + 40) + 69) + 1) 2 0 ∧ ∃ P25 : Int32 → TI → TL → TA → Prop, ConI K yX1_of wsX1_of 5 158 I20 L21 A22 [.ref (A22 (((o0 + 40) + 69) + 1) (ix 0))] P25 ∧ ∀ (r30 : Int32) (I27 : TI) (L28 : TL) (A29 : TA), P25 r30 I27 L28 A29 → Q r30 I27 L28 A29))) ∧ (¬ v9 ≤ 4 → Q 0 I3 L4 A5))))
set_option maxHeartbeats 1000000 in
set_option maxRecDepth 100000 in
theorem w_X6_galois (K : Cx) (I : TI) (L : TL) (A : TA) (o0 : Nat) (i1 : Int32) (Q : Int32 → TI → TL → TA → Prop) (hwp : wp_X6_galois K I L A o0 i1 Q) : ConI K yX6_galois wsX6_galois 7 182 I L A [.ref o0, .int i1] Q := by
  intro hK sz
  refine Met.ofW (cc := cX6_galois) (maxL := 3) (ret := (some .int)) (by decide) rfl ?_
  intro p e s m args below meth c s₁ B hml hv
  obtain ⟨rfl, hsz, hB⟩ := hv
  have hx := B.exec
  have hb := B.bytes
  have hret := B.returns
  have hts := atoms_spec (ws := wsX6_galois) B.pre
  have hown : s.vm.findClass RX6 = some m.cls := findClass_of_methodNamed B.named
  have hlocks := B.notSynchronized
  subst hsz
  have hz : SS K s I L A s.heap [] := PS.start hB
  have hl := lv_entry ([.ref o0, .int i1]) (n := 3) (Nat.le_of_ble_eq_true rfl)
  rw [lg_entry_eq]
  generalize (lg_sl ([.ref o0, .int i1]) ++ List.replicate (3 - (lg_sl ([.ref o0, .int i1])).length) Slot.unset).toArray = ls at hl ⊢
  have hl : lv_has ls 3 [(0, .ref o0), (1, .int i1)] := hl
  have hw0 : ∀ w ∈ u_ws RX6 TX6 9, w ∈ wsX6_galois := by decide +kernel
  have hw1 := hts (.fieldLink RX6 13 "GaloisDesk" "slots" "[LGaloisDesk$Row;") (by decide +kernel)
  have hw2 : ∀ w ∈ u_ws RX4 TX4 2, w ∈ wsX6_galois := by decide +kernel
  have hw3 := hts (.fieldLink RX6 75 "GaloisDesk$Row" "top" "I") (by decide +kernel)
  have hw4 := hts (.fieldLink RX6 48 "GaloisDesk" "factoring" "LGaloisDesk$Factoring;") (by decide +kernel)
  have hw5 : ∀ w ∈ u_ws RX0 TX0 10, w ∈ wsX6_galois := by decide +kernel
  have hw6 := hts (.fieldLink RX6 115 "GaloisDesk$Factoring" "found" "LGaloisDesk$PartList;") (by decide +kernel)
  have hw7 : ∀ w ∈ u_ws RX2 TX2 4, w ∈ wsX6_galois := by decide +kernel
  have hw8 := hts (.fieldLink RX6 128 "GaloisDesk$PartList" "rows" "[LGaloisDesk$Row;") (by decide +kernel)
  clear hB B
  refine lv_iload_n hx hb dX6_galois_0 rfl (lv_at hl 1 rfl) ?_
  obtain ⟨P1, hc2, hwp⟩ := hwp
  refine sw_callv hz (va_runS (As := [.int i1]) (rest := []) ⟨hx, hb, hml, hown, hts⟩ (hc2 hK _) (va_cwS 1 hts gX6_galois_X6_checkSlot rfl rfl rfl (by decide +kernel) ⟨Nat.le_of_ble_eq_true rfl, Nat.le_of_ble_eq_true rfl⟩) hz.preS rfl rfl hl.1 rfl (lv_room (Nat.le_of_ble_eq_true rfl)) dX6_galois_1 ⟨Nat.le_of_ble_eq_true rfl, Nat.le_of_ble_eq_true rfl⟩) (fun I3 L4 A5 H locs hp hz => ?_)
  have hwp := hwp I3 L4 A5 hp
  refine lv_aload_n hx hb dX6_galois_4 rfl (lv_at hl 0 rfl) ?_
  obtain ⟨hs6, hwp⟩ := hwp
  refine sw_get (C := RX6) (T := TX6) (N := 9) (v := .ref (o0 + 1)) hx hb hts hw0 hown hK hz hs6 rfl 0 (by decide) hw1 (fun _ h9 => h9) rfl dX6_galois_5 ?_
  refine lv_iload_n hx hb dX6_galois_8 rfl (lv_at hl 1 rfl) ?_
  obtain ⟨ho7, hwp⟩ := hwp
  refine sw_aald hx hb hK hz ho7 dX6_galois_9 ?_
  obtain ⟨hs8, hwp⟩ := hwp
  refine sw_get (C := RX4) (T := TX4) (N := 2) (v := .int (I3 (A5 (o0 + 1) (ix i1)) 1)) hx hb hts hw2 hown hK hz hs8 rfl 1 (by decide) hw3 (fun _ h9 => h9) rfl dX6_galois_10 ?_
  refine lv_topi (fun v9 q_v9 => ?_)
  have hwp := hwp v9 q_v9
  refine lv_istore_n (lv' := [(2, .int v9), (0, .ref o0), (1, .int i1)]) hx hb dX6_galois_13 rfl hl (by decide) rfl (fun ls hl => ?_)
  refine lv_iload_n hx hb dX6_galois_14 rfl (lv_at hl 0 rfl) ?_
  refine lv_iconst (v := 1) hx hb dX6_galois_15 (by decide) ?_
  refine lv_icmp_lt (tgt := 24) hx hb dX6_galois_16 (by decide) (fun q => ?_) (fun q => ?_)
  · have hwp := hwp.1 q
    refine lv_iconst (v := 0) hx hb dX6_galois_24 (by decide) ?_
    exact sw_iret hx hb hret hlocks hz hwp dX6_galois_25
  · have hwp := hwp.2 q
    refine lv_iload_n hx hb dX6_galois_19 rfl (lv_at hl 0 rfl) ?_
    refine lv_iconst (v := 4) hx hb dX6_galois_20 (by decide) ?_
    refine lv_icmp_le (tgt := 26) hx hb dX6_galois_21 (by decide) (fun q => ?_) (fun q => ?_)
    · have hwp := hwp.1 q
      refine lv_aload_n hx hb dX6_galois_26 rfl (lv_at hl 1 rfl) ?_
      refine sw_get (C := RX6) (T := TX6) (N := 9) (v := .ref (o0 + 40)) hx hb hts hw0 hown hK hz hs6 rfl 7 (by decide) hw4 (fun _ h9 => h9) rfl dX6_galois_27 ?_
      refine lv_aload_n hx hb dX6_galois_30 rfl (lv_at hl 1 rfl) ?_
      refine sw_get (C := RX6) (T := TX6) (N := 9) (v := .ref (o0 + 1)) hx hb hts hw0 hown hK hz hs6 rfl 0 (by decide) hw1 (fun _ h9 => h9) rfl dX6_galois_31 ?_
      refine lv_iload_n hx hb dX6_galois_34 rfl (lv_at hl 2 rfl) ?_
      obtain ⟨ho10, hwp⟩ := hwp
      refine sw_aald hx hb hK hz ho10 dX6_galois_35 ?_
      obtain ⟨hs11, hwp⟩ := hwp
      obtain ⟨P12, hc13, hwp⟩ := hwp
      refine sw_callv hz (va_runV (As := [.ref (A5 (o0 + 1) (ix i1))]) (rest := []) ⟨hx, hb, hml, hown, hts⟩ (hc13 hK _) (cwV 1 hts gX6_galois_X0_takeApart rfl rfl rfl (by decide +kernel) ⟨Nat.le_of_ble_eq_true rfl, Nat.le_of_ble_eq_true rfl⟩) (hz.preV hK hs11 rfl) rfl rfl hl.1 rfl (lv_room (Nat.le_of_ble_eq_true rfl)) dX6_galois_36 ⟨Nat.le_of_ble_eq_true rfl, Nat.le_of_ble_eq_true rfl⟩) (fun I14 L15 A16 H locs hp hz => ?_)
      have hwp := hwp I14 L15 A16 hp
      refine lv_aload_n hx hb dX6_galois_39 rfl (lv_at hl 1 rfl) ?_
      refine sw_get (C := RX6) (T := TX6) (N := 9) (v := .ref (o0 + 40)) hx hb hts hw0 hown hK hz hs6 rfl 7 (by decide) hw4 (fun _ h9 => h9) rfl dX6_galois_40 ?_
      refine sw_get (C := RX0) (T := TX0) (N := 10) (v := .ref ((o0 + 40) + 69)) hx hb hts hw5 hown hK hz hs11 rfl 9 (by decide) hw6 (fun _ h9 => h9) rfl dX6_galois_43 ?_
      obtain ⟨hs17, hwp⟩ := hwp
      obtain ⟨P18, hc19, hwp⟩ := hwp
      refine sw_calli hz (va_runV (As := []) (rest := []) ⟨hx, hb, hml, hown, hts⟩ (hc19 hK _) (cwV 0 hts gX6_galois_X2_isSingle rfl rfl rfl (by decide +kernel) ⟨Nat.le_of_ble_eq_true rfl, Nat.le_of_ble_eq_true rfl⟩) (hz.preV hK hs17 rfl) rfl rfl hl.1 rfl (lv_room (Nat.le_of_ble_eq_true rfl)) dX6_galois_46 ⟨Nat.le_of_ble_eq_true rfl, Nat.le_of_ble_eq_true rfl⟩) (fun r23 I20 L21 A22 H locs hp hz => ?_)
      have hwp := hwp r23 I20 L21 A22 hp
      refine lv_if_ne (tgt := 54) hx hb dX6_galois_49 (by decide) (fun q => ?_) (fun q => ?_)
      · have hwp := hwp.2 q
        refine lv_aload_n hx hb dX6_galois_54 rfl (lv_at hl 1 rfl) ?_
        refine sw_get (C := RX6) (T := TX6) (N := 9) (v := .ref (o0 + 40)) hx hb hts hw0 hown hK hz hs6 rfl 7 (by decide) hw4 (fun _ h9 => h9) rfl dX6_galois_55 ?_
        refine sw_get (C := RX0) (T := TX0) (N := 10) (v := .ref ((o0 + 40) + 69)) hx hb hts hw5 hown hK hz hs11 rfl 9 (by decide) hw6 (fun _ h9 => h9) rfl dX6_galois_58 ?_
        refine sw_get (C := RX2) (T := TX2) (N := 4) (v := .ref (((o0 + 40) + 69) + 1)) hx hb hts hw7 hown hK hz hs17 rfl 0 (by decide) hw8 (fun _ h9 => h9) rfl dX6_galois_61 ?_
        refine lv_iconst (v := 0) hx hb dX6_galois_64 (by decide) ?_
        obtain ⟨ho24, hwp⟩ := hwp
        refine sw_aald hx hb hK hz ho24 dX6_galois_65 ?_
        obtain ⟨P25, hc26, hwp⟩ := hwp
        refine sw_calli hz (va_runS (As := [.ref (A22 (((o0 + 40) + 69) + 1) (ix 0))]) (rest := []) ⟨hx, hb, hml, hown, hts⟩ (hc26 hK _) (va_cwS 1 hts gX6_galois_X1_of rfl rfl rfl (by decide +kernel) ⟨Nat.le_of_ble_eq_true rfl, Nat.le_of_ble_eq_true rfl⟩) hz.preS rfl rfl hl.1 rfl (lv_room (Nat.le_of_ble_eq_true rfl)) dX6_galois_66 ⟨Nat.le_of_ble_eq_true rfl, Nat.le_of_ble_eq_true rfl⟩) (fun r30 I27 L28 A29 H locs hp hz => ?_)
        have hwp := hwp r30 I27 L28 A29 hp
        exact sw_iret hx hb hret hlocks hz hwp dX6_galois_69
      · have hwp := hwp.1 q
        refine lv_iconst (v := 0) hx hb dX6_galois_52 (by decide) ?_
        exact sw_iret hx hb hret hlocks hz hwp dX6_galois_53
    · have hwp := hwp.2 q
      refine lv_iconst (v := 0) hx hb dX6_galois_24 (by decide) ?_
      exact sw_iret hx hb hret hlocks hz hwp dX6_galois_25

def wp_X6_get (K : Cx) (I : TI) (L : TL) (A : TA) (o0 : Nat) (i1 : Int32) (i2 : Int32) (Q : Int32 → TI → TL → TA → Prop) : Prop := ∃ P1 : TI → TL → TA → Prop, ConV K yX6_checkSlot wsX6_checkSlot 1 40 I L A [.int i1] P1 ∧ ∀ (I3 : TI) (L4 : TL) (A5 : TA), P1 I3 L4 A5 → ∃ P6 : TI → TL → TA → Prop, ConV K yX6_checkPlace wsX6_checkPlace 1 40 I3 L4 A5 [.int i2] P6 ∧ ∀ (I8 : TI) (L9 : TL) (A10 : TA), P6 I8 L9 A10 → cxS K o0 = shX6 o0 ∧ aok (cxS K) (o0 + 1) 2 i1 ∧ cxS K (A10 (o0 + 1) (ix i1)) = shX4 (A10 (o0 + 1) (ix i1)) ∧ aok (cxS K) ((A10 (o0 + 1) (ix i1)) + 1) 1 i2 ∧ Q (Int64.toInt32 (L9 ((A10 (o0 + 1) (ix i1)) + 1) (ix i2))) I8 L9 A10
set_option maxHeartbeats 1000000 in
set_option maxRecDepth 100000 in
theorem w_X6_get (K : Cx) (I : TI) (L : TL) (A : TA) (o0 : Nat) (i1 : Int32) (i2 : Int32) (Q : Int32 → TI → TL → TA → Prop) (hwp : wp_X6_get K I L A o0 i1 i2 Q) : ConI K yX6_get wsX6_get 2 60 I L A [.ref o0, .int i1, .int i2] Q := by
  intro hK sz
  refine Met.ofW (cc := cX6_get) (maxL := 3) (ret := (some .int)) (by decide) rfl ?_
  intro p e s m args below meth c s₁ B hml hv
  obtain ⟨rfl, hsz, hB⟩ := hv
  have hx := B.exec
  have hb := B.bytes
  have hret := B.returns
  have hts := atoms_spec (ws := wsX6_get) B.pre
  have hown : s.vm.findClass RX6 = some m.cls := findClass_of_methodNamed B.named
  have hlocks := B.notSynchronized
  subst hsz
  have hz : SS K s I L A s.heap [] := PS.start hB
  have hl := lv_entry ([.ref o0, .int i1, .int i2]) (n := 3) (Nat.le_of_ble_eq_true rfl)
  rw [lg_entry_eq]
  generalize (lg_sl ([.ref o0, .int i1, .int i2]) ++ List.replicate (3 - (lg_sl ([.ref o0, .int i1, .int i2])).length) Slot.unset).toArray = ls at hl ⊢
  have hl : lv_has ls 3 [(0, .ref o0), (1, .int i1), (2, .int i2)] := hl
  have hw0 : ∀ w ∈ u_ws RX6 TX6 9, w ∈ wsX6_get := by decide +kernel
  have hw1 := hts (.fieldLink RX6 13 "GaloisDesk" "slots" "[LGaloisDesk$Row;") (by decide +kernel)
  have hw2 : ∀ w ∈ u_ws RX4 TX4 2, w ∈ wsX6_get := by decide +kernel
  have hw3 := hts (.fieldLink RX6 68 "GaloisDesk$Row" "c" "[J") (by decide +kernel)
  clear hB B
  refine lv_iload_n hx hb dX6_get_0 rfl (lv_at hl 1 rfl) ?_
  obtain ⟨P1, hc2, hwp⟩ := hwp
  refine sw_callv hz (va_runS (As := [.int i1]) (rest := []) ⟨hx, hb, hml, hown, hts⟩ (hc2 hK _) (va_cwS 1 hts gX6_get_X6_checkSlot rfl rfl rfl (by decide +kernel) ⟨Nat.le_of_ble_eq_true rfl, Nat.le_of_ble_eq_true rfl⟩) hz.preS rfl rfl hl.1 rfl (lv_room (Nat.le_of_ble_eq_true rfl)) dX6_get_1 ⟨Nat.le_of_ble_eq_true rfl, Nat.le_of_ble_eq_true rfl⟩) (fun I3 L4 A5 H locs hp hz => ?_)
  have hwp := hwp I3 L4 A5 hp
  refine lv_iload_n hx hb dX6_get_4 rfl (lv_at hl 2 rfl) ?_
  obtain ⟨P6, hc7, hwp⟩ := hwp
  refine sw_callv hz (va_runS (As := [.int i2]) (rest := []) ⟨hx, hb, hml, hown, hts⟩ (hc7 hK _) (va_cwS 1 hts gX6_get_X6_checkPlace rfl rfl rfl (by decide +kernel) ⟨Nat.le_of_ble_eq_true rfl, Nat.le_of_ble_eq_true rfl⟩) hz.preS rfl rfl hl.1 rfl (lv_room (Nat.le_of_ble_eq_true rfl)) dX6_get_5 ⟨Nat.le_of_ble_eq_true rfl, Nat.le_of_ble_eq_true rfl⟩) (fun I8 L9 A10 H locs hp hz => ?_)
  have hwp := hwp I8 L9 A10 hp
  refine lv_aload_n hx hb dX6_get_8 rfl (lv_at hl 0 rfl) ?_
  obtain ⟨hs11, hwp⟩ := hwp
  refine sw_get (C := RX6) (T := TX6) (N := 9) (v := .ref (o0 + 1)) hx hb hts hw0 hown hK hz hs11 rfl 0 (by decide) hw1 (fun _ h9 => h9) rfl dX6_get_9 ?_
  refine lv_iload_n hx hb dX6_get_12 rfl (lv_at hl 1 rfl) ?_
  obtain ⟨ho12, hwp⟩ := hwp
  refine sw_aald hx hb hK hz ho12 dX6_get_13 ?_
  obtain ⟨hs13, hwp⟩ := hwp
  refine sw_get (C := RX4) (T := TX4) (N := 2) (v := .ref ((A10 (o0 + 1) (ix i1)) + 1)) hx hb hts hw2 hown hK hz hs13 rfl 0 (by decide) hw3 (fun _ h9 => h9) rfl dX6_get_14 ?_
  refine lv_iload_n hx hb dX6_get_17 rfl (lv_at hl 2 rfl) ?_
  obtain ⟨ho14, hwp⟩ := hwp
  refine sw_lald hx hb hK hz ho14 dX6_get_18 ?_
  refine lv_l2i hx hb dX6_get_19 rfl ?_
  exact sw_iret hx hb hret hlocks hz hwp dX6_get_20

def wp_X6_multiply (K : Cx) (I : TI) (L : TL) (A : TA) (o0 : Nat) (i1 : Int32) (i2 : Int32) (i3 : Int32) (Q : Int32 → TI → TL → TA → Prop) : Prop := ∃ P1 : TI → TL → TA → Prop, ConV K yX6_checkThreeSlots wsX6_checkThreeSlots 2 60 I L A [.int i1, .int i2, .int i3] P1 ∧ ∀ (I3 : TI) (L4 : TL) (A5 : TA), P1 I3 L4 A5 → cxS K o0 = shX6 o0 ∧ aok (cxS K) (o0 + 1) 2 i2 ∧ aok (cxS K) (o0 + 1) 2 i3 ∧ cxS K (o0 + 18) = shX4 (o0 + 18) ∧ ∃ P10 : TI → TL → TA → Prop, ConV K yX4_becomeProduct wsX4_becomeProduct 1 21 I3 L4 A5 [.ref (o0 + 18), .ref (A5 (o0 + 1) (ix i2)), .ref (A5 (o0 + 1) (ix i3))] P10 ∧ ∀ (I12 : TI) (L13 : TL) (A14 : TA), P10 I12 L13 A14 → ∃ P15 : Int32 → TI → TL → TA → Prop, ConI K yX6_keepResult wsX6_keepResult 2 61 I12 L13 A14 [.ref o0, .int i1] P15 ∧ ∀ (r20 : Int32) (I17 : TI) (L18 : TL) (A19 : TA), P15 r20 I17 L18 A19 → Q r20 I17 L18 A19
set_option maxHeartbeats 1000000 in
set_option maxRecDepth 100000 in
theorem w_X6_multiply (K : Cx) (I : TI) (L : TL) (A : TA) (o0 : Nat) (i1 : Int32) (i2 : Int32) (i3 : Int32) (Q : Int32 → TI → TL → TA → Prop) (hwp : wp_X6_multiply K I L A o0 i1 i2 i3 Q) : ConI K yX6_multiply wsX6_multiply 3 82 I L A [.ref o0, .int i1, .int i2, .int i3] Q := by
  intro hK sz
  refine Met.ofW (cc := cX6_multiply) (maxL := 4) (ret := (some .int)) (by decide) rfl ?_
  intro p e s m args below meth c s₁ B hml hv
  obtain ⟨rfl, hsz, hB⟩ := hv
  have hx := B.exec
  have hb := B.bytes
  have hret := B.returns
  have hts := atoms_spec (ws := wsX6_multiply) B.pre
  have hown : s.vm.findClass RX6 = some m.cls := findClass_of_methodNamed B.named
  have hlocks := B.notSynchronized
  subst hsz
  have hz : SS K s I L A s.heap [] := PS.start hB
  have hl := lv_entry ([.ref o0, .int i1, .int i2, .int i3]) (n := 4) (Nat.le_of_ble_eq_true rfl)
  rw [lg_entry_eq]
  generalize (lg_sl ([.ref o0, .int i1, .int i2, .int i3]) ++ List.replicate (4 - (lg_sl ([.ref o0, .int i1, .int i2, .int i3])).length) Slot.unset).toArray = ls at hl ⊢
  have hl : lv_has ls 4 [(0, .ref o0), (1, .int i1), (2, .int i2), (3, .int i3)] := hl
  have hw0 : ∀ w ∈ u_ws RX6 TX6 9, w ∈ wsX6_multiply := by decide +kernel
  have hw1 := hts (.fieldLink RX6 20 "GaloisDesk" "result" "LGaloisDesk$Row;") (by decide +kernel)
  have hw2 := hts (.fieldLink RX6 13 "GaloisDesk" "slots" "[LGaloisDesk$Row;") (by decide +kernel)
  clear hB B
  refine lv_iload_n hx hb dX6_multiply_0 rfl (lv_at hl 1 rfl) ?_
  refine lv_iload_n hx hb dX6_multiply_1 rfl (lv_at hl 2 rfl) ?_
  refine lv_iload_n hx hb dX6_multiply_2 rfl (lv_at hl 3 rfl) ?_
  obtain ⟨P1, hc2, hwp⟩ := hwp
  refine sw_callv hz (va_runS (As := [.int i1, .int i2, .int i3]) (rest := []) ⟨hx, hb, hml, hown, hts⟩ (hc2 hK _) (va_cwS 3 hts gX6_multiply_X6_checkThreeSlots rfl rfl rfl (by decide +kernel) ⟨Nat.le_of_ble_eq_true rfl, Nat.le_of_ble_eq_true rfl⟩) hz.preS rfl rfl hl.1 rfl (lv_room (Nat.le_of_ble_eq_true rfl)) dX6_multiply_3 ⟨Nat.le_of_ble_eq_true rfl, Nat.le_of_ble_eq_true rfl⟩) (fun I3 L4 A5 H locs hp hz => ?_)
  have hwp := hwp I3 L4 A5 hp
  refine lv_aload_n hx hb dX6_multiply_6 rfl (lv_at hl 0 rfl) ?_
  obtain ⟨hs6, hwp⟩ := hwp
  refine sw_get (C := RX6) (T := TX6) (N := 9) (v := .ref (o0 + 18)) hx hb hts hw0 hown hK hz hs6 rfl 1 (by decide) hw1 (fun _ h9 => h9) rfl dX6_multiply_7 ?_
  refine lv_aload_n hx hb dX6_multiply_10 rfl (lv_at hl 0 rfl) ?_
  refine sw_get (C := RX6) (T := TX6) (N := 9) (v := .ref (o0 + 1)) hx hb hts hw0 hown hK hz hs6 rfl 0 (by decide) hw2 (fun _ h9 => h9) rfl dX6_multiply_11 ?_
  refine lv_iload_n hx hb dX6_multiply_14 rfl (lv_at hl 2 rfl) ?_
  obtain ⟨ho7, hwp⟩ := hwp
  refine sw_aald hx hb hK hz ho7 dX6_multiply_15 ?_
  refine lv_aload_n hx hb dX6_multiply_16 rfl (lv_at hl 0 rfl) ?_
  refine sw_get (C := RX6) (T := TX6) (N := 9) (v := .ref (o0 + 1)) hx hb hts hw0 hown hK hz hs6 rfl 0 (by decide) hw2 (fun _ h9 => h9) rfl dX6_multiply_17 ?_
  refine lv_iload_n hx hb dX6_multiply_20 rfl (lv_at hl 3 rfl) ?_
  obtain ⟨ho8, hwp⟩ := hwp
  refine sw_aald hx hb hK hz ho8 dX6_multiply_21 ?_
  obtain ⟨hs9, hwp⟩ := hwp
  obtain ⟨P10, hc11, hwp⟩ := hwp
  refine sw_callv hz (va_runV (As := [.ref (A5 (o0 + 1) (ix i2)), .ref (A5 (o0 + 1) (ix i3))]) (rest := []) ⟨hx, hb, hml, hown, hts⟩ (hc11 hK _) (cwV 2 hts gX6_multiply_X4_becomeProduct rfl rfl rfl (by decide +kernel) ⟨Nat.le_of_ble_eq_true rfl, Nat.le_of_ble_eq_true rfl⟩) (hz.preV hK hs9 rfl) rfl rfl hl.1 rfl (lv_room (Nat.le_of_ble_eq_true rfl)) dX6_multiply_22 ⟨Nat.le_of_ble_eq_true rfl, Nat.le_of_ble_eq_true rfl⟩) (fun I12 L13 A14 H locs hp hz => ?_)
  have hwp := hwp I12 L13 A14 hp
  refine lv_aload_n hx hb dX6_multiply_25 rfl (lv_at hl 0 rfl) ?_
  refine lv_iload_n hx hb dX6_multiply_26 rfl (lv_at hl 1 rfl) ?_
  obtain ⟨P15, hc16, hwp⟩ := hwp
  refine sw_calli hz (va_runV (As := [.int i1]) (rest := []) ⟨hx, hb, hml, hown, hts⟩ (hc16 hK _) (cwV 1 hts gX6_multiply_X6_keepResult rfl rfl rfl (by decide +kernel) ⟨Nat.le_of_ble_eq_true rfl, Nat.le_of_ble_eq_true rfl⟩) (hz.preV hK hs6 rfl) rfl rfl hl.1 rfl (lv_room (Nat.le_of_ble_eq_true rfl)) dX6_multiply_27 ⟨Nat.le_of_ble_eq_true rfl, Nat.le_of_ble_eq_true rfl⟩) (fun r20 I17 L18 A19 H locs hp hz => ?_)
  have hwp := hwp r20 I17 L18 A19 hp
  exact sw_iret hx hb hret hlocks hz hwp dX6_multiply_30

def wp_X6_part (K : Cx) (I : TI) (L : TL) (A : TA) (o0 : Nat) (i1 : Int32) (i2 : Int32) (Q : Int64 → TI → TL → TA → Prop) : Prop := cxS K o0 = shX6 o0 ∧ cxS K (o0 + 24) = shX2 (o0 + 24) ∧ ∃ P3 : Int32 → TI → TL → TA → Prop, ConI K yX2_holds wsX2_holds 0 0 I L A [.ref (o0 + 24), .int i1] P3 ∧ ∀ (r8 : Int32) (I5 : TI) (L6 : TL) (A7 : TA), P3 r8 I5 L6 A7 → ((r8 = 0 → Q 0 I5 L6 A7) ∧ (¬ r8 = 0 → aok (cxS K) ((o0 + 24) + 1) 2 i1 ∧ cxS K (A7 ((o0 + 24) + 1) (ix i1)) = shX4 (A7 ((o0 + 24) + 1) (ix i1)) ∧ ∃ P11 : Int64 → TI → TL → TA → Prop, ConL K yX4_at wsX4_at 0 0 I5 L6 A7 [.ref (A7 ((o0 + 24) + 1) (ix i1)), .int i2] P11 ∧ ∀ (r16 : Int64) (I13 : TI) (L14 : TL) (A15 : TA), P11 r16 I13 L14 A15 → Q r16 I13 L14 A15))
set_option maxHeartbeats 1000000 in
set_option maxRecDepth 100000 in
theorem w_X6_part (K : Cx) (I : TI) (L : TL) (A : TA) (o0 : Nat) (i1 : Int32) (i2 : Int32) (Q : Int64 → TI → TL → TA → Prop) (hwp : wp_X6_part K I L A o0 i1 i2 Q) : ConL K yX6_part wsX6_part 1 21 I L A [.ref o0, .int i1, .int i2] Q := by
  intro hK sz
  refine Met.ofW (cc := cX6_part) (maxL := 3) (ret := (some .long)) (by decide) rfl ?_
  intro p e s m args below meth c s₁ B hml hv
  obtain ⟨rfl, hsz, hB⟩ := hv
  have hx := B.exec
  have hb := B.bytes
  have hret := B.returns
  have hts := atoms_spec (ws := wsX6_part) B.pre
  have hown : s.vm.findClass RX6 = some m.cls := findClass_of_methodNamed B.named
  have hlocks := B.notSynchronized
  subst hsz
  have hz : SS K s I L A s.heap [] := PS.start hB
  have hl := lv_entry ([.ref o0, .int i1, .int i2]) (n := 3) (Nat.le_of_ble_eq_true rfl)
  rw [lg_entry_eq]
  generalize (lg_sl ([.ref o0, .int i1, .int i2]) ++ List.replicate (3 - (lg_sl ([.ref o0, .int i1, .int i2])).length) Slot.unset).toArray = ls at hl ⊢
  have hl : lv_has ls 3 [(0, .ref o0), (1, .int i1), (2, .int i2)] := hl
  have hw0 : ∀ w ∈ u_ws RX6 TX6 9, w ∈ wsX6_part := by decide +kernel
  have hw1 := hts (.fieldLink RX6 33 "GaloisDesk" "told" "LGaloisDesk$PartList;") (by decide +kernel)
  have hw2 : ∀ w ∈ u_ws RX2 TX2 4, w ∈ wsX6_part := by decide +kernel
  have hw3 := hts (.fieldLink RX6 128 "GaloisDesk$PartList" "rows" "[LGaloisDesk$Row;") (by decide +kernel)
  clear hB B
  refine lv_aload_n hx hb dX6_part_0 rfl (lv_at hl 0 rfl) ?_
  obtain ⟨hs1, hwp⟩ := hwp
  refine sw_get (C := RX6) (T := TX6) (N := 9) (v := .ref (o0 + 24)) hx hb hts hw0 hown hK hz hs1 rfl 4 (by decide) hw1 (fun _ h9 => h9) rfl dX6_part_1 ?_
  refine lv_iload_n hx hb dX6_part_4 rfl (lv_at hl 1 rfl) ?_
  obtain ⟨hs2, hwp⟩ := hwp
  obtain ⟨P3, hc4, hwp⟩ := hwp
  refine sw_calli hz (va_runV (As := [.int i1]) (rest := []) ⟨hx, hb, hml, hown, hts⟩ (hc4 hK _) (cwV 1 hts gX6_part_X2_holds rfl rfl rfl (by decide +kernel) ⟨Nat.le_of_ble_eq_true rfl, Nat.le_of_ble_eq_true rfl⟩) (hz.preV hK hs2 rfl) rfl rfl hl.1 rfl (lv_room (Nat.le_of_ble_eq_true rfl)) dX6_part_5 ⟨Nat.le_of_ble_eq_true rfl, Nat.le_of_ble_eq_true rfl⟩) (fun r8 I5 L6 A7 H locs hp hz => ?_)
  have hwp := hwp r8 I5 L6 A7 hp
  refine lv_if_eq (tgt := 27) hx hb dX6_part_8 (by decide) (fun q => ?_) (fun q => ?_)
  · have hwp := hwp.1 q
    refine lv_lconst (v := 0) hx hb dX6_part_27 (by decide) ?_
    exact sw_lret hx hb hret hlocks hz hwp dX6_part_28
  · have hwp := hwp.2 q
    refine lv_aload_n hx hb dX6_part_11 rfl (lv_at hl 0 rfl) ?_
    refine sw_get (C := RX6) (T := TX6) (N := 9) (v := .ref (o0 + 24)) hx hb hts hw0 hown hK hz hs1 rfl 4 (by decide) hw1 (fun _ h9 => h9) rfl dX6_part_12 ?_
    refine sw_get (C := RX2) (T := TX2) (N := 4) (v := .ref ((o0 + 24) + 1)) hx hb hts hw2 hown hK hz hs2 rfl 0 (by decide) hw3 (fun _ h9 => h9) rfl dX6_part_15 ?_
    refine lv_iload_n hx hb dX6_part_18 rfl (lv_at hl 1 rfl) ?_
    obtain ⟨ho9, hwp⟩ := hwp
    refine sw_aald hx hb hK hz ho9 dX6_part_19 ?_
    refine lv_iload_n hx hb dX6_part_20 rfl (lv_at hl 2 rfl) ?_
    obtain ⟨hs10, hwp⟩ := hwp
    obtain ⟨P11, hc12, hwp⟩ := hwp
    refine sw_calll hz (va_runV (As := [.int i2]) (rest := []) ⟨hx, hb, hml, hown, hts⟩ (hc12 hK _) (cwV 1 hts gX6_part_X4_at rfl rfl rfl (by decide +kernel) ⟨Nat.le_of_ble_eq_true rfl, Nat.le_of_ble_eq_true rfl⟩) (hz.preV hK hs10 rfl) rfl rfl hl.1 rfl (lv_room (Nat.le_of_ble_eq_true rfl)) dX6_part_21 ⟨Nat.le_of_ble_eq_true rfl, Nat.le_of_ble_eq_true rfl⟩) (fun r16 I13 L14 A15 H locs hp hz => ?_)
    have hwp := hwp r16 I13 L14 A15 hp
    refine lv_goto (tgt := 28) hx hb dX6_part_24 (by decide) ?_
    exact sw_lret hx hb hret hlocks hz hwp dX6_part_28

def wp_X6_parts (K : Cx) (I : TI) (L : TL) (A : TA) (o0 : Nat) (i1 : Int32) (Q : Int32 → TI → TL → TA → Prop) : Prop := ∃ P1 : TI → TL → TA → Prop, ConV K yX6_checkSlot wsX6_checkSlot 1 40 I L A [.int i1] P1 ∧ ∀ (I3 : TI) (L4 : TL) (A5 : TA), P1 I3 L4 A5 → cxS K o0 = shX6 o0 ∧ aok (cxS K) (o0 + 1) 2 i1 ∧ cxS K (A5 (o0 + 1) (ix i1)) = shX4 (A5 (o0 + 1) (ix i1)) ∧ ((0 ≤ (I3 (A5 (o0 + 1) (ix i1)) 1) → aok (cxS K) (o0 + 1) 2 i1 ∧ cxS K (o0 + 40) = shX0 (o0 + 40) ∧ ∃ P11 : TI → TL → TA → Prop, ConV K yX0_takeApart wsX0_takeApart 6 160 I3 L4 A5 [.ref (o0 + 40), .ref (A5 (o0 + 1) (ix i1))] P11 ∧ ∀ (I13 : TI) (L14 : TL) (A15 : TA), P11 I13 L14 A15 → cxS K (o0 + 24) = shX2 (o0 + 24) ∧ ∃ P17 : TI → TL → TA → Prop, ConV K yX2_become wsX2_become 2 61 I13 L14 A15 [.ref (o0 + 24), .ref ((o0 + 40) + 69)] P17 ∧ ∀ (I19 : TI) (L20 : TL) (A21 : TA), P17 I19 L20 A21 → Q (I19 (o0 + 24) 2) I19 L20 A21) ∧ (¬ 0 ≤ (I3 (A5 (o0 + 1) (ix i1)) 1) → Q (-3) I3 L4 A5))
set_option maxHeartbeats 1000000 in
set_option maxRecDepth 100000 in
theorem w_X6_parts (K : Cx) (I : TI) (L : TL) (A : TA) (o0 : Nat) (i1 : Int32) (Q : Int32 → TI → TL → TA → Prop) (hwp : wp_X6_parts K I L A o0 i1 Q) : ConI K yX6_parts wsX6_parts 7 182 I L A [.ref o0, .int i1] Q := by
  intro hK sz
  refine Met.ofW (cc := cX6_parts) (maxL := 2) (ret := (some .int)) (by decide) rfl ?_
  intro p e s m args below meth c s₁ B hml hv
  obtain ⟨rfl, hsz, hB⟩ := hv
  have hx := B.exec
  have hb := B.bytes
  have hret := B.returns
  have hts := atoms_spec (ws := wsX6_parts) B.pre
  have hown : s.vm.findClass RX6 = some m.cls := findClass_of_methodNamed B.named
  have hlocks := B.notSynchronized
  subst hsz
  have hz : SS K s I L A s.heap [] := PS.start hB
  have hl := lv_entry ([.ref o0, .int i1]) (n := 2) (Nat.le_of_ble_eq_true rfl)
  rw [lg_entry_eq]
  generalize (lg_sl ([.ref o0, .int i1]) ++ List.replicate (2 - (lg_sl ([.ref o0, .int i1])).length) Slot.unset).toArray = ls at hl ⊢
  have hl : lv_has ls 2 [(0, .ref o0), (1, .int i1)] := hl
  have hw0 : ∀ w ∈ u_ws RX6 TX6 9, w ∈ wsX6_parts := by decide +kernel
  have hw1 := hts (.fieldLink RX6 13 "GaloisDesk" "slots" "[LGaloisDesk$Row;") (by decide +kernel)
  have hw2 : ∀ w ∈ u_ws RX4 TX4 2, w ∈ wsX6_parts := by decide +kernel
  have hw3 := hts (.fieldLink RX6 75 "GaloisDesk$Row" "top" "I") (by decide +kernel)
  have hw4 := hts (.fieldLink RX6 48 "GaloisDesk" "factoring" "LGaloisDesk$Factoring;") (by decide +kernel)
  have hw5 := hts (.fieldLink RX6 33 "GaloisDesk" "told" "LGaloisDesk$PartList;") (by decide +kernel)
  have hw6 : ∀ w ∈ u_ws RX0 TX0 10, w ∈ wsX6_parts := by decide +kernel
  have hw7 := hts (.fieldLink RX6 115 "GaloisDesk$Factoring" "found" "LGaloisDesk$PartList;") (by decide +kernel)
  have hw8 : ∀ w ∈ u_ws RX2 TX2 4, w ∈ wsX6_parts := by decide +kernel
  have hw9 := hts (.fieldLink RX6 121 "GaloisDesk$PartList" "count" "I") (by decide +kernel)
  clear hB B
  refine lv_iload_n hx hb dX6_parts_0 rfl (lv_at hl 1 rfl) ?_
  obtain ⟨P1, hc2, hwp⟩ := hwp
  refine sw_callv hz (va_runS (As := [.int i1]) (rest := []) ⟨hx, hb, hml, hown, hts⟩ (hc2 hK _) (va_cwS 1 hts gX6_parts_X6_checkSlot rfl rfl rfl (by decide +kernel) ⟨Nat.le_of_ble_eq_true rfl, Nat.le_of_ble_eq_true rfl⟩) hz.preS rfl rfl hl.1 rfl (lv_room (Nat.le_of_ble_eq_true rfl)) dX6_parts_1 ⟨Nat.le_of_ble_eq_true rfl, Nat.le_of_ble_eq_true rfl⟩) (fun I3 L4 A5 H locs hp hz => ?_)
  have hwp := hwp I3 L4 A5 hp
  refine lv_aload_n hx hb dX6_parts_4 rfl (lv_at hl 0 rfl) ?_
  obtain ⟨hs6, hwp⟩ := hwp
  refine sw_get (C := RX6) (T := TX6) (N := 9) (v := .ref (o0 + 1)) hx hb hts hw0 hown hK hz hs6 rfl 0 (by decide) hw1 (fun _ h9 => h9) rfl dX6_parts_5 ?_
  refine lv_iload_n hx hb dX6_parts_8 rfl (lv_at hl 1 rfl) ?_
  obtain ⟨ho7, hwp⟩ := hwp
  refine sw_aald hx hb hK hz ho7 dX6_parts_9 ?_
  obtain ⟨hs8, hwp⟩ := hwp
  refine sw_get (C := RX4) (T := TX4) (N := 2) (v := .int (I3 (A5 (o0 + 1) (ix i1)) 1)) hx hb hts hw2 hown hK hz hs8 rfl 1 (by decide) hw3 (fun _ h9 => h9) rfl dX6_parts_10 ?_
  refine lv_if_ge (tgt := 19) hx hb dX6_parts_13 (by decide) (fun q => ?_) (fun q => ?_)
  · have hwp := hwp.1 q
    refine lv_aload_n hx hb dX6_parts_19 rfl (lv_at hl 0 rfl) ?_
    refine sw_get (C := RX6) (T := TX6) (N := 9) (v := .ref (o0 + 40)) hx hb hts hw0 hown hK hz hs6 rfl 7 (by decide) hw4 (fun _ h9 => h9) rfl dX6_parts_20 ?_
    refine lv_aload_n hx hb dX6_parts_23 rfl (lv_at hl 0 rfl) ?_
    refine sw_get (C := RX6) (T := TX6) (N := 9) (v := .ref (o0 + 1)) hx hb hts hw0 hown hK hz hs6 rfl 0 (by decide) hw1 (fun _ h9 => h9) rfl dX6_parts_24 ?_
    refine lv_iload_n hx hb dX6_parts_27 rfl (lv_at hl 1 rfl) ?_
    obtain ⟨ho9, hwp⟩ := hwp
    refine sw_aald hx hb hK hz ho9 dX6_parts_28 ?_
    obtain ⟨hs10, hwp⟩ := hwp
    obtain ⟨P11, hc12, hwp⟩ := hwp
    refine sw_callv hz (va_runV (As := [.ref (A5 (o0 + 1) (ix i1))]) (rest := []) ⟨hx, hb, hml, hown, hts⟩ (hc12 hK _) (cwV 1 hts gX6_parts_X0_takeApart rfl rfl rfl (by decide +kernel) ⟨Nat.le_of_ble_eq_true rfl, Nat.le_of_ble_eq_true rfl⟩) (hz.preV hK hs10 rfl) rfl rfl hl.1 rfl (lv_room (Nat.le_of_ble_eq_true rfl)) dX6_parts_29 ⟨Nat.le_of_ble_eq_true rfl, Nat.le_of_ble_eq_true rfl⟩) (fun I13 L14 A15 H locs hp hz => ?_)
    have hwp := hwp I13 L14 A15 hp
    refine lv_aload_n hx hb dX6_parts_32 rfl (lv_at hl 0 rfl) ?_
    refine sw_get (C := RX6) (T := TX6) (N := 9) (v := .ref (o0 + 24)) hx hb hts hw0 hown hK hz hs6 rfl 4 (by decide) hw5 (fun _ h9 => h9) rfl dX6_parts_33 ?_
    refine lv_aload_n hx hb dX6_parts_36 rfl (lv_at hl 0 rfl) ?_
    refine sw_get (C := RX6) (T := TX6) (N := 9) (v := .ref (o0 + 40)) hx hb hts hw0 hown hK hz hs6 rfl 7 (by decide) hw4 (fun _ h9 => h9) rfl dX6_parts_37 ?_
    refine sw_get (C := RX0) (T := TX0) (N := 10) (v := .ref ((o0 + 40) + 69)) hx hb hts hw6 hown hK hz hs10 rfl 9 (by decide) hw7 (fun _ h9 => h9) rfl dX6_parts_40 ?_
    obtain ⟨hs16, hwp⟩ := hwp
    obtain ⟨P17, hc18, hwp⟩ := hwp
    refine sw_callv hz (va_runV (As := [.ref ((o0 + 40) + 69)]) (rest := []) ⟨hx, hb, hml, hown, hts⟩ (hc18 hK _) (cwV 1 hts gX6_parts_X2_become rfl rfl rfl (by decide +kernel) ⟨Nat.le_of_ble_eq_true rfl, Nat.le_of_ble_eq_true rfl⟩) (hz.preV hK hs16 rfl) rfl rfl hl.1 rfl (lv_room (Nat.le_of_ble_eq_true rfl)) dX6_parts_43 ⟨Nat.le_of_ble_eq_true rfl, Nat.le_of_ble_eq_true rfl⟩) (fun I19 L20 A21 H locs hp hz => ?_)
    have hwp := hwp I19 L20 A21 hp
    refine lv_aload_n hx hb dX6_parts_46 rfl (lv_at hl 0 rfl) ?_
    refine sw_get (C := RX6) (T := TX6) (N := 9) (v := .ref (o0 + 24)) hx hb hts hw0 hown hK hz hs6 rfl 4 (by decide) hw5 (fun _ h9 => h9) rfl dX6_parts_47 ?_
    refine sw_get (C := RX2) (T := TX2) (N := 4) (v := .int (I19 (o0 + 24) 2)) hx hb hts hw8 hown hK hz hs16 rfl 2 (by decide) hw9 (fun _ h9 => h9) rfl dX6_parts_50 ?_
    exact sw_iret hx hb hret hlocks hz hwp dX6_parts_53
  · have hwp := hwp.2 q
    refine lv_bipush (v := (-3)) hx hb dX6_parts_16 (by decide) ?_
    exact sw_iret hx hb hret hlocks hz hwp dX6_parts_18

def wp_X6_tellPattern_10 (K : Cx) (o0 : Nat) (C2 : TI → TL → TA → Int32 → Prop) (I : TI) (L : TL) (A : TA) (x1 : Int32) (x2 : Int32) (Q : TI → TL → TA → Prop) : Prop := ∃ (Inv : Nat → TI → TL → TA → Int32 → Int32 → Prop) (μ : Nat), Inv μ I L A x1 x2 ∧ ∀ (μ : Nat) (C10 : TI → TL → TA → Int32 → Int32 → Prop), (∀ (μ' : Nat) (I : TI) (L : TL) (A : TA) (x1 : Int32) (x2 : Int32) , μ' < μ → Inv μ' I L A x1 x2 → C10 I L A x1 x2) → ∀ (I : TI) (L : TL) (A : TA) (x1 : Int32) (x2 : Int32) , Inv μ I L A x1 x2 → cxS K o0 = shX6 o0 ∧ cxS K (o0 + 41) = shX5 (o0 + 41) ∧ aok (cxS K) ((o0 + 41) + 26) 2 x1 ∧ cxS K (A ((o0 + 41) + 26) (ix x1)) = shX4 (A ((o0 + 41) + 26) (ix x1)) ∧ (((I (A ((o0 + 41) + 26) (ix x1)) 1) < x2 → ∀ v5 : Int32, v5 = x1 + 1 → C2 I L A v5) ∧ (¬ (I (A ((o0 + 41) + 26) (ix x1)) 1) < x2 → ((6 ≤ (I o0 6) → ∀ v6 : Int32, v6 = x1 + 1 → C2 I L A v6) ∧ (¬ 6 ≤ (I o0 6) → aok (cxS K) (o0 + 39) 0 (I o0 6) ∧ ∀ I8 : TI, I8 = u2 I (o0 + 39) (ix (I o0 6)) x1 → ∀ I9 : TI, I9 = u2 I8 o0 6 ((I8 o0 6) + 1) → ∀ v10 : Int32, v10 = (x2 + x1) → C10 I9 L A x1 v10))))
def wp_X6_tellPattern_2 (K : Cx) (o0 : Nat) (I : TI) (L : TL) (A : TA) (x1 : Int32) (Q : TI → TL → TA → Prop) : Prop := ∃ (Inv : Nat → TI → TL → TA → Int32 → Prop) (μ : Nat), Inv μ I L A x1 ∧ ∀ (μ : Nat) (C2 : TI → TL → TA → Int32 → Prop), (∀ (μ' : Nat) (I : TI) (L : TL) (A : TA) (x1 : Int32) , μ' < μ → Inv μ' I L A x1 → C2 I L A x1) → ∀ (I : TI) (L : TL) (A : TA) (x1 : Int32) , Inv μ I L A x1 → ((6 < x1 → Q I L A) ∧ (¬ 6 < x1 → wp_X6_tellPattern_10 K o0 C2 I L A x1 x1 Q))
def wp_X6_tellPattern (K : Cx) (I : TI) (L : TL) (A : TA) (o0 : Nat) (Q : TI → TL → TA → Prop) : Prop := wp_X6_tellPattern_2 K o0 I L A 1 Q
set_option maxHeartbeats 1000000 in
set_option maxRecDepth 100000 in
theorem w_X6_tellPattern (K : Cx) (I : TI) (L : TL) (A : TA) (o0 : Nat) (Q : TI → TL → TA → Prop) (hwp : wp_X6_tellPattern K I L A o0 Q) : ConV K yX6_tellPattern wsX6_tellPattern 0 0 I L A [.ref o0] Q := by
  intro hK sz
  refine Met.ofW (cc := cX6_tellPattern) (maxL := 3) (ret := none) (by decide) rfl ?_
  intro p e s m args below meth c s₁ B hml hv
  obtain ⟨rfl, hsz, hB⟩ := hv
  have hx := B.exec
  have hb := B.bytes
  have hret := B.returns
  have hts := atoms_spec (ws := wsX6_tellPattern) B.pre
  have hown : s.vm.findClass RX6 = some m.cls := findClass_of_methodNamed B.named
  have hlocks := B.notSynchronized
  subst hsz
  have hz : SS K s I L A s.heap [] := PS.start hB
  have hl := lv_entry ([.ref o0]) (n := 3) (Nat.le_of_ble_eq_true rfl)
  rw [lg_entry_eq]
  generalize (lg_sl ([.ref o0]) ++ List.replicate (3 - (lg_sl ([.ref o0])).length) Slot.unset).toArray = ls at hl ⊢
  have hl : lv_has ls 3 [(0, .ref o0)] := hl
  have hw0 : ∀ w ∈ u_ws RX6 TX6 9, w ∈ wsX6_tellPattern := by decide +kernel
  have hw1 := hts (.fieldLink RX6 56 "GaloisDesk" "splitter" "LGaloisDesk$Splitter;") (by decide +kernel)
  have hw2 : ∀ w ∈ u_ws RX5 TX5 10, w ∈ wsX6_tellPattern := by decide +kernel
  have hw3 := hts (.fieldLink RX6 166 "GaloisDesk$Splitter" "equal" "[LGaloisDesk$Row;") (by decide +kernel)
  have hw4 : ∀ w ∈ u_ws RX4 TX4 2, w ∈ wsX6_tellPattern := by decide +kernel
  have hw5 := hts (.fieldLink RX6 75 "GaloisDesk$Row" "top" "I") (by decide +kernel)
  have hw6 := hts (.fieldLink RX6 41 "GaloisDesk" "patternCount" "I") (by decide +kernel)
  have hw7 := hts (.fieldLink RX6 37 "GaloisDesk" "patternDegrees" "[I") (by decide +kernel)
  clear hB B
  have wL10 : ∀ (C2 : TI → TL → TA → Int32 → Prop) (hC2 : ∀ (I : TI) (L : TL) (A : TA) (x1 : Int32) (H : Heap) (locs : List Loc) (ls : Array Slot), C2 I L A x1 → SS K s I L A H locs → lv_has ls 3 [(0, .ref o0), (1, .int x1)] → W p (cxl K) e (headSpec wsX6_tellPattern (rmF 0 0)).room s m ([.ref o0] : List Value).toArray below meth c H locs 0 0 (MQ below (cxQv K Q) ([.ref o0] : List Value).toArray s 0 0 (PA (cxb K))) (F0 m 2 ls [])) (I : TI) (L : TL) (A : TA) (x1 : Int32) (x2 : Int32) (H : Heap) (locs : List Loc) (ls : Array Slot), wp_X6_tellPattern_10 K o0 C2 I L A x1 x2 Q → SS K s I L A H locs → lv_has ls 3 [(0, .ref o0), (1, .int x1), (2, .int x2)] → W p (cxl K) e (headSpec wsX6_tellPattern (rmF 0 0)).room s m ([.ref o0] : List Value).toArray below meth c H locs 0 0 (MQ below (cxQv K Q) ([.ref o0] : List Value).toArray s 0 0 (PA (cxb K))) (F0 m 10 ls []) := by
    intro C2 hC2 I L A x1 x2 H locs ls hwp hz hl
    obtain ⟨Inv, μ, hi, hst⟩ := hwp
    have key : ∀ (μ : Nat) (I : TI) (L : TL) (A : TA) (x1 : Int32) (x2 : Int32) (H : Heap) (locs : List Loc) (ls : Array Slot), Inv μ I L A x1 x2 → SS K s I L A H locs → lv_has ls 3 [(0, .ref o0), (1, .int x1), (2, .int x2)] → W p (cxl K) e (headSpec wsX6_tellPattern (rmF 0 0)).room s m ([.ref o0] : List Value).toArray below meth c H locs 0 0 (MQ below (cxQv K Q) ([.ref o0] : List Value).toArray s 0 0 (PA (cxb K))) (F0 m 10 ls []) := by
      clear hi hz hl
      intro μ
      induction μ using Nat.strongRecOn with | ind μ ih => ?_
      intro I L A x1 x2 H locs ls hi hz hl
      obtain ⟨C10, hCd⟩ : ∃ C : TI → TL → TA → Int32 → Int32 → Prop, C = fun I L A x1 x2 => ∃ μ', μ' < μ ∧ Inv μ' I L A x1 x2 := ⟨_, rfl⟩
      have hC10 : ∀ (I : TI) (L : TL) (A : TA) (x1 : Int32) (x2 : Int32) (H : Heap) (locs : List Loc) (ls : Array Slot), C10 I L A x1 x2 → SS K s I L A H locs → lv_has ls 3 [(0, .ref o0), (1, .int x1), (2, .int x2)] → W p (cxl K) e (headSpec wsX6_tellPattern (rmF 0 0)).room s m ([.ref o0] : List Value).toArray below meth c H locs 0 0 (MQ below (cxQv K Q) ([.ref o0] : List Value).toArray s 0 0 (PA (cxb K))) (F0 m 10 ls []) := by
        intro I L A x1 x2 H locs ls hc hz hl
        rw [hCd] at hc
        obtain ⟨μ', hlt, hc⟩ := hc
        exact ih μ' hlt I L A x1 x2 H locs ls hc hz hl
      have hwp := hst μ C10 (fun μ' I L A x1 x2 hlt hc => by rw [hCd]; exact ⟨μ', hlt, hc⟩) I L A x1 x2 hi
      refine lv_iload_n hx hb dX6_tellPattern_10 rfl (lv_at hl 2 rfl) ?_
      refine lv_aload_n hx hb dX6_tellPattern_11 rfl (lv_at hl 0 rfl) ?_
      obtain ⟨hs1, hwp⟩ := hwp
      refine sw_get (C := RX6) (T := TX6) (N := 9) (v := .ref (o0 + 41)) hx hb hts hw0 hown hK hz hs1 rfl 8 (by decide) hw1 (fun _ h9 => h9) rfl dX6_tellPattern_12 ?_
      obtain ⟨hs2, hwp⟩ := hwp
      refine sw_get (C := RX5) (T := TX5) (N := 10) (v := .ref ((o0 + 41) + 26)) hx hb hts hw2 hown hK hz hs2 rfl 7 (by decide) hw3 (fun _ h9 => h9) rfl dX6_tellPattern_15 ?_
      refine lv_iload_n hx hb dX6_tellPattern_18 rfl (lv_at hl 1 rfl) ?_
      obtain ⟨ho3, hwp⟩ := hwp
      refine sw_aald hx hb hK hz ho3 dX6_tellPattern_19 ?_
      obtain ⟨hs4, hwp⟩ := hwp
      refine sw_get (C := RX4) (T := TX4) (N := 2) (v := .int (I (A ((o0 + 41) + 26) (ix x1)) 1)) hx hb hts hw4 hown hK hz hs4 rfl 1 (by decide) hw5 (fun _ h9 => h9) rfl dX6_tellPattern_20 ?_
      refine lv_icmp_gt (tgt := 62) hx hb dX6_tellPattern_23 (by decide) (fun q => ?_) (fun q => ?_)
      · have hwp := hwp.1 q
        obtain ⟨v5, q_v5⟩ : ∃ y : Int32, y = x1 + 1 := ⟨_, rfl⟩
        have hwp := hwp v5 q_v5
        refine lv_iinc (v := v5) (lv' := [(1, .int v5), (0, .ref o0), (2, .int x2)]) hx hb dX6_tellPattern_62 hl (k := 1) rfl (by rw [q_v5]; rfl) (by decide) rfl (fun ls hl => ?_)
        refine lv_goto (tgt := 2) hx hb dX6_tellPattern_65 (by decide) ?_
        exact hC2 _ _ _ _ _ _ _ hwp hz (lv_sub hl [1, 0] rfl)
      · have hwp := hwp.2 q
        refine lv_aload_n hx hb dX6_tellPattern_26 rfl (lv_at hl 0 rfl) ?_
        refine sw_get (C := RX6) (T := TX6) (N := 9) (v := .int (I o0 6)) hx hb hts hw0 hown hK hz hs1 rfl 6 (by decide) hw6 (fun _ h9 => h9) rfl dX6_tellPattern_27 ?_
        refine lv_bipush (v := 6) hx hb dX6_tellPattern_30 (by decide) ?_
        refine lv_icmp_ge (tgt := 62) hx hb dX6_tellPattern_32 (by decide) (fun q => ?_) (fun q => ?_)
        · have hwp := hwp.1 q
          obtain ⟨v6, q_v6⟩ : ∃ y : Int32, y = x1 + 1 := ⟨_, rfl⟩
          have hwp := hwp v6 q_v6
          refine lv_iinc (v := v6) (lv' := [(1, .int v6), (0, .ref o0), (2, .int x2)]) hx hb dX6_tellPattern_62 hl (k := 1) rfl (by rw [q_v6]; rfl) (by decide) rfl (fun ls hl => ?_)
          refine lv_goto (tgt := 2) hx hb dX6_tellPattern_65 (by decide) ?_
          exact hC2 _ _ _ _ _ _ _ hwp hz (lv_sub hl [1, 0] rfl)
        · have hwp := hwp.2 q
          refine lv_aload_n hx hb dX6_tellPattern_35 rfl (lv_at hl 0 rfl) ?_
          refine sw_get (C := RX6) (T := TX6) (N := 9) (v := .ref (o0 + 39)) hx hb hts hw0 hown hK hz hs1 rfl 5 (by decide) hw7 (fun _ h9 => h9) rfl dX6_tellPattern_36 ?_
          refine lv_aload_n hx hb dX6_tellPattern_39 rfl (lv_at hl 0 rfl) ?_
          refine sw_get (C := RX6) (T := TX6) (N := 9) (v := .int (I o0 6)) hx hb hts hw0 hown hK hz hs1 rfl 6 (by decide) hw6 (fun _ h9 => h9) rfl dX6_tellPattern_40 ?_
          refine lv_iload_n hx hb dX6_tellPattern_43 rfl (lv_at hl 1 rfl) ?_
          obtain ⟨ho7, hwp⟩ := hwp
          refine sw_iast hx hb hK hz ho7 dX6_tellPattern_44 (fun H locs I8 e_I8 hz => ?_)
          have hwp := hwp I8 e_I8
          refine lv_aload_n hx hb dX6_tellPattern_45 rfl (lv_at hl 0 rfl) ?_
          refine lv_dup hx hb dX6_tellPattern_46 rfl ?_
          refine sw_get (C := RX6) (T := TX6) (N := 9) (v := .int (I8 o0 6)) hx hb hts hw0 hown hK hz hs1 rfl 6 (by decide) hw6 (fun _ h9 => h9) rfl dX6_tellPattern_47 ?_
          refine lv_iconst (v := 1) hx hb dX6_tellPattern_50 (by decide) ?_
          refine lv_iadd hx hb dX6_tellPattern_51 ?_
          refine sw_putI (C := RX6) (T := TX6) (N := 9) hx hb hts hw0 tyX6 tyX6_ok nmX6 hown hK hz hs1 rfl 6 (by decide) hw6 (fun _ h9 => h9) rfl (by decide +kernel) rfl dX6_tellPattern_52 (fun H locs I9 e_I9 hz => ?_)
          have hwp := hwp I9 e_I9
          refine lv_iload_n hx hb dX6_tellPattern_55 rfl (lv_at hl 2 rfl) ?_
          refine lv_iload_n hx hb dX6_tellPattern_56 rfl (lv_at hl 1 rfl) ?_
          refine lv_iadd hx hb dX6_tellPattern_57 ?_
          refine lv_topi (fun v10 q_v10 => ?_)
          have hwp := hwp v10 q_v10
          refine lv_istore_n (lv' := [(2, .int v10), (0, .ref o0), (1, .int x1)]) hx hb dX6_tellPattern_58 rfl hl (by decide) rfl (fun ls hl => ?_)
          refine lv_goto (tgt := 10) hx hb dX6_tellPattern_59 (by decide) ?_
          exact hC10 _ _ _ _ _ _ _ _ hwp hz (lv_sub hl [1, 2, 0] rfl)
    exact key μ I L A x1 x2 H locs ls hi hz hl
  have wL2 : ∀ (I : TI) (L : TL) (A : TA) (x1 : Int32) (H : Heap) (locs : List Loc) (ls : Array Slot), wp_X6_tellPattern_2 K o0 I L A x1 Q → SS K s I L A H locs → lv_has ls 3 [(0, .ref o0), (1, .int x1)] → W p (cxl K) e (headSpec wsX6_tellPattern (rmF 0 0)).room s m ([.ref o0] : List Value).toArray below meth c H locs 0 0 (MQ below (cxQv K Q) ([.ref o0] : List Value).toArray s 0 0 (PA (cxb K))) (F0 m 2 ls []) := by
    intro I L A x1 H locs ls hwp hz hl
    obtain ⟨Inv, μ, hi, hst⟩ := hwp
    have key : ∀ (μ : Nat) (I : TI) (L : TL) (A : TA) (x1 : Int32) (H : Heap) (locs : List Loc) (ls : Array Slot), Inv μ I L A x1 → SS K s I L A H locs → lv_has ls 3 [(0, .ref o0), (1, .int x1)] → W p (cxl K) e (headSpec wsX6_tellPattern (rmF 0 0)).room s m ([.ref o0] : List Value).toArray below meth c H locs 0 0 (MQ below (cxQv K Q) ([.ref o0] : List Value).toArray s 0 0 (PA (cxb K))) (F0 m 2 ls []) := by
      clear hi hz hl
      intro μ
      induction μ using Nat.strongRecOn with | ind μ ih => ?_
      intro I L A x1 H locs ls hi hz hl
      obtain ⟨C2, hCd⟩ : ∃ C : TI → TL → TA → Int32 → Prop, C = fun I L A x1 => ∃ μ', μ' < μ ∧ Inv μ' I L A x1 := ⟨_, rfl⟩
      have hC2 : ∀ (I : TI) (L : TL) (A : TA) (x1 : Int32) (H : Heap) (locs : List Loc) (ls : Array Slot), C2 I L A x1 → SS K s I L A H locs → lv_has ls 3 [(0, .ref o0), (1, .int x1)] → W p (cxl K) e (headSpec wsX6_tellPattern (rmF 0 0)).room s m ([.ref o0] : List Value).toArray below meth c H locs 0 0 (MQ below (cxQv K Q) ([.ref o0] : List Value).toArray s 0 0 (PA (cxb K))) (F0 m 2 ls []) := by
        intro I L A x1 H locs ls hc hz hl
        rw [hCd] at hc
        obtain ⟨μ', hlt, hc⟩ := hc
        exact ih μ' hlt I L A x1 H locs ls hc hz hl
      have hwp := hst μ C2 (fun μ' I L A x1 hlt hc => by rw [hCd]; exact ⟨μ', hlt, hc⟩) I L A x1 hi
      refine lv_iload_n hx hb dX6_tellPattern_2 rfl (lv_at hl 1 rfl) ?_
      refine lv_bipush (v := 6) hx hb dX6_tellPattern_3 (by decide) ?_
      refine lv_icmp_gt (tgt := 68) hx hb dX6_tellPattern_5 (by decide) (fun q => ?_) (fun q => ?_)
      · have hwp := hwp.1 q
        exact sw_vret hx hb hret hlocks hz hwp dX6_tellPattern_68
      · have hwp := hwp.2 q
        refine lv_iload_n hx hb dX6_tellPattern_8 rfl (lv_at hl 1 rfl) ?_
        refine lv_istore_n (lv' := [(2, .int x1), (0, .ref o0), (1, .int x1)]) hx hb dX6_tellPattern_9 rfl hl (by decide) rfl (fun ls hl => ?_)
        exact wL10 _ hC2 _ _ _ _ _ _ _ _ hwp hz (lv_sub hl [1, 2, 0] rfl)
    exact key μ I L A x1 H locs ls hi hz hl
  refine lv_iconst (v := 1) hx hb dX6_tellPattern_0 (by decide) ?_
  refine lv_istore_n (lv' := [(1, .int 1), (0, .ref o0)]) hx hb dX6_tellPattern_1 rfl hl (by decide) rfl (fun ls hl => ?_)
  exact wL2 _ _ _ _ _ _ _ hwp hz (lv_sub hl [1, 0] rfl)

def wp_X6_pattern (K : Cx) (I : TI) (L : TL) (A : TA) (o0 : Nat) (i1 : Int32) (i2 : Int32) (Q : Int32 → TI → TL → TA → Prop) : Prop := ∃ P1 : TI → TL → TA → Prop, ConV K yX6_checkSlot wsX6_checkSlot 1 40 I L A [.int i1] P1 ∧ ∀ (I3 : TI) (L4 : TL) (A5 : TA), P1 I3 L4 A5 → ∃ P6 : TI → TL → TA → Prop, ConV K yX6_checkPrime wsX6_checkPrime 1 40 I3 L4 A5 [.int i2] P6 ∧ ∀ (I8 : TI) (L9 : TL) (A10 : TA), P6 I8 L9 A10 → cxS K o0 = shX6 o0 ∧ ∀ I12 : TI, I12 = u2 I8 o0 6 0 → aok (cxS K) (o0 + 1) 2 i1 ∧ cxS K (A10 (o0 + 1) (ix i1)) = shX4 (A10 (o0 + 1) (ix i1)) ∧ ((1 ≤ (I12 (A10 (o0 + 1) (ix i1)) 1) → aok (cxS K) (o0 + 1) 2 i1 ∧ cxS K (o0 + 41) = shX5 (o0 + 41) ∧ ∃ P17 : Int32 → TI → TL → TA → Prop, ConI K yX5_load wsX5_load 4 92 I12 L9 A10 [.ref (o0 + 41), .ref (A10 (o0 + 1) (ix i1)), .long (Int32.toInt64 i2)] P17 ∧ ∀ (r22 : Int32) (I19 : TI) (L20 : TL) (A21 : TA), P17 r22 I19 L20 A21 → ((r22 = 0 → Q (-1) I19 L20 A21) ∧ (¬ r22 = 0 → ∃ P23 : TI → TL → TA → Prop, ConV K yX5_groupByDegrees wsX5_groupByDegrees 4 115 I19 L20 A21 [.ref (o0 + 41)] P23 ∧ ∀ (I25 : TI) (L26 : TL) (A27 : TA), P23 I25 L26 A27 → ∃ P28 : TI → TL → TA → Prop, ConV K yX6_tellPattern wsX6_tellPattern 0 0 I25 L26 A27 [.ref o0] P28 ∧ ∀ (I30 : TI) (L31 : TL) (A32 : TA), P28 I30 L31 A32 → Q (I30 o0 6) I30 L31 A32))) ∧ (¬ 1 ≤ (I12 (A10 (o0 + 1) (ix i1)) 1) → Q (-3) I12 L9 A10))
set_option maxHeartbeats 1000000 in
set_option maxRecDepth 100000 in
theorem w_X6_pattern (K : Cx) (I : TI) (L : TL) (A : TA) (o0 : Nat) (i1 : Int32) (i2 : Int32) (Q : Int32 → TI → TL → TA → Prop) (hwp : wp_X6_pattern K I L A o0 i1 i2 Q) : ConI K yX6_pattern wsX6_pattern 5 139 I L A [.ref o0, .int i1, .int i2] Q := by
  intro hK sz
  refine Met.ofW (cc := cX6_pattern) (maxL := 3) (ret := (some .int)) (by decide) rfl ?_
  intro p e s m args below meth c s₁ B hml hv
  obtain ⟨rfl, hsz, hB⟩ := hv
  have hx := B.exec
  have hb := B.bytes
  have hret := B.returns
  have hts := atoms_spec (ws := wsX6_pattern) B.pre
  have hown : s.vm.findClass RX6 = some m.cls := findClass_of_methodNamed B.named
  have hlocks := B.notSynchronized
  subst hsz
  have hz : SS K s I L A s.heap [] := PS.start hB
  have hl := lv_entry ([.ref o0, .int i1, .int i2]) (n := 3) (Nat.le_of_ble_eq_true rfl)
  rw [lg_entry_eq]
  generalize (lg_sl ([.ref o0, .int i1, .int i2]) ++ List.replicate (3 - (lg_sl ([.ref o0, .int i1, .int i2])).length) Slot.unset).toArray = ls at hl ⊢
  have hl : lv_has ls 3 [(0, .ref o0), (1, .int i1), (2, .int i2)] := hl
  have hw0 : ∀ w ∈ u_ws RX6 TX6 9, w ∈ wsX6_pattern := by decide +kernel
  have hw1 := hts (.fieldLink RX6 41 "GaloisDesk" "patternCount" "I") (by decide +kernel)
  have hw2 := hts (.fieldLink RX6 13 "GaloisDesk" "slots" "[LGaloisDesk$Row;") (by decide +kernel)
  have hw3 : ∀ w ∈ u_ws RX4 TX4 2, w ∈ wsX6_pattern := by decide +kernel
  have hw4 := hts (.fieldLink RX6 75 "GaloisDesk$Row" "top" "I") (by decide +kernel)
  have hw5 := hts (.fieldLink RX6 56 "GaloisDesk" "splitter" "LGaloisDesk$Splitter;") (by decide +kernel)
  clear hB B
  refine lv_iload_n hx hb dX6_pattern_0 rfl (lv_at hl 1 rfl) ?_
  obtain ⟨P1, hc2, hwp⟩ := hwp
  refine sw_callv hz (va_runS (As := [.int i1]) (rest := []) ⟨hx, hb, hml, hown, hts⟩ (hc2 hK _) (va_cwS 1 hts gX6_pattern_X6_checkSlot rfl rfl rfl (by decide +kernel) ⟨Nat.le_of_ble_eq_true rfl, Nat.le_of_ble_eq_true rfl⟩) hz.preS rfl rfl hl.1 rfl (lv_room (Nat.le_of_ble_eq_true rfl)) dX6_pattern_1 ⟨Nat.le_of_ble_eq_true rfl, Nat.le_of_ble_eq_true rfl⟩) (fun I3 L4 A5 H locs hp hz => ?_)
  have hwp := hwp I3 L4 A5 hp
  refine lv_iload_n hx hb dX6_pattern_4 rfl (lv_at hl 2 rfl) ?_
  obtain ⟨P6, hc7, hwp⟩ := hwp
  refine sw_callv hz (va_runS (As := [.int i2]) (rest := []) ⟨hx, hb, hml, hown, hts⟩ (hc7 hK _) (va_cwS 1 hts gX6_pattern_X6_checkPrime rfl rfl rfl (by decide +kernel) ⟨Nat.le_of_ble_eq_true rfl, Nat.le_of_ble_eq_true rfl⟩) hz.preS rfl rfl hl.1 rfl (lv_room (Nat.le_of_ble_eq_true rfl)) dX6_pattern_5 ⟨Nat.le_of_ble_eq_true rfl, Nat.le_of_ble_eq_true rfl⟩) (fun I8 L9 A10 H locs hp hz => ?_)
  have hwp := hwp I8 L9 A10 hp
  refine lv_aload_n hx hb dX6_pattern_8 rfl (lv_at hl 0 rfl) ?_
  refine lv_iconst (v := 0) hx hb dX6_pattern_9 (by decide) ?_
  obtain ⟨hs11, hwp⟩ := hwp
  refine sw_putI (C := RX6) (T := TX6) (N := 9) hx hb hts hw0 tyX6 tyX6_ok nmX6 hown hK hz hs11 rfl 6 (by decide) hw1 (fun _ h9 => h9) rfl (by decide +kernel) rfl dX6_pattern_10 (fun H locs I12 e_I12 hz => ?_)
  have hwp := hwp I12 e_I12
  refine lv_aload_n hx hb dX6_pattern_13 rfl (lv_at hl 0 rfl) ?_
  refine sw_get (C := RX6) (T := TX6) (N := 9) (v := .ref (o0 + 1)) hx hb hts hw0 hown hK hz hs11 rfl 0 (by decide) hw2 (fun _ h9 => h9) rfl dX6_pattern_14 ?_
  refine lv_iload_n hx hb dX6_pattern_17 rfl (lv_at hl 1 rfl) ?_
  obtain ⟨ho13, hwp⟩ := hwp
  refine sw_aald hx hb hK hz ho13 dX6_pattern_18 ?_
  obtain ⟨hs14, hwp⟩ := hwp
  refine sw_get (C := RX4) (T := TX4) (N := 2) (v := .int (I12 (A10 (o0 + 1) (ix i1)) 1)) hx hb hts hw3 hown hK hz hs14 rfl 1 (by decide) hw4 (fun _ h9 => h9) rfl dX6_pattern_19 ?_
  refine lv_iconst (v := 1) hx hb dX6_pattern_22 (by decide) ?_
  refine lv_icmp_ge (tgt := 29) hx hb dX6_pattern_23 (by decide) (fun q => ?_) (fun q => ?_)
  · have hwp := hwp.1 q
    refine lv_aload_n hx hb dX6_pattern_29 rfl (lv_at hl 0 rfl) ?_
    refine sw_get (C := RX6) (T := TX6) (N := 9) (v := .ref (o0 + 41)) hx hb hts hw0 hown hK hz hs11 rfl 8 (by decide) hw5 (fun _ h9 => h9) rfl dX6_pattern_30 ?_
    refine lv_aload_n hx hb dX6_pattern_33 rfl (lv_at hl 0 rfl) ?_
    refine sw_get (C := RX6) (T := TX6) (N := 9) (v := .ref (o0 + 1)) hx hb hts hw0 hown hK hz hs11 rfl 0 (by decide) hw2 (fun _ h9 => h9) rfl dX6_pattern_34 ?_
    refine lv_iload_n hx hb dX6_pattern_37 rfl (lv_at hl 1 rfl) ?_
    obtain ⟨ho15, hwp⟩ := hwp
    refine sw_aald hx hb hK hz ho15 dX6_pattern_38 ?_
    refine lv_iload_n hx hb dX6_pattern_39 rfl (lv_at hl 2 rfl) ?_
    refine lv_i2l hx hb dX6_pattern_40 rfl ?_
    obtain ⟨hs16, hwp⟩ := hwp
    obtain ⟨P17, hc18, hwp⟩ := hwp
    refine sw_calli hz (va_runV (As := [.ref (A10 (o0 + 1) (ix i1)), .long (Int32.toInt64 i2)]) (rest := []) ⟨hx, hb, hml, hown, hts⟩ (hc18 hK _) (cwV 2 hts gX6_pattern_X5_load rfl rfl rfl (by decide +kernel) ⟨Nat.le_of_ble_eq_true rfl, Nat.le_of_ble_eq_true rfl⟩) (hz.preV hK hs16 rfl) rfl rfl hl.1 rfl (lv_room (Nat.le_of_ble_eq_true rfl)) dX6_pattern_41 ⟨Nat.le_of_ble_eq_true rfl, Nat.le_of_ble_eq_true rfl⟩) (fun r22 I19 L20 A21 H locs hp hz => ?_)
    have hwp := hwp r22 I19 L20 A21 hp
    refine lv_if_ne (tgt := 49) hx hb dX6_pattern_44 (by decide) (fun q => ?_) (fun q => ?_)
    · have hwp := hwp.2 q
      refine lv_aload_n hx hb dX6_pattern_49 rfl (lv_at hl 0 rfl) ?_
      refine sw_get (C := RX6) (T := TX6) (N := 9) (v := .ref (o0 + 41)) hx hb hts hw0 hown hK hz hs11 rfl 8 (by decide) hw5 (fun _ h9 => h9) rfl dX6_pattern_50 ?_
      obtain ⟨P23, hc24, hwp⟩ := hwp
      refine sw_callv hz (va_runV (As := []) (rest := []) ⟨hx, hb, hml, hown, hts⟩ (hc24 hK _) (cwV 0 hts gX6_pattern_X5_groupByDegrees rfl rfl rfl (by decide +kernel) ⟨Nat.le_of_ble_eq_true rfl, Nat.le_of_ble_eq_true rfl⟩) (hz.preV hK hs16 rfl) rfl rfl hl.1 rfl (lv_room (Nat.le_of_ble_eq_true rfl)) dX6_pattern_53 ⟨Nat.le_of_ble_eq_true rfl, Nat.le_of_ble_eq_true rfl⟩) (fun I25 L26 A27 H locs hp hz => ?_)
      have hwp := hwp I25 L26 A27 hp
      refine lv_aload_n hx hb dX6_pattern_56 rfl (lv_at hl 0 rfl) ?_
      obtain ⟨P28, hc29, hwp⟩ := hwp
      refine sw_callv hz (va_runV (As := []) (rest := []) ⟨hx, hb, hml, hown, hts⟩ (hc29 hK _) (cwV 0 hts gX6_pattern_X6_tellPattern rfl rfl rfl (by decide +kernel) ⟨Nat.le_of_ble_eq_true rfl, Nat.le_of_ble_eq_true rfl⟩) (hz.preV hK hs11 rfl) rfl rfl hl.1 rfl (lv_room (Nat.le_of_ble_eq_true rfl)) dX6_pattern_57 ⟨Nat.le_of_ble_eq_true rfl, Nat.le_of_ble_eq_true rfl⟩) (fun I30 L31 A32 H locs hp hz => ?_)
      have hwp := hwp I30 L31 A32 hp
      refine lv_aload_n hx hb dX6_pattern_60 rfl (lv_at hl 0 rfl) ?_
      refine sw_get (C := RX6) (T := TX6) (N := 9) (v := .int (I30 o0 6)) hx hb hts hw0 hown hK hz hs11 rfl 6 (by decide) hw1 (fun _ h9 => h9) rfl dX6_pattern_61 ?_
      exact sw_iret hx hb hret hlocks hz hwp dX6_pattern_64
    · have hwp := hwp.1 q
      refine lv_iconst (v := (-1)) hx hb dX6_pattern_47 (by decide) ?_
      exact sw_iret hx hb hret hlocks hz hwp dX6_pattern_48
  · have hwp := hwp.2 q
    refine lv_bipush (v := (-3)) hx hb dX6_pattern_26 (by decide) ?_
    exact sw_iret hx hb hret hlocks hz hwp dX6_pattern_28

def wp_X6_set (K : Cx) (I : TI) (L : TL) (A : TA) (o0 : Nat) (i1 : Int32) (i2 : Int32) (i3 : Int32) (Q : Int32 → TI → TL → TA → Prop) : Prop := ∃ P1 : TI → TL → TA → Prop, ConV K yX6_checkSlot wsX6_checkSlot 1 40 I L A [.int i1] P1 ∧ ∀ (I3 : TI) (L4 : TL) (A5 : TA), P1 I3 L4 A5 → ∃ P6 : TI → TL → TA → Prop, ConV K yX6_checkPlace wsX6_checkPlace 1 40 I3 L4 A5 [.int i2] P6 ∧ ∀ (I8 : TI) (L9 : TL) (A10 : TA), P6 I8 L9 A10 → ∃ P11 : TI → TL → TA → Prop, ConV K yX6_checkWithin wsX6_checkWithin 1 40 I8 L9 A10 [.int i3, .int 300] P11 ∧ ∀ (I13 : TI) (L14 : TL) (A15 : TA), P11 I13 L14 A15 → cxS K o0 = shX6 o0 ∧ aok (cxS K) (o0 + 1) 2 i1 ∧ cxS K (A15 (o0 + 1) (ix i1)) = shX4 (A15 (o0 + 1) (ix i1)) ∧ aok (cxS K) ((A15 (o0 + 1) (ix i1)) + 1) 1 i2 ∧ ∀ L20 : TL, L20 = u2 L14 ((A15 (o0 + 1) (ix i1)) + 1) (ix i2) (Int32.toInt64 i3) → aok (cxS K) (o0 + 1) 2 i1 ∧ ∃ P22 : TI → TL → TA → Prop, ConV K yX4_settle wsX4_settle 0 0 I13 L20 A15 [.ref (A15 (o0 + 1) (ix i1))] P22 ∧ ∀ (I24 : TI) (L25 : TL) (A26 : TA), P22 I24 L25 A26 → aok (cxS K) (o0 + 1) 2 i1 ∧ cxS K (A26 (o0 + 1) (ix i1)) = shX4 (A26 (o0 + 1) (ix i1)) ∧ Q (I24 (A26 (o0 + 1) (ix i1)) 1) I24 L25 A26
set_option maxHeartbeats 1000000 in
set_option maxRecDepth 100000 in
theorem w_X6_set (K : Cx) (I : TI) (L : TL) (A : TA) (o0 : Nat) (i1 : Int32) (i2 : Int32) (i3 : Int32) (Q : Int32 → TI → TL → TA → Prop) (hwp : wp_X6_set K I L A o0 i1 i2 i3 Q) : ConI K yX6_set wsX6_set 2 61 I L A [.ref o0, .int i1, .int i2, .int i3] Q := by
  intro hK sz
  refine Met.ofW (cc := cX6_set) (maxL := 4) (ret := (some .int)) (by decide) rfl ?_
  intro p e s m args below meth c s₁ B hml hv
  obtain ⟨rfl, hsz, hB⟩ := hv
  have hx := B.exec
  have hb := B.bytes
  have hret := B.returns
  have hts := atoms_spec (ws := wsX6_set) B.pre
  have hown : s.vm.findClass RX6 = some m.cls := findClass_of_methodNamed B.named
  have hlocks := B.notSynchronized
  subst hsz
  have hz : SS K s I L A s.heap [] := PS.start hB
  have hl := lv_entry ([.ref o0, .int i1, .int i2, .int i3]) (n := 4) (Nat.le_of_ble_eq_true rfl)
  rw [lg_entry_eq]
  generalize (lg_sl ([.ref o0, .int i1, .int i2, .int i3]) ++ List.replicate (4 - (lg_sl ([.ref o0, .int i1, .int i2, .int i3])).length) Slot.unset).toArray = ls at hl ⊢
  have hl : lv_has ls 4 [(0, .ref o0), (1, .int i1), (2, .int i2), (3, .int i3)] := hl
  have hw0 : ∀ w ∈ u_ws RX6 TX6 9, w ∈ wsX6_set := by decide +kernel
  have hw1 := hts (.fieldLink RX6 13 "GaloisDesk" "slots" "[LGaloisDesk$Row;") (by decide +kernel)
  have hw2 : ∀ w ∈ u_ws RX4 TX4 2, w ∈ wsX6_set := by decide +kernel
  have hw3 := hts (.fieldLink RX6 68 "GaloisDesk$Row" "c" "[J") (by decide +kernel)
  have hw4 := hts (.fieldLink RX6 75 "GaloisDesk$Row" "top" "I") (by decide +kernel)
  clear hB B
  refine lv_iload_n hx hb dX6_set_0 rfl (lv_at hl 1 rfl) ?_
  obtain ⟨P1, hc2, hwp⟩ := hwp
  refine sw_callv hz (va_runS (As := [.int i1]) (rest := []) ⟨hx, hb, hml, hown, hts⟩ (hc2 hK _) (va_cwS 1 hts gX6_set_X6_checkSlot rfl rfl rfl (by decide +kernel) ⟨Nat.le_of_ble_eq_true rfl, Nat.le_of_ble_eq_true rfl⟩) hz.preS rfl rfl hl.1 rfl (lv_room (Nat.le_of_ble_eq_true rfl)) dX6_set_1 ⟨Nat.le_of_ble_eq_true rfl, Nat.le_of_ble_eq_true rfl⟩) (fun I3 L4 A5 H locs hp hz => ?_)
  have hwp := hwp I3 L4 A5 hp
  refine lv_iload_n hx hb dX6_set_4 rfl (lv_at hl 2 rfl) ?_
  obtain ⟨P6, hc7, hwp⟩ := hwp
  refine sw_callv hz (va_runS (As := [.int i2]) (rest := []) ⟨hx, hb, hml, hown, hts⟩ (hc7 hK _) (va_cwS 1 hts gX6_set_X6_checkPlace rfl rfl rfl (by decide +kernel) ⟨Nat.le_of_ble_eq_true rfl, Nat.le_of_ble_eq_true rfl⟩) hz.preS rfl rfl hl.1 rfl (lv_room (Nat.le_of_ble_eq_true rfl)) dX6_set_5 ⟨Nat.le_of_ble_eq_true rfl, Nat.le_of_ble_eq_true rfl⟩) (fun I8 L9 A10 H locs hp hz => ?_)
  have hwp := hwp I8 L9 A10 hp
  refine lv_iload_n hx hb dX6_set_8 rfl (lv_at hl 3 rfl) ?_
  refine lv_sipush (v := 300) hx hb dX6_set_9 (by decide) ?_
  obtain ⟨P11, hc12, hwp⟩ := hwp
  refine sw_callv hz (va_runS (As := [.int i3, .int 300]) (rest := []) ⟨hx, hb, hml, hown, hts⟩ (hc12 hK _) (va_cwS 2 hts gX6_set_X6_checkWithin rfl rfl rfl (by decide +kernel) ⟨Nat.le_of_ble_eq_true rfl, Nat.le_of_ble_eq_true rfl⟩) hz.preS rfl rfl hl.1 rfl (lv_room (Nat.le_of_ble_eq_true rfl)) dX6_set_12 ⟨Nat.le_of_ble_eq_true rfl, Nat.le_of_ble_eq_true rfl⟩) (fun I13 L14 A15 H locs hp hz => ?_)
  have hwp := hwp I13 L14 A15 hp
  refine lv_aload_n hx hb dX6_set_15 rfl (lv_at hl 0 rfl) ?_
  obtain ⟨hs16, hwp⟩ := hwp
  refine sw_get (C := RX6) (T := TX6) (N := 9) (v := .ref (o0 + 1)) hx hb hts hw0 hown hK hz hs16 rfl 0 (by decide) hw1 (fun _ h9 => h9) rfl dX6_set_16 ?_
  refine lv_iload_n hx hb dX6_set_19 rfl (lv_at hl 1 rfl) ?_
  obtain ⟨ho17, hwp⟩ := hwp
  refine sw_aald hx hb hK hz ho17 dX6_set_20 ?_
  obtain ⟨hs18, hwp⟩ := hwp
  refine sw_get (C := RX4) (T := TX4) (N := 2) (v := .ref ((A15 (o0 + 1) (ix i1)) + 1)) hx hb hts hw2 hown hK hz hs18 rfl 0 (by decide) hw3 (fun _ h9 => h9) rfl dX6_set_21 ?_
  refine lv_iload_n hx hb dX6_set_24 rfl (lv_at hl 2 rfl) ?_
  refine lv_iload_n hx hb dX6_set_25 rfl (lv_at hl 3 rfl) ?_
  refine lv_i2l hx hb dX6_set_26 rfl ?_
  obtain ⟨ho19, hwp⟩ := hwp
  refine sw_last hx hb hK hz ho19 dX6_set_27 (fun H locs L20 e_L20 hz => ?_)
  have hwp := hwp L20 e_L20
  refine lv_aload_n hx hb dX6_set_28 rfl (lv_at hl 0 rfl) ?_
  refine sw_get (C := RX6) (T := TX6) (N := 9) (v := .ref (o0 + 1)) hx hb hts hw0 hown hK hz hs16 rfl 0 (by decide) hw1 (fun _ h9 => h9) rfl dX6_set_29 ?_
  refine lv_iload_n hx hb dX6_set_32 rfl (lv_at hl 1 rfl) ?_
  obtain ⟨ho21, hwp⟩ := hwp
  refine sw_aald hx hb hK hz ho21 dX6_set_33 ?_
  obtain ⟨P22, hc23, hwp⟩ := hwp
  refine sw_callv hz (va_runV (As := []) (rest := []) ⟨hx, hb, hml, hown, hts⟩ (hc23 hK _) (cwV 0 hts gX6_set_X4_settle rfl rfl rfl (by decide +kernel) ⟨Nat.le_of_ble_eq_true rfl, Nat.le_of_ble_eq_true rfl⟩) (hz.preV hK hs18 rfl) rfl rfl hl.1 rfl (lv_room (Nat.le_of_ble_eq_true rfl)) dX6_set_34 ⟨Nat.le_of_ble_eq_true rfl, Nat.le_of_ble_eq_true rfl⟩) (fun I24 L25 A26 H locs hp hz => ?_)
  have hwp := hwp I24 L25 A26 hp
  refine lv_aload_n hx hb dX6_set_37 rfl (lv_at hl 0 rfl) ?_
  refine sw_get (C := RX6) (T := TX6) (N := 9) (v := .ref (o0 + 1)) hx hb hts hw0 hown hK hz hs16 rfl 0 (by decide) hw1 (fun _ h9 => h9) rfl dX6_set_38 ?_
  refine lv_iload_n hx hb dX6_set_41 rfl (lv_at hl 1 rfl) ?_
  obtain ⟨ho27, hwp⟩ := hwp
  refine sw_aald hx hb hK hz ho27 dX6_set_42 ?_
  obtain ⟨hs28, hwp⟩ := hwp
  refine sw_get (C := RX4) (T := TX4) (N := 2) (v := .int (I24 (A26 (o0 + 1) (ix i1)) 1)) hx hb hts hw2 hown hK hz hs28 rfl 1 (by decide) hw4 (fun _ h9 => h9) rfl dX6_set_43 ?_
  exact sw_iret hx hb hret hlocks hz hwp dX6_set_46

