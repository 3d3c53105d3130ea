def wp_X5_findConjugate (K : Cx) (I : TI) (L : TL) (A : TA) (o0 : Nat) (i1 : Int32) (Q : TI → TL → TA → Prop) : Prop := ((i1 ≤ 1 → cxS K o0 = shX5 o0 ∧ cxS K (o0 + 11) = shX4 (o0 + 11) ∧ ∃ P3 : TI → TL → TA → Prop, ConV K yX4_becomeLine wsX4_becomeLine 1 21 I L A [.ref (o0 + 11), .long 0] P3 ∧ ∀ (I5 : TI) (L6 : TL) (A7 : TA), P3 I5 L6 A7 → aok (cxS K) (o0 + 17) 2 i1 ∧ cxS K (o0 + 1) = shX3 (o0 + 1) ∧ ∃ P10 : TI → TL → TA → Prop, ConV K yX3_raise wsX3_raise 2 68 I5 L6 A7 [.ref (o0 + 1), .ref (A7 (o0 + 17) (ix i1)), .ref (o0 + 11), .long (L6 (o0 + 1) 0), .ref (o0 + 7)] P10 ∧ ∀ (I12 : TI) (L13 : TL) (A14 : TA), P10 I12 L13 A14 → Q I12 L13 A14) ∧ (¬ i1 ≤ 1 → cxS K o0 = shX5 o0 ∧ aok (cxS K) (o0 + 17) 2 i1 ∧ aok (cxS K) (o0 + 17) 2 (i1 - 1) ∧ aok (cxS K) (o0 + 17) 2 1 ∧ cxS K (o0 + 1) = shX3 (o0 + 1) ∧ ∃ P20 : TI → TL → TA → Prop, ConV K yX3_compose wsX3_compose 2 68 I L A [.ref (o0 + 1), .ref (A (o0 + 17) (ix i1)), .ref (A (o0 + 17) (ix (i1 - 1))), .ref (A (o0 + 17) (ix 1)), .ref (o0 + 7)] P20 ∧ ∀ (I22 : TI) (L23 : TL) (A24 : TA), P20 I22 L23 A24 → Q I22 L23 A24))
set_option maxHeartbeats 1000000 in
set_option maxRecDepth 100000 in
theorem w_X5_findConjugate (K : Cx) (I : TI) (L : TL) (A : TA) (o0 : Nat) (i1 : Int32) (Q : TI → TL → TA → Prop) (hwp : wp_X5_findConjugate K I L A o0 i1 Q) : ConV K yX5_findConjugate wsX5_findConjugate 3 94 I L A [.ref o0, .int i1] Q := by
  intro hK sz
  refine Met.ofW (cc := cX5_findConjugate) (maxL := 2) (ret := none) (by decide) rfl ?_
  intro p e s m args below meth c s₁ B hml hv
  obtain ⟨rfl, hsz, hB⟩ := hv
  have hx := B.exec
  have hb := B.bytes
  have hret := B.returns
  have hts := atoms_spec (ws := wsX5_findConjugate) B.pre
  have hown : s.vm.findClass RX5 = some m.cls := findClass_of_methodNamed B.named
  have hlocks := B.notSynchronized
  subst hsz
  have hz : SS K s I L A s.heap [] := PS.start hB
  have hl := lv_entry ([.ref o0, .int i1]) (n := 2) (Nat.le_of_ble_eq_true rfl)
  rw [lg_entry_eq]
  generalize (lg_sl ([.ref o0, .int i1]) ++ List.replicate (2 - (lg_sl ([.ref o0, .int i1])).length) Slot.unset).toArray = ls at hl ⊢
  have hl : lv_has ls 2 [(0, .ref o0), (1, .int i1)] := hl
  have hw0 : ∀ w ∈ u_ws RX5 TX5 10, w ∈ wsX5_findConjugate := by decide +kernel
  have hw1 := hts (.fieldLink RX5 28 "GaloisDesk$Splitter" "line" "LGaloisDesk$Row;") (by decide +kernel)
  have hw2 := hts (.fieldLink RX5 12 "GaloisDesk$Splitter" "residues" "LGaloisDesk$Residues;") (by decide +kernel)
  have hw3 := hts (.fieldLink RX5 41 "GaloisDesk$Splitter" "conjugates" "[LGaloisDesk$Row;") (by decide +kernel)
  have hw4 : ∀ w ∈ u_ws RX3 TX3 4, w ∈ wsX5_findConjugate := by decide +kernel
  have hw5 := hts (.fieldLink RX5 103 "GaloisDesk$Residues" "modulus" "J") (by decide +kernel)
  have hw6 := hts (.fieldLink RX5 21 "GaloisDesk$Splitter" "image" "LGaloisDesk$Row;") (by decide +kernel)
  clear hB B
  refine lv_iload_n hx hb dX5_findConjugate_0 rfl (lv_at hl 1 rfl) ?_
  refine lv_iconst (v := 1) hx hb dX5_findConjugate_1 (by decide) ?_
  refine lv_icmp_le (tgt := 39) hx hb dX5_findConjugate_2 (by decide) (fun q => ?_) (fun q => ?_)
  · have hwp := hwp.1 q
    refine lv_aload_n hx hb dX5_findConjugate_39 rfl (lv_at hl 0 rfl) ?_
    obtain ⟨hs1, hwp⟩ := hwp
    refine sw_get (C := RX5) (T := TX5) (N := 10) (v := .ref (o0 + 11)) hx hb hts hw0 hown hK hz hs1 rfl 3 (by decide) hw1 (fun _ h9 => h9) rfl dX5_findConjugate_40 ?_
    refine lv_lconst (v := 0) hx hb dX5_findConjugate_43 (by decide) ?_
    obtain ⟨hs2, hwp⟩ := hwp
    obtain ⟨P3, hc4, hwp⟩ := hwp
    refine sw_callv hz (va_runV (As := [.long 0]) (rest := []) ⟨hx, hb, hml, hown, hts⟩ (hc4 hK _) (cwV 1 hts gX5_findConjugate_X4_becomeLine rfl rfl rfl (by decide +kernel) ⟨Nat.le_of_ble_eq_true rfl, Nat.le_of_ble_eq_true rfl⟩) (hz.preV hK hs2 rfl) rfl rfl hl.1 rfl (lv_room (Nat.le_of_ble_eq_true rfl)) dX5_findConjugate_44 ⟨Nat.le_of_ble_eq_true rfl, Nat.le_of_ble_eq_true rfl⟩) (fun I5 L6 A7 H locs hp hz => ?_)
    have hwp := hwp I5 L6 A7 hp
    refine lv_aload_n hx hb dX5_findConjugate_47 rfl (lv_at hl 0 rfl) ?_
    refine sw_get (C := RX5) (T := TX5) (N := 10) (v := .ref (o0 + 1)) hx hb hts hw0 hown hK hz hs1 rfl 0 (by decide) hw2 (fun _ h9 => h9) rfl dX5_findConjugate_48 ?_
    refine lv_aload_n hx hb dX5_findConjugate_51 rfl (lv_at hl 0 rfl) ?_
    refine sw_get (C := RX5) (T := TX5) (N := 10) (v := .ref (o0 + 17)) hx hb hts hw0 hown hK hz hs1 rfl 6 (by decide) hw3 (fun _ h9 => h9) rfl dX5_findConjugate_52 ?_
    refine lv_iload_n hx hb dX5_findConjugate_55 rfl (lv_at hl 1 rfl) ?_
    obtain ⟨ho8, hwp⟩ := hwp
    refine sw_aald hx hb hK hz ho8 dX5_findConjugate_56 ?_
    refine lv_aload_n hx hb dX5_findConjugate_57 rfl (lv_at hl 0 rfl) ?_
    refine sw_get (C := RX5) (T := TX5) (N := 10) (v := .ref (o0 + 11)) hx hb hts hw0 hown hK hz hs1 rfl 3 (by decide) hw1 (fun _ h9 => h9) rfl dX5_findConjugate_58 ?_
    refine lv_aload_n hx hb dX5_findConjugate_61 rfl (lv_at hl 0 rfl) ?_
    refine sw_get (C := RX5) (T := TX5) (N := 10) (v := .ref (o0 + 1)) hx hb hts hw0 hown hK hz hs1 rfl 0 (by decide) hw2 (fun _ h9 => h9) rfl dX5_findConjugate_62 ?_
    obtain ⟨hs9, hwp⟩ := hwp
    refine sw_get (C := RX3) (T := TX3) (N := 4) (v := .long (L6 (o0 + 1) 0)) hx hb hts hw4 hown hK hz hs9 rfl 0 (by decide) hw5 (fun _ h9 => h9) rfl dX5_findConjugate_65 ?_
    refine lv_aload_n hx hb dX5_findConjugate_68 rfl (lv_at hl 0 rfl) ?_
    refine sw_get (C := RX5) (T := TX5) (N := 10) (v := .ref (o0 + 7)) hx hb hts hw0 hown hK hz hs1 rfl 1 (by decide) hw6 (fun _ h9 => h9) rfl dX5_findConjugate_69 ?_
    obtain ⟨P10, hc11, hwp⟩ := hwp
    refine sw_callv hz (va_runV (As := [.ref (A7 (o0 + 17) (ix i1)), .ref (o0 + 11), .long (L6 (o0 + 1) 0), .ref (o0 + 7)]) (rest := []) ⟨hx, hb, hml, hown, hts⟩ (hc11 hK _) (cwV 4 hts gX5_findConjugate_X3_raise rfl rfl rfl (by decide +kernel) ⟨Nat.le_of_ble_eq_true rfl, Nat.le_of_ble_eq_true rfl⟩) (hz.preV hK hs9 rfl) rfl rfl hl.1 rfl (lv_room (Nat.le_of_ble_eq_true rfl)) dX5_findConjugate_72 ⟨Nat.le_of_ble_eq_true rfl, Nat.le_of_ble_eq_true rfl⟩) (fun I12 L13 A14 H locs hp hz => ?_)
    have hwp := hwp I12 L13 A14 hp
    exact sw_vret hx hb hret hlocks hz hwp dX5_findConjugate_75
  · have hwp := hwp.2 q
    refine lv_aload_n hx hb dX5_findConjugate_5 rfl (lv_at hl 0 rfl) ?_
    obtain ⟨hs15, hwp⟩ := hwp
    refine sw_get (C := RX5) (T := TX5) (N := 10) (v := .ref (o0 + 1)) hx hb hts hw0 hown hK hz hs15 rfl 0 (by decide) hw2 (fun _ h9 => h9) rfl dX5_findConjugate_6 ?_
    refine lv_aload_n hx hb dX5_findConjugate_9 rfl (lv_at hl 0 rfl) ?_
    refine sw_get (C := RX5) (T := TX5) (N := 10) (v := .ref (o0 + 17)) hx hb hts hw0 hown hK hz hs15 rfl 6 (by decide) hw3 (fun _ h9 => h9) rfl dX5_findConjugate_10 ?_
    refine lv_iload_n hx hb dX5_findConjugate_13 rfl (lv_at hl 1 rfl) ?_
    obtain ⟨ho16, hwp⟩ := hwp
    refine sw_aald hx hb hK hz ho16 dX5_findConjugate_14 ?_
    refine lv_aload_n hx hb dX5_findConjugate_15 rfl (lv_at hl 0 rfl) ?_
    refine sw_get (C := RX5) (T := TX5) (N := 10) (v := .ref (o0 + 17)) hx hb hts hw0 hown hK hz hs15 rfl 6 (by decide) hw3 (fun _ h9 => h9) rfl dX5_findConjugate_16 ?_
    refine lv_iload_n hx hb dX5_findConjugate_19 rfl (lv_at hl 1 rfl) ?_
    refine lv_iconst (v := 1) hx hb dX5_findConjugate_20 (by decide) ?_
    refine lv_isub hx hb dX5_findConjugate_21 ?_
    obtain ⟨ho17, hwp⟩ := hwp
    refine sw_aald hx hb hK hz ho17 dX5_findConjugate_22 ?_
    refine lv_aload_n hx hb dX5_findConjugate_23 rfl (lv_at hl 0 rfl) ?_
    refine sw_get (C := RX5) (T := TX5) (N := 10) (v := .ref (o0 + 17)) hx hb hts hw0 hown hK hz hs15 rfl 6 (by decide) hw3 (fun _ h9 => h9) rfl dX5_findConjugate_24 ?_
    refine lv_iconst (v := 1) hx hb dX5_findConjugate_27 (by decide) ?_
    obtain ⟨ho18, hwp⟩ := hwp
    refine sw_aald hx hb hK hz ho18 dX5_findConjugate_28 ?_
    refine lv_aload_n hx hb dX5_findConjugate_29 rfl (lv_at hl 0 rfl) ?_
    refine sw_get (C := RX5) (T := TX5) (N := 10) (v := .ref (o0 + 7)) hx hb hts hw0 hown hK hz hs15 rfl 1 (by decide) hw6 (fun _ h9 => h9) rfl dX5_findConjugate_30 ?_
    obtain ⟨hs19, hwp⟩ := hwp
    obtain ⟨P20, hc21, hwp⟩ := hwp
    refine sw_callv hz (va_runV (As := [.ref (A (o0 + 17) (ix i1)), .ref (A (o0 + 17) (ix (i1 - 1))), .ref (A (o0 + 17) (ix 1)), .ref (o0 + 7)]) (rest := []) ⟨hx, hb, hml, hown, hts⟩ (hc21 hK _) (cwV 4 hts gX5_findConjugate_X3_compose rfl rfl rfl (by decide +kernel) ⟨Nat.le_of_ble_eq_true rfl, Nat.le_of_ble_eq_true rfl⟩) (hz.preV hK hs19 rfl) rfl rfl hl.1 rfl (lv_room (Nat.le_of_ble_eq_true rfl)) dX5_findConjugate_33 ⟨Nat.le_of_ble_eq_true rfl, Nat.le_of_ble_eq_true rfl⟩) (fun I22 L23 A24 H locs hp hz => ?_)
    have hwp := hwp I22 L23 A24 hp
    refine lv_goto (tgt := 75) hx hb dX5_findConjugate_36 (by decide) ?_
    exact sw_vret hx hb hret hlocks hz hwp dX5_findConjugate_75

def wp_X5_findNorm_12 (K : Cx) (o0 : Nat) (o1 : Nat) (i2 : Int32) (i3 : Int32) (I : TI) (L : TL) (A : TA) (x4 : Int32) (Q : TI → TL → TA → Prop) : Prop := ∃ (Inv : Nat → TI → TL → TA → Int32 → Prop) (μ : Nat), Inv μ I L A x4 ∧ ∀ (μ : Nat) (C12 : TI → TL → TA → Int32 → Prop), (∀ (μ' : Nat) (I : TI) (L : TL) (A : TA) (x4 : Int32) , μ' < μ → Inv μ' I L A x4 → C12 I L A x4) → ∀ (I : TI) (L : TL) (A : TA) (x4 : Int32) , Inv μ I L A x4 → ((i2 ≤ x4 → Q I L A) ∧ (¬ i2 ≤ x4 → ((3 < x4 → Q I L A) ∧ (¬ 3 < x4 → cxS K o0 = shX5 o0 ∧ aok (cxS K) (o0 + 17) 2 x4 ∧ cxS K (o0 + 13) = shX4 (o0 + 13) ∧ ∃ P4 : TI → TL → TA → Prop, ConV K yX4_become wsX4_become 1 40 I L A [.ref (o0 + 13), .ref (A (o0 + 17) (ix x4))] P4 ∧ ∀ (I6 : TI) (L7 : TL) (A8 : TA), P4 I6 L7 A8 → cxS K (o0 + 1) = shX3 (o0 + 1) ∧ ∃ P10 : TI → TL → TA → Prop, ConV K yX3_addAt wsX3_addAt 1 40 I6 L7 A8 [.ref (o0 + 1), .ref (o0 + 13), .int 0, .long (Int32.toInt64 i3)] P10 ∧ ∀ (I12 : TI) (L13 : TL) (A14 : TA), P10 I12 L13 A14 → ∃ P15 : TI → TL → TA → Prop, ConV K yX3_multiplyModulo wsX3_multiplyModulo 1 40 I12 L13 A14 [.ref (o0 + 1), .ref (o0 + 11), .ref (o0 + 11), .ref (o0 + 13), .ref o1] P15 ∧ ∀ (I17 : TI) (L18 : TL) (A19 : TA), P15 I17 L18 A19 → ∀ v20 : Int32, v20 = x4 + 1 → C12 I17 L18 A19 v20))))
def wp_X5_findNorm (K : Cx) (I : TI) (L : TL) (A : TA) (o0 : Nat) (o1 : Nat) (i2 : Int32) (i3 : Int32) (Q : TI → TL → TA → Prop) : Prop := cxS K o0 = shX5 o0 ∧ cxS K (o0 + 11) = shX4 (o0 + 11) ∧ ∃ P23 : TI → TL → TA → Prop, ConV K yX4_becomeLine wsX4_becomeLine 1 21 I L A [.ref (o0 + 11), .long (Int32.toInt64 i3)] P23 ∧ ∀ (I25 : TI) (L26 : TL) (A27 : TA), P23 I25 L26 A27 → wp_X5_findNorm_12 K o0 o1 i2 i3 I25 L26 A27 1 Q
set_option maxHeartbeats 1000000 in
set_option maxRecDepth 100000 in
theorem w_X5_findNorm (K : Cx) (I : TI) (L : TL) (A : TA) (o0 : Nat) (o1 : Nat) (i2 : Int32) (i3 : Int32) (Q : TI → TL → TA → Prop) (hwp : wp_X5_findNorm K I L A o0 o1 i2 i3 Q) : ConV K yX5_findNorm wsX5_findNorm 2 68 I L A [.ref o0, .ref o1, .int i2, .int i3] Q := by
  intro hK sz
  refine Met.ofW (cc := cX5_findNorm) (maxL := 5) (ret := none) (by decide) rfl ?_
  intro p e s m args below meth c s₁ B hml hv
  obtain ⟨rfl, hsz, hB⟩ := hv
  have hx := B.exec
  have hb := B.bytes
  have hret := B.returns
  have hts := atoms_spec (ws := wsX5_findNorm) B.pre
  have hown : s.vm.findClass RX5 = some m.cls := findClass_of_methodNamed B.named
  have hlocks := B.notSynchronized
  subst hsz
  have hz : SS K s I L A s.heap [] := PS.start hB
  have hl := lv_entry ([.ref o0, .ref o1, .int i2, .int i3]) (n := 5) (Nat.le_of_ble_eq_true rfl)
  rw [lg_entry_eq]
  generalize (lg_sl ([.ref o0, .ref o1, .int i2, .int i3]) ++ List.replicate (5 - (lg_sl ([.ref o0, .ref o1, .int i2, .int i3])).length) Slot.unset).toArray = ls at hl ⊢
  have hl : lv_has ls 5 [(0, .ref o0), (1, .ref o1), (2, .int i2), (3, .int i3)] := hl
  have hw0 : ∀ w ∈ u_ws RX5 TX5 10, w ∈ wsX5_findNorm := by decide +kernel
  have hw1 := hts (.fieldLink RX5 31 "GaloisDesk$Splitter" "helper" "LGaloisDesk$Row;") (by decide +kernel)
  have hw2 := hts (.fieldLink RX5 41 "GaloisDesk$Splitter" "conjugates" "[LGaloisDesk$Row;") (by decide +kernel)
  have hw3 := hts (.fieldLink RX5 12 "GaloisDesk$Splitter" "residues" "LGaloisDesk$Residues;") (by decide +kernel)
  have hw4 := hts (.fieldLink RX5 28 "GaloisDesk$Splitter" "line" "LGaloisDesk$Row;") (by decide +kernel)
  clear hB B
  have wL12 : ∀ (I : TI) (L : TL) (A : TA) (x4 : Int32) (H : Heap) (locs : List Loc) (ls : Array Slot), wp_X5_findNorm_12 K o0 o1 i2 i3 I L A x4 Q → SS K s I L A H locs → lv_has ls 5 [(0, .ref o0), (1, .ref o1), (2, .int i2), (3, .int i3), (4, .int x4)] → W p (cxl K) e (headSpec wsX5_findNorm (rmF 2 68)).room s m ([.ref o0, .ref o1, .int i2, .int i3] : List Value).toArray below meth c H locs 0 0 (MQ below (cxQv K Q) ([.ref o0, .ref o1, .int i2, .int i3] : List Value).toArray s 0 0 (PA (cxb K))) (F0 m 12 ls []) := by
    intro I L A x4 H locs ls hwp hz hl
    obtain ⟨Inv, μ, hi, hst⟩ := hwp
    have key : ∀ (μ : Nat) (I : TI) (L : TL) (A : TA) (x4 : Int32) (H : Heap) (locs : List Loc) (ls : Array Slot), Inv μ I L A x4 → SS K s I L A H locs → lv_has ls 5 [(0, .ref o0), (1, .ref o1), (2, .int i2), (3, .int i3), (4, .int x4)] → W p (cxl K) e (headSpec wsX5_findNorm (rmF 2 68)).room s m ([.ref o0, .ref o1, .int i2, .int i3] : List Value).toArray below meth c H locs 0 0 (MQ below (cxQv K Q) ([.ref o0, .ref o1, .int i2, .int i3] : List Value).toArray s 0 0 (PA (cxb K))) (F0 m 12 ls []) := by
      clear hi hz hl
      intro μ
      induction μ using Nat.strongRecOn with | ind μ ih => ?_
      intro I L A x4 H locs ls hi hz hl
      obtain ⟨C12, hCd⟩ : ∃ C : TI → TL → TA → Int32 → Prop, C = fun I L A x4 => ∃ μ', μ' < μ ∧ Inv μ' I L A x4 := ⟨_, rfl⟩
      have hC12 : ∀ (I : TI) (L : TL) (A : TA) (x4 : Int32) (H : Heap) (locs : List Loc) (ls : Array Slot), C12 I L A x4 → SS K s I L A H locs → lv_has ls 5 [(0, .ref o0), (1, .ref o1), (2, .int i2), (3, .int i3), (4, .int x4)] → W p (cxl K) e (headSpec wsX5_findNorm (rmF 2 68)).room s m ([.ref o0, .ref o1, .int i2, .int i3] : List Value).toArray below meth c H locs 0 0 (MQ below (cxQv K Q) ([.ref o0, .ref o1, .int i2, .int i3] : List Value).toArray s 0 0 (PA (cxb K))) (F0 m 12 ls []) := by
        intro I L A x4 H locs ls hc hz hl
        rw [hCd] at hc
        obtain ⟨μ', hlt, hc⟩ := hc
        exact ih μ' hlt I L A x4 H locs ls hc hz hl
      have hwp := hst μ C12 (fun μ' I L A x4 hlt hc => by rw [hCd]; exact ⟨μ', hlt, hc⟩) I L A x4 hi
      refine lv_iload hx hb dX5_findNorm_12 (lv_at hl 4 rfl) ?_
      refine lv_iload_n hx hb dX5_findNorm_14 rfl (lv_at hl 2 rfl) ?_
      refine lv_icmp_ge (tgt := 78) hx hb dX5_findNorm_15 (by decide) (fun q => ?_) (fun q => ?_)
      · have hwp := hwp.1 q
        exact sw_vret hx hb hret hlocks hz hwp dX5_findNorm_78
      · have hwp := hwp.2 q
        refine lv_iload hx hb dX5_findNorm_18 (lv_at hl 4 rfl) ?_
        refine lv_iconst (v := 3) hx hb dX5_findNorm_20 (by decide) ?_
        refine lv_icmp_gt (tgt := 78) hx hb dX5_findNorm_21 (by decide) (fun q => ?_) (fun q => ?_)
        · have hwp := hwp.1 q
          exact sw_vret hx hb hret hlocks hz hwp dX5_findNorm_78
        · have hwp := hwp.2 q
          refine lv_aload_n hx hb dX5_findNorm_24 rfl (lv_at hl 0 rfl) ?_
          obtain ⟨hs1, hwp⟩ := hwp
          refine sw_get (C := RX5) (T := TX5) (N := 10) (v := .ref (o0 + 13)) hx hb hts hw0 hown hK hz hs1 rfl 4 (by decide) hw1 (fun _ h9 => h9) rfl dX5_findNorm_25 ?_
          refine lv_aload_n hx hb dX5_findNorm_28 rfl (lv_at hl 0 rfl) ?_
          refine sw_get (C := RX5) (T := TX5) (N := 10) (v := .ref (o0 + 17)) hx hb hts hw0 hown hK hz hs1 rfl 6 (by decide) hw2 (fun _ h9 => h9) rfl dX5_findNorm_29 ?_
          refine lv_iload hx hb dX5_findNorm_32 (lv_at hl 4 rfl) ?_
          obtain ⟨ho2, hwp⟩ := hwp
          refine sw_aald hx hb hK hz ho2 dX5_findNorm_34 ?_
          obtain ⟨hs3, hwp⟩ := hwp
          obtain ⟨P4, hc5, hwp⟩ := hwp
          refine sw_callv hz (va_runV (As := [.ref (A (o0 + 17) (ix x4))]) (rest := []) ⟨hx, hb, hml, hown, hts⟩ (hc5 hK _) (cwV 1 hts gX5_findNorm_X4_become rfl rfl rfl (by decide +kernel) ⟨Nat.le_of_ble_eq_true rfl, Nat.le_of_ble_eq_true rfl⟩) (hz.preV hK hs3 rfl) rfl rfl hl.1 rfl (lv_room (Nat.le_of_ble_eq_true rfl)) dX5_findNorm_35 ⟨Nat.le_of_ble_eq_true rfl, Nat.le_of_ble_eq_true rfl⟩) (fun I6 L7 A8 H locs hp hz => ?_)
          have hwp := hwp I6 L7 A8 hp
          refine lv_aload_n hx hb dX5_findNorm_38 rfl (lv_at hl 0 rfl) ?_
          refine sw_get (C := RX5) (T := TX5) (N := 10) (v := .ref (o0 + 1)) hx hb hts hw0 hown hK hz hs1 rfl 0 (by decide) hw3 (fun _ h9 => h9) rfl dX5_findNorm_39 ?_
          refine lv_aload_n hx hb dX5_findNorm_42 rfl (lv_at hl 0 rfl) ?_
          refine sw_get (C := RX5) (T := TX5) (N := 10) (v := .ref (o0 + 13)) hx hb hts hw0 hown hK hz hs1 rfl 4 (by decide) hw1 (fun _ h9 => h9) rfl dX5_findNorm_43 ?_
          refine lv_iconst (v := 0) hx hb dX5_findNorm_46 (by decide) ?_
          refine lv_iload_n hx hb dX5_findNorm_47 rfl (lv_at hl 3 rfl) ?_
          refine lv_i2l hx hb dX5_findNorm_48 rfl ?_
          obtain ⟨hs9, hwp⟩ := hwp
          obtain ⟨P10, hc11, hwp⟩ := hwp
          refine sw_callv hz (va_runV (As := [.ref (o0 + 13), .int 0, .long (Int32.toInt64 i3)]) (rest := []) ⟨hx, hb, hml, hown, hts⟩ (hc11 hK _) (cwV 3 hts gX5_findNorm_X3_addAt rfl rfl rfl (by decide +kernel) ⟨Nat.le_of_ble_eq_true rfl, Nat.le_of_ble_eq_true rfl⟩) (hz.preV hK hs9 rfl) rfl rfl hl.1 rfl (lv_room (Nat.le_of_ble_eq_true rfl)) dX5_findNorm_49 ⟨Nat.le_of_ble_eq_true rfl, Nat.le_of_ble_eq_true rfl⟩) (fun I12 L13 A14 H locs hp hz => ?_)
          have hwp := hwp I12 L13 A14 hp
          refine lv_aload_n hx hb dX5_findNorm_52 rfl (lv_at hl 0 rfl) ?_
          refine sw_get (C := RX5) (T := TX5) (N := 10) (v := .ref (o0 + 1)) hx hb hts hw0 hown hK hz hs1 rfl 0 (by decide) hw3 (fun _ h9 => h9) rfl dX5_findNorm_53 ?_
          refine lv_aload_n hx hb dX5_findNorm_56 rfl (lv_at hl 0 rfl) ?_
          refine sw_get (C := RX5) (T := TX5) (N := 10) (v := .ref (o0 + 11)) hx hb hts hw0 hown hK hz hs1 rfl 3 (by decide) hw4 (fun _ h9 => h9) rfl dX5_findNorm_57 ?_
          refine lv_aload_n hx hb dX5_findNorm_60 rfl (lv_at hl 0 rfl) ?_
          refine sw_get (C := RX5) (T := TX5) (N := 10) (v := .ref (o0 + 11)) hx hb hts hw0 hown hK hz hs1 rfl 3 (by decide) hw4 (fun _ h9 => h9) rfl dX5_findNorm_61 ?_
          refine lv_aload_n hx hb dX5_findNorm_64 rfl (lv_at hl 0 rfl) ?_
          refine sw_get (C := RX5) (T := TX5) (N := 10) (v := .ref (o0 + 13)) hx hb hts hw0 hown hK hz hs1 rfl 4 (by decide) hw1 (fun _ h9 => h9) rfl dX5_findNorm_65 ?_
          refine lv_aload_n hx hb dX5_findNorm_68 rfl (lv_at hl 1 rfl) ?_
          obtain ⟨P15, hc16, hwp⟩ := hwp
          refine sw_callv hz (va_runV (As := [.ref (o0 + 11), .ref (o0 + 11), .ref (o0 + 13), .ref o1]) (rest := []) ⟨hx, hb, hml, hown, hts⟩ (hc16 hK _) (cwV 4 hts gX5_findNorm_X3_multiplyModulo rfl rfl rfl (by decide +kernel) ⟨Nat.le_of_ble_eq_true rfl, Nat.le_of_ble_eq_true rfl⟩) (hz.preV hK hs9 rfl) rfl rfl hl.1 rfl (lv_room (Nat.le_of_ble_eq_true rfl)) dX5_findNorm_69 ⟨Nat.le_of_ble_eq_true rfl, Nat.le_of_ble_eq_true rfl⟩) (fun I17 L18 A19 H locs hp hz => ?_)
          have hwp := hwp I17 L18 A19 hp
          obtain ⟨v20, q_v20⟩ : ∃ y : Int32, y = x4 + 1 := ⟨_, rfl⟩
          have hwp := hwp v20 q_v20
          refine lv_iinc (v := v20) (lv' := [(4, .int v20), (0, .ref o0), (1, .ref o1), (2, .int i2), (3, .int i3)]) hx hb dX5_findNorm_72 hl (k := 4) rfl (by rw [q_v20]; rfl) (by decide) rfl (fun ls hl => ?_)
          refine lv_goto (tgt := 12) hx hb dX5_findNorm_75 (by decide) ?_
          exact hC12 _ _ _ _ _ _ _ hwp hz (lv_sub hl [1, 2, 3, 4, 0] rfl)
    exact key μ I L A x4 H locs ls hi hz hl
  refine lv_aload_n hx hb dX5_findNorm_0 rfl (lv_at hl 0 rfl) ?_
  obtain ⟨hs21, hwp⟩ := hwp
  refine sw_get (C := RX5) (T := TX5) (N := 10) (v := .ref (o0 + 11)) hx hb hts hw0 hown hK hz hs21 rfl 3 (by decide) hw4 (fun _ h9 => h9) rfl dX5_findNorm_1 ?_
  refine lv_iload_n hx hb dX5_findNorm_4 rfl (lv_at hl 3 rfl) ?_
  refine lv_i2l hx hb dX5_findNorm_5 rfl ?_
  obtain ⟨hs22, hwp⟩ := hwp
  obtain ⟨P23, hc24, hwp⟩ := hwp
  refine sw_callv hz (va_runV (As := [.long (Int32.toInt64 i3)]) (rest := []) ⟨hx, hb, hml, hown, hts⟩ (hc24 hK _) (cwV 1 hts gX5_findNorm_X4_becomeLine rfl rfl rfl (by decide +kernel) ⟨Nat.le_of_ble_eq_true rfl, Nat.le_of_ble_eq_true rfl⟩) (hz.preV hK hs22 rfl) rfl rfl hl.1 rfl (lv_room (Nat.le_of_ble_eq_true rfl)) dX5_findNorm_6 ⟨Nat.le_of_ble_eq_true rfl, Nat.le_of_ble_eq_true rfl⟩) (fun I25 L26 A27 H locs hp hz => ?_)
  have hwp := hwp I25 L26 A27 hp
  refine lv_iconst (v := 1) hx hb dX5_findNorm_9 (by decide) ?_
  refine lv_istore (lv' := [(4, .int 1), (0, .ref o0), (1, .ref o1), (2, .int i2), (3, .int i3)]) hx hb dX5_findNorm_10 hl (by decide) rfl (fun ls hl => ?_)
  exact wL12 _ _ _ _ _ _ _ hwp hz (lv_sub hl [1, 2, 3, 4, 0] rfl)

def wp_X5_groupByDegrees_178 (K : Cx) (o0 : Nat) (I : TI) (L : TL) (A : TA) (Q : TI → TL → TA → Prop) : Prop := cxS K o0 = shX5 o0 ∧ cxS K (o0 + 9) = shX4 (o0 + 9) ∧ (((I (o0 + 9) 1) ≤ 0 → Q I L A) ∧ (¬ (I (o0 + 9) 1) ≤ 0 → aok (cxS K) (o0 + 26) 2 (I (o0 + 9) 1) ∧ cxS K (A (o0 + 26) (ix (I (o0 + 9) 1))) = shX4 (A (o0 + 26) (ix (I (o0 + 9) 1))) ∧ ∃ P5 : TI → TL → TA → Prop, ConV K yX4_become wsX4_become 1 40 I L A [.ref (A (o0 + 26) (ix (I (o0 + 9) 1))), .ref (o0 + 9)] P5 ∧ ∀ (I7 : TI) (L8 : TL) (A9 : TA), P5 I7 L8 A9 → Q I7 L8 A9))
def wp_X5_groupByDegrees_49 (K : Cx) (o0 : Nat) (I : TI) (L : TL) (A : TA) (x1 : Int32) (Q : TI → TL → TA → Prop) : Prop := ∃ (Inv : Nat → TI → TL → TA → Int32 → Prop) (μ : Nat), Inv μ I L A x1 ∧ ∀ (μ : Nat) (C49 : TI → TL → TA → Int32 → Prop), (∀ (μ' : Nat) (I : TI) (L : TL) (A : TA) (x1 : Int32) , μ' < μ → Inv μ' I L A x1 → C49 I L A x1) → ∀ (I : TI) (L : TL) (A : TA) (x1 : Int32) , Inv μ I L A x1 → ((3 < x1 → wp_X5_groupByDegrees_178 K o0 I L A Q) ∧ (¬ 3 < x1 → cxS K o0 = shX5 o0 ∧ cxS K (o0 + 9) = shX4 (o0 + 9) ∧ (((I (o0 + 9) 1) < (2 * x1) → wp_X5_groupByDegrees_178 K o0 I L A Q) ∧ (¬ (I (o0 + 9) 1) < (2 * x1) → ∃ P12 : TI → TL → TA → Prop, ConV K yX5_findConjugate wsX5_findConjugate 3 94 I L A [.ref o0, .int x1] P12 ∧ ∀ (I14 : TI) (L15 : TL) (A16 : TA), P12 I14 L15 A16 → aok (cxS K) (o0 + 17) 2 x1 ∧ cxS K (o0 + 13) = shX4 (o0 + 13) ∧ ∃ P19 : TI → TL → TA → Prop, ConV K yX4_become wsX4_become 1 40 I14 L15 A16 [.ref (o0 + 13), .ref (A16 (o0 + 17) (ix x1))] P19 ∧ ∀ (I21 : TI) (L22 : TL) (A23 : TA), P19 I21 L22 A23 → cxS K (o0 + 1) = shX3 (o0 + 1) ∧ ∃ P25 : TI → TL → TA → Prop, ConV K yX3_addAt wsX3_addAt 1 40 I21 L22 A23 [.ref (o0 + 1), .ref (o0 + 13), .int 1, .long (-1)] P25 ∧ ∀ (I27 : TI) (L28 : TL) (A29 : TA), P25 I27 L28 A29 → ∃ P30 : TI → TL → TA → Prop, ConV K yX3_findCommon wsX3_findCommon 3 65 I27 L28 A29 [.ref (o0 + 1), .ref (o0 + 15), .ref (o0 + 13), .ref (o0 + 9)] P30 ∧ ∀ (I32 : TI) (L33 : TL) (A34 : TA), P30 I32 L33 A34 → cxS K (o0 + 15) = shX4 (o0 + 15) ∧ (((I32 (o0 + 15) 1) ≤ 0 → ∀ v36 : Int32, v36 = x1 + 1 → C49 I32 L33 A34 v36) ∧ (¬ (I32 (o0 + 15) 1) ≤ 0 → aok (cxS K) (o0 + 26) 2 x1 ∧ cxS K (A34 (o0 + 26) (ix x1)) = shX4 (A34 (o0 + 26) (ix x1)) ∧ ∃ P39 : TI → TL → TA → Prop, ConV K yX4_become wsX4_become 1 40 I32 L33 A34 [.ref (A34 (o0 + 26) (ix x1)), .ref (o0 + 15)] P39 ∧ ∀ (I41 : TI) (L42 : TL) (A43 : TA), P39 I41 L42 A43 → ∃ P44 : TI → TL → TA → Prop, ConV K yX3_findQuotient wsX3_findQuotient 2 61 I41 L42 A43 [.ref (o0 + 1), .ref (o0 + 13), .ref (o0 + 9), .ref (o0 + 15)] P44 ∧ ∀ (I46 : TI) (L47 : TL) (A48 : TA), P44 I46 L47 A48 → ∃ P49 : TI → TL → TA → Prop, ConV K yX4_become wsX4_become 1 40 I46 L47 A48 [.ref (o0 + 9), .ref (o0 + 13)] P49 ∧ ∀ (I51 : TI) (L52 : TL) (A53 : TA), P49 I51 L52 A53 → ∀ v54 : Int32, v54 = x1 + 1 → C49 I51 L52 A53 v54))))))
def wp_X5_groupByDegrees_15 (K : Cx) (o0 : Nat) (I : TI) (L : TL) (A : TA) (x1 : Nat) (x2 : Int32) (x3 : Int32) (Q : TI → TL → TA → Prop) : Prop := ∃ (Inv : Nat → TI → TL → TA → Nat → Int32 → Int32 → Prop) (μ : Nat), Inv μ I L A x1 x2 x3 ∧ ∀ (μ : Nat) (C15 : TI → TL → TA → Nat → Int32 → Int32 → Prop), (∀ (μ' : Nat) (I : TI) (L : TL) (A : TA) (x1 : Nat) (x2 : Int32) (x3 : Int32) , μ' < μ → Inv μ' I L A x1 x2 x3 → C15 I L A x1 x2 x3) → ∀ (I : TI) (L : TL) (A : TA) (x1 : Nat) (x2 : Int32) (x3 : Int32) , Inv μ I L A x1 x2 x3 → ((x2 ≤ x3 → cxS K o0 = shX5 o0 ∧ cxS K (o0 + 9) = shX4 (o0 + 9) ∧ ∃ P57 : TI → TL → TA → Prop, ConV K yX4_become wsX4_become 1 40 I L A [.ref (o0 + 9), .ref (o0 + 7)] P57 ∧ ∀ (I59 : TI) (L60 : TL) (A61 : TA), P57 I59 L60 A61 → wp_X5_groupByDegrees_49 K o0 I59 L60 A61 1 Q) ∧ (¬ x2 ≤ x3 → aok (cxS K) x1 2 x3 ∧ cxS K (A x1 (ix x3)) = shX4 (A x1 (ix x3)) ∧ ∃ P64 : TI → TL → TA → Prop, ConV K yX4_clear wsX4_clear 0 0 I L A [.ref (A x1 (ix x3))] P64 ∧ ∀ (I66 : TI) (L67 : TL) (A68 : TA), P64 I66 L67 A68 → ∀ v69 : Int32, v69 = x3 + 1 → C15 I66 L67 A68 x1 x2 v69))
def wp_X5_groupByDegrees (K : Cx) (I : TI) (L : TL) (A : TA) (o0 : Nat) (Q : TI → TL → TA → Prop) : Prop := cxS K o0 = shX5 o0 ∧ ∀ I71 : TI, I71 = u2 I o0 9 0 → ∃ k72 n73 : Nat, ∃ v74 : Int32, (cxS K (o0 + 26) = .inr (k72, n73) ∧ k72 < 3 ∧ v74 = Int32.ofNat n73) ∧ wp_X5_groupByDegrees_15 K o0 I71 L A (o0 + 26) v74 0 Q
set_option maxHeartbeats 1000000 in
set_option maxRecDepth 100000 in
theorem w_X5_groupByDegrees (K : Cx) (I : TI) (L : TL) (A : TA) (o0 : Nat) (Q : TI → TL → TA → Prop) (hwp : wp_X5_groupByDegrees K I L A o0 Q) : ConV K yX5_groupByDegrees wsX5_groupByDegrees 4 115 I L A [.ref o0] Q := by
  intro hK sz
  refine Met.ofW (cc := cX5_groupByDegrees) (maxL := 5) (ret := none) (by decide) rfl ?_
  intro p e s m args below meth c s₁ B hml hv
  obtain ⟨rfl, hsz, hB⟩ := hv
  have hx := B.exec
  have hb := B.bytes
  have hret := B.returns
  have hts := atoms_spec (ws := wsX5_groupByDegrees) B.pre
  have hown : s.vm.findClass RX5 = some m.cls := findClass_of_methodNamed B.named
  have hlocks := B.notSynchronized
  subst hsz
  have hz : SS K s I L A s.heap [] := PS.start hB
  have hl := lv_entry ([.ref o0]) (n := 5) (Nat.le_of_ble_eq_true rfl)
  rw [lg_entry_eq]
  generalize (lg_sl ([.ref o0]) ++ List.replicate (5 - (lg_sl ([.ref o0])).length) Slot.unset).toArray = ls at hl ⊢
  have hl : lv_has ls 5 [(0, .ref o0)] := hl
  have hw0 : ∀ w ∈ u_ws RX5 TX5 10, w ∈ wsX5_groupByDegrees := by decide +kernel
  have hw1 := hts (.fieldLink RX5 25 "GaloisDesk$Splitter" "rest" "LGaloisDesk$Row;") (by decide +kernel)
  have hw2 : ∀ w ∈ u_ws RX4 TX4 2, w ∈ wsX5_groupByDegrees := by decide +kernel
  have hw3 := hts (.fieldLink RX5 63 "GaloisDesk$Row" "top" "I") (by decide +kernel)
  have hw4 := hts (.fieldLink RX5 45 "GaloisDesk$Splitter" "equal" "[LGaloisDesk$Row;") (by decide +kernel)
  have hw5 := hts (.fieldLink RX5 31 "GaloisDesk$Splitter" "helper" "LGaloisDesk$Row;") (by decide +kernel)
  have hw6 := hts (.fieldLink RX5 41 "GaloisDesk$Splitter" "conjugates" "[LGaloisDesk$Row;") (by decide +kernel)
  have hw7 := hts (.fieldLink RX5 12 "GaloisDesk$Splitter" "residues" "LGaloisDesk$Residues;") (by decide +kernel)
  have hw8 := hts (.constantLong RX5 87 (-1)) (by decide +kernel)
  have hw9 := hts (.fieldLink RX5 34 "GaloisDesk$Splitter" "found" "LGaloisDesk$Row;") (by decide +kernel)
  have hw10 := hts (.fieldLink RX5 21 "GaloisDesk$Splitter" "image" "LGaloisDesk$Row;") (by decide +kernel)
  have hw11 := hts (.fieldLink RX5 51 "GaloisDesk$Splitter" "pieceCount" "I") (by decide +kernel)
  clear hB B
  have wL178 : ∀ (I : TI) (L : TL) (A : TA) (H : Heap) (locs : List Loc) (ls : Array Slot), wp_X5_groupByDegrees_178 K o0 I L A Q → SS K s I L A H locs → lv_has ls 5 [(0, .ref o0)] → W p (cxl K) e (headSpec wsX5_groupByDegrees (rmF 4 115)).room s m ([.ref o0] : List Value).toArray below meth c H locs 0 0 (MQ below (cxQv K Q) ([.ref o0] : List Value).toArray s 0 0 (PA (cxb K))) (F0 m 178 ls []) := by
    intro I L A H locs ls hwp hz hl
    refine lv_aload_n hx hb dX5_groupByDegrees_178 rfl (lv_at hl 0 rfl) ?_
    obtain ⟨hs1, hwp⟩ := hwp
    refine sw_get (C := RX5) (T := TX5) (N := 10) (v := .ref (o0 + 9)) hx hb hts hw0 hown hK hz hs1 rfl 2 (by decide) hw1 (fun _ h9 => h9) rfl dX5_groupByDegrees_179 ?_
    obtain ⟨hs2, hwp⟩ := hwp
    refine sw_get (C := RX4) (T := TX4) (N := 2) (v := .int (I (o0 + 9) 1)) hx hb hts hw2 hown hK hz hs2 rfl 1 (by decide) hw3 (fun _ h9 => h9) rfl dX5_groupByDegrees_182 ?_
    refine lv_if_le (tgt := 207) hx hb dX5_groupByDegrees_185 (by decide) (fun q => ?_) (fun q => ?_)
    · have hwp := hwp.1 q
      exact sw_vret hx hb hret hlocks hz hwp dX5_groupByDegrees_207
    · have hwp := hwp.2 q
      refine lv_aload_n hx hb dX5_groupByDegrees_188 rfl (lv_at hl 0 rfl) ?_
      refine sw_get (C := RX5) (T := TX5) (N := 10) (v := .ref (o0 + 26)) hx hb hts hw0 hown hK hz hs1 rfl 7 (by decide) hw4 (fun _ h9 => h9) rfl dX5_groupByDegrees_189 ?_
      refine lv_aload_n hx hb dX5_groupByDegrees_192 rfl (lv_at hl 0 rfl) ?_
      refine sw_get (C := RX5) (T := TX5) (N := 10) (v := .ref (o0 + 9)) hx hb hts hw0 hown hK hz hs1 rfl 2 (by decide) hw1 (fun _ h9 => h9) rfl dX5_groupByDegrees_193 ?_
      refine sw_get (C := RX4) (T := TX4) (N := 2) (v := .int (I (o0 + 9) 1)) hx hb hts hw2 hown hK hz hs2 rfl 1 (by decide) hw3 (fun _ h9 => h9) rfl dX5_groupByDegrees_196 ?_
      obtain ⟨ho3, hwp⟩ := hwp
      refine sw_aald hx hb hK hz ho3 dX5_groupByDegrees_199 ?_
      refine lv_aload_n hx hb dX5_groupByDegrees_200 rfl (lv_at hl 0 rfl) ?_
      refine sw_get (C := RX5) (T := TX5) (N := 10) (v := .ref (o0 + 9)) hx hb hts hw0 hown hK hz hs1 rfl 2 (by decide) hw1 (fun _ h9 => h9) rfl dX5_groupByDegrees_201 ?_
      obtain ⟨hs4, hwp⟩ := hwp
      obtain ⟨P5, hc6, hwp⟩ := hwp
      refine sw_callv hz (va_runV (As := [.ref (o0 + 9)]) (rest := []) ⟨hx, hb, hml, hown, hts⟩ (hc6 hK _) (cwV 1 hts gX5_groupByDegrees_X4_become rfl rfl rfl (by decide +kernel) ⟨Nat.le_of_ble_eq_true rfl, Nat.le_of_ble_eq_true rfl⟩) (hz.preV hK hs4 rfl) rfl rfl hl.1 rfl (lv_room (Nat.le_of_ble_eq_true rfl)) dX5_groupByDegrees_204 ⟨Nat.le_of_ble_eq_true rfl, Nat.le_of_ble_eq_true rfl⟩) (fun I7 L8 A9 H locs hp hz => ?_)
      have hwp := hwp I7 L8 A9 hp
      exact sw_vret hx hb hret hlocks hz hwp dX5_groupByDegrees_207
  have wL49 : ∀ (I : TI) (L : TL) (A : TA) (x1 : Int32) (H : Heap) (locs : List Loc) (ls : Array Slot), wp_X5_groupByDegrees_49 K o0 I L A x1 Q → SS K s I L A H locs → lv_has ls 5 [(0, .ref o0), (1, .int x1)] → W p (cxl K) e (headSpec wsX5_groupByDegrees (rmF 4 115)).room s m ([.ref o0] : List Value).toArray below meth c H locs 0 0 (MQ below (cxQv K Q) ([.ref o0] : List Value).toArray s 0 0 (PA (cxb K))) (F0 m 49 ls []) := by
    intro I L A x1 H locs ls hwp hz hl
    obtain ⟨Inv, μ, hi, hst⟩ := hwp
    have key : ∀ (μ : Nat) (I : TI) (L : TL) (A : TA) (x1 : Int32) (H : Heap) (locs : List Loc) (ls : Array Slot), Inv μ I L A x1 → SS K s I L A H locs → lv_has ls 5 [(0, .ref o0), (1, .int x1)] → W p (cxl K) e (headSpec wsX5_groupByDegrees (rmF 4 115)).room s m ([.ref o0] : List Value).toArray below meth c H locs 0 0 (MQ below (cxQv K Q) ([.ref o0] : List Value).toArray s 0 0 (PA (cxb K))) (F0 m 49 ls []) := by
      clear hi hz hl
      intro μ
      induction μ using Nat.strongRecOn with | ind μ ih => ?_
      intro I L A x1 H locs ls hi hz hl
      obtain ⟨C49, hCd⟩ : ∃ C : TI → TL → TA → Int32 → Prop, C = fun I L A x1 => ∃ μ', μ' < μ ∧ Inv μ' I L A x1 := ⟨_, rfl⟩
      have hC49 : ∀ (I : TI) (L : TL) (A : TA) (x1 : Int32) (H : Heap) (locs : List Loc) (ls : Array Slot), C49 I L A x1 → SS K s I L A H locs → lv_has ls 5 [(0, .ref o0), (1, .int x1)] → W p (cxl K) e (headSpec wsX5_groupByDegrees (rmF 4 115)).room s m ([.ref o0] : List Value).toArray below meth c H locs 0 0 (MQ below (cxQv K Q) ([.ref o0] : List Value).toArray s 0 0 (PA (cxb K))) (F0 m 49 ls []) := by
        intro I L A x1 H locs ls hc hz hl
        rw [hCd] at hc
        obtain ⟨μ', hlt, hc⟩ := hc
        exact ih μ' hlt I L A x1 H locs ls hc hz hl
      have hwp := hst μ C49 (fun μ' I L A x1 hlt hc => by rw [hCd]; exact ⟨μ', hlt, hc⟩) I L A x1 hi
      refine lv_iload_n hx hb dX5_groupByDegrees_49 rfl (lv_at hl 1 rfl) ?_
      refine lv_iconst (v := 3) hx hb dX5_groupByDegrees_50 (by decide) ?_
      refine lv_icmp_gt (tgt := 178) hx hb dX5_groupByDegrees_51 (by decide) (fun q => ?_) (fun q => ?_)
      · have hwp := hwp.1 q
        exact wL178 _ _ _ _ _ _ hwp hz (lv_sub hl [0] rfl)
      · have hwp := hwp.2 q
        refine lv_iconst (v := 2) hx hb dX5_groupByDegrees_54 (by decide) ?_
        refine lv_iload_n hx hb dX5_groupByDegrees_55 rfl (lv_at hl 1 rfl) ?_
        refine lv_imul hx hb dX5_groupByDegrees_56 ?_
        refine lv_aload_n hx hb dX5_groupByDegrees_57 rfl (lv_at hl 0 rfl) ?_
        obtain ⟨hs10, hwp⟩ := hwp
        refine sw_get (C := RX5) (T := TX5) (N := 10) (v := .ref (o0 + 9)) hx hb hts hw0 hown hK hz hs10 rfl 2 (by decide) hw1 (fun _ h9 => h9) rfl dX5_groupByDegrees_58 ?_
        obtain ⟨hs11, hwp⟩ := hwp
        refine sw_get (C := RX4) (T := TX4) (N := 2) (v := .int (I (o0 + 9) 1)) hx hb hts hw2 hown hK hz hs11 rfl 1 (by decide) hw3 (fun _ h9 => h9) rfl dX5_groupByDegrees_61 ?_
        refine lv_icmp_gt (tgt := 178) hx hb dX5_groupByDegrees_64 (by decide) (fun q => ?_) (fun q => ?_)
        · have hwp := hwp.1 q
          exact wL178 _ _ _ _ _ _ hwp hz (lv_sub hl [0] rfl)
        · have hwp := hwp.2 q
          refine lv_aload_n hx hb dX5_groupByDegrees_67 rfl (lv_at hl 0 rfl) ?_
          refine lv_iload_n hx hb dX5_groupByDegrees_68 rfl (lv_at hl 1 rfl) ?_
          obtain ⟨P12, hc13, hwp⟩ := hwp
          refine sw_callv hz (va_runV (As := [.int x1]) (rest := []) ⟨hx, hb, hml, hown, hts⟩ (hc13 hK _) (cwV 1 hts gX5_groupByDegrees_X5_findConjugate rfl rfl rfl (by decide +kernel) ⟨Nat.le_of_ble_eq_true rfl, Nat.le_of_ble_eq_true rfl⟩) (hz.preV hK hs10 rfl) rfl rfl hl.1 rfl (lv_room (Nat.le_of_ble_eq_true rfl)) dX5_groupByDegrees_69 ⟨Nat.le_of_ble_eq_true rfl, Nat.le_of_ble_eq_true rfl⟩) (fun I14 L15 A16 H locs hp hz => ?_)
          have hwp := hwp I14 L15 A16 hp
          refine lv_aload_n hx hb dX5_groupByDegrees_72 rfl (lv_at hl 0 rfl) ?_
          refine sw_get (C := RX5) (T := TX5) (N := 10) (v := .ref (o0 + 13)) hx hb hts hw0 hown hK hz hs10 rfl 4 (by decide) hw5 (fun _ h9 => h9) rfl dX5_groupByDegrees_73 ?_
          refine lv_aload_n hx hb dX5_groupByDegrees_76 rfl (lv_at hl 0 rfl) ?_
          refine sw_get (C := RX5) (T := TX5) (N := 10) (v := .ref (o0 + 17)) hx hb hts hw0 hown hK hz hs10 rfl 6 (by decide) hw6 (fun _ h9 => h9) rfl dX5_groupByDegrees_77 ?_
          refine lv_iload_n hx hb dX5_groupByDegrees_80 rfl (lv_at hl 1 rfl) ?_
          obtain ⟨ho17, hwp⟩ := hwp
          refine sw_aald hx hb hK hz ho17 dX5_groupByDegrees_81 ?_
          obtain ⟨hs18, hwp⟩ := hwp
          obtain ⟨P19, hc20, hwp⟩ := hwp
          refine sw_callv hz (va_runV (As := [.ref (A16 (o0 + 17) (ix x1))]) (rest := []) ⟨hx, hb, hml, hown, hts⟩ (hc20 hK _) (cwV 1 hts gX5_groupByDegrees_X4_become rfl rfl rfl (by decide +kernel) ⟨Nat.le_of_ble_eq_true rfl, Nat.le_of_ble_eq_true rfl⟩) (hz.preV hK hs18 rfl) rfl rfl hl.1 rfl (lv_room (Nat.le_of_ble_eq_true rfl)) dX5_groupByDegrees_82 ⟨Nat.le_of_ble_eq_true rfl, Nat.le_of_ble_eq_true rfl⟩) (fun I21 L22 A23 H locs hp hz => ?_)
          have hwp := hwp I21 L22 A23 hp
          refine lv_aload_n hx hb dX5_groupByDegrees_85 rfl (lv_at hl 0 rfl) ?_
          refine sw_get (C := RX5) (T := TX5) (N := 10) (v := .ref (o0 + 1)) hx hb hts hw0 hown hK hz hs10 rfl 0 (by decide) hw7 (fun _ h9 => h9) rfl dX5_groupByDegrees_86 ?_
          refine lv_aload_n hx hb dX5_groupByDegrees_89 rfl (lv_at hl 0 rfl) ?_
          refine sw_get (C := RX5) (T := TX5) (N := 10) (v := .ref (o0 + 13)) hx hb hts hw0 hown hK hz hs10 rfl 4 (by decide) hw5 (fun _ h9 => h9) rfl dX5_groupByDegrees_90 ?_
          refine lv_iconst (v := 1) hx hb dX5_groupByDegrees_93 (by decide) ?_
          refine lv_ldc2 hx hb hown hw8 dX5_groupByDegrees_94 ?_
          obtain ⟨hs24, hwp⟩ := hwp
          obtain ⟨P25, hc26, hwp⟩ := hwp
          refine sw_callv hz (va_runV (As := [.ref (o0 + 13), .int 1, .long (-1)]) (rest := []) ⟨hx, hb, hml, hown, hts⟩ (hc26 hK _) (cwV 3 hts gX5_groupByDegrees_X3_addAt rfl rfl rfl (by decide +kernel) ⟨Nat.le_of_ble_eq_true rfl, Nat.le_of_ble_eq_true rfl⟩) (hz.preV hK hs24 rfl) rfl rfl hl.1 rfl (lv_room (Nat.le_of_ble_eq_true rfl)) dX5_groupByDegrees_97 ⟨Nat.le_of_ble_eq_true rfl, Nat.le_of_ble_eq_true rfl⟩) (fun I27 L28 A29 H locs hp hz => ?_)
          have hwp := hwp I27 L28 A29 hp
          refine lv_aload_n hx hb dX5_groupByDegrees_100 rfl (lv_at hl 0 rfl) ?_
          refine sw_get (C := RX5) (T := TX5) (N := 10) (v := .ref (o0 + 1)) hx hb hts hw0 hown hK hz hs10 rfl 0 (by decide) hw7 (fun _ h9 => h9) rfl dX5_groupByDegrees_101 ?_
          refine lv_aload_n hx hb dX5_groupByDegrees_104 rfl (lv_at hl 0 rfl) ?_
          refine sw_get (C := RX5) (T := TX5) (N := 10) (v := .ref (o0 + 15)) hx hb hts hw0 hown hK hz hs10 rfl 5 (by decide) hw9 (fun _ h9 => h9) rfl dX5_groupByDegrees_105 ?_
          refine lv_aload_n hx hb dX5_groupByDegrees_108 rfl (lv_at hl 0 rfl) ?_
          refine sw_get (C := RX5) (T := TX5) (N := 10) (v := .ref (o0 + 13)) hx hb hts hw0 hown hK hz hs10 rfl 4 (by decide) hw5 (fun _ h9 => h9) rfl dX5_groupByDegrees_109 ?_
          refine lv_aload_n hx hb dX5_groupByDegrees_112 rfl (lv_at hl 0 rfl) ?_
          refine sw_get (C := RX5) (T := TX5) (N := 10) (v := .ref (o0 + 9)) hx hb hts hw0 hown hK hz hs10 rfl 2 (by decide) hw1 (fun _ h9 => h9) rfl dX5_groupByDegrees_113 ?_
          obtain ⟨P30, hc31, hwp⟩ := hwp
          refine sw_callv hz (va_runV (As := [.ref (o0 + 15), .ref (o0 + 13), .ref (o0 + 9)]) (rest := []) ⟨hx, hb, hml, hown, hts⟩ (hc31 hK _) (cwV 3 hts gX5_groupByDegrees_X3_findCommon rfl rfl rfl (by decide +kernel) ⟨Nat.le_of_ble_eq_true rfl, Nat.le_of_ble_eq_true rfl⟩) (hz.preV hK hs24 rfl) rfl rfl hl.1 rfl (lv_room (Nat.le_of_ble_eq_true rfl)) dX5_groupByDegrees_116 ⟨Nat.le_of_ble_eq_true rfl, Nat.le_of_ble_eq_true rfl⟩) (fun I32 L33 A34 H locs hp hz => ?_)
          have hwp := hwp I32 L33 A34 hp
          refine lv_aload_n hx hb dX5_groupByDegrees_119 rfl (lv_at hl 0 rfl) ?_
          refine sw_get (C := RX5) (T := TX5) (N := 10) (v := .ref (o0 + 15)) hx hb hts hw0 hown hK hz hs10 rfl 5 (by decide) hw9 (fun _ h9 => h9) rfl dX5_groupByDegrees_120 ?_
          obtain ⟨hs35, hwp⟩ := hwp
          refine sw_get (C := RX4) (T := TX4) (N := 2) (v := .int (I32 (o0 + 15) 1)) hx hb hts hw2 hown hK hz hs35 rfl 1 (by decide) hw3 (fun _ h9 => h9) rfl dX5_groupByDegrees_123 ?_
          refine lv_if_le (tgt := 172) hx hb dX5_groupByDegrees_126 (by decide) (fun q => ?_) (fun q => ?_)
          · have hwp := hwp.1 q
            obtain ⟨v36, q_v36⟩ : ∃ y : Int32, y = x1 + 1 := ⟨_, rfl⟩
            have hwp := hwp v36 q_v36
            refine lv_iinc (v := v36) (lv' := [(1, .int v36), (0, .ref o0)]) hx hb dX5_groupByDegrees_172 hl (k := 1) rfl (by rw [q_v36]; rfl) (by decide) rfl (fun ls hl => ?_)
            refine lv_goto (tgt := 49) hx hb dX5_groupByDegrees_175 (by decide) ?_
            exact hC49 _ _ _ _ _ _ _ hwp hz (lv_sub hl [1, 0] rfl)
          · have hwp := hwp.2 q
            refine lv_aload_n hx hb dX5_groupByDegrees_129 rfl (lv_at hl 0 rfl) ?_
            refine sw_get (C := RX5) (T := TX5) (N := 10) (v := .ref (o0 + 26)) hx hb hts hw0 hown hK hz hs10 rfl 7 (by decide) hw4 (fun _ h9 => h9) rfl dX5_groupByDegrees_130 ?_
            refine lv_iload_n hx hb dX5_groupByDegrees_133 rfl (lv_at hl 1 rfl) ?_
            obtain ⟨ho37, hwp⟩ := hwp
            refine sw_aald hx hb hK hz ho37 dX5_groupByDegrees_134 ?_
            refine lv_aload_n hx hb dX5_groupByDegrees_135 rfl (lv_at hl 0 rfl) ?_
            refine sw_get (C := RX5) (T := TX5) (N := 10) (v := .ref (o0 + 15)) hx hb hts hw0 hown hK hz hs10 rfl 5 (by decide) hw9 (fun _ h9 => h9) rfl dX5_groupByDegrees_136 ?_
            obtain ⟨hs38, hwp⟩ := hwp
            obtain ⟨P39, hc40, hwp⟩ := hwp
            refine sw_callv hz (va_runV (As := [.ref (o0 + 15)]) (rest := []) ⟨hx, hb, hml, hown, hts⟩ (hc40 hK _) (cwV 1 hts gX5_groupByDegrees_X4_become rfl rfl rfl (by decide +kernel) ⟨Nat.le_of_ble_eq_true rfl, Nat.le_of_ble_eq_true rfl⟩) (hz.preV hK hs38 rfl) rfl rfl hl.1 rfl (lv_room (Nat.le_of_ble_eq_true rfl)) dX5_groupByDegrees_139 ⟨Nat.le_of_ble_eq_true rfl, Nat.le_of_ble_eq_true rfl⟩) (fun I41 L42 A43 H locs hp hz => ?_)
            have hwp := hwp I41 L42 A43 hp
            refine lv_aload_n hx hb dX5_groupByDegrees_142 rfl (lv_at hl 0 rfl) ?_
            refine sw_get (C := RX5) (T := TX5) (N := 10) (v := .ref (o0 + 1)) hx hb hts hw0 hown hK hz hs10 rfl 0 (by decide) hw7 (fun _ h9 => h9) rfl dX5_groupByDegrees_143 ?_
            refine lv_aload_n hx hb dX5_groupByDegrees_146 rfl (lv_at hl 0 rfl) ?_
            refine sw_get (C := RX5) (T := TX5) (N := 10) (v := .ref (o0 + 13)) hx hb hts hw0 hown hK hz hs10 rfl 4 (by decide) hw5 (fun _ h9 => h9) rfl dX5_groupByDegrees_147 ?_
            refine lv_aload_n hx hb dX5_groupByDegrees_150 rfl (lv_at hl 0 rfl) ?_
            refine sw_get (C := RX5) (T := TX5) (N := 10) (v := .ref (o0 + 9)) hx hb hts hw0 hown hK hz hs10 rfl 2 (by decide) hw1 (fun _ h9 => h9) rfl dX5_groupByDegrees_151 ?_
            refine lv_aload_n hx hb dX5_groupByDegrees_154 rfl (lv_at hl 0 rfl) ?_
            refine sw_get (C := RX5) (T := TX5) (N := 10) (v := .ref (o0 + 15)) hx hb hts hw0 hown hK hz hs10 rfl 5 (by decide) hw9 (fun _ h9 => h9) rfl dX5_groupByDegrees_155 ?_
            obtain ⟨P44, hc45, hwp⟩ := hwp
            refine sw_callv hz (va_runV (As := [.ref (o0 + 13), .ref (o0 + 9), .ref (o0 + 15)]) (rest := []) ⟨hx, hb, hml, hown, hts⟩ (hc45 hK _) (cwV 3 hts gX5_groupByDegrees_X3_findQuotient rfl rfl rfl (by decide +kernel) ⟨Nat.le_of_ble_eq_true rfl, Nat.le_of_ble_eq_true rfl⟩) (hz.preV hK hs24 rfl) rfl rfl hl.1 rfl (lv_room (Nat.le_of_ble_eq_true rfl)) dX5_groupByDegrees_158 ⟨Nat.le_of_ble_eq_true rfl, Nat.le_of_ble_eq_true rfl⟩) (fun I46 L47 A48 H locs hp hz => ?_)
            have hwp := hwp I46 L47 A48 hp
            refine lv_aload_n hx hb dX5_groupByDegrees_161 rfl (lv_at hl 0 rfl) ?_
            refine sw_get (C := RX5) (T := TX5) (N := 10) (v := .ref (o0 + 9)) hx hb hts hw0 hown hK hz hs10 rfl 2 (by decide) hw1 (fun _ h9 => h9) rfl dX5_groupByDegrees_162 ?_
            refine lv_aload_n hx hb dX5_groupByDegrees_165 rfl (lv_at hl 0 rfl) ?_
            refine sw_get (C := RX5) (T := TX5) (N := 10) (v := .ref (o0 + 13)) hx hb hts hw0 hown hK hz hs10 rfl 4 (by decide) hw5 (fun _ h9 => h9) rfl dX5_groupByDegrees_166 ?_
            obtain ⟨P49, hc50, hwp⟩ := hwp
            refine sw_callv hz (va_runV (As := [.ref (o0 + 13)]) (rest := []) ⟨hx, hb, hml, hown, hts⟩ (hc50 hK _) (cwV 1 hts gX5_groupByDegrees_X4_become rfl rfl rfl (by decide +kernel) ⟨Nat.le_of_ble_eq_true rfl, Nat.le_of_ble_eq_true rfl⟩) (hz.preV hK hs11 rfl) rfl rfl hl.1 rfl (lv_room (Nat.le_of_ble_eq_true rfl)) dX5_groupByDegrees_169 ⟨Nat.le_of_ble_eq_true rfl, Nat.le_of_ble_eq_true rfl⟩) (fun I51 L52 A53 H locs hp hz => ?_)
            have hwp := hwp I51 L52 A53 hp
            obtain ⟨v54, q_v54⟩ : ∃ y : Int32, y = x1 + 1 := ⟨_, rfl⟩
            have hwp := hwp v54 q_v54
            refine lv_iinc (v := v54) (lv' := [(1, .int v54), (0, .ref o0)]) hx hb dX5_groupByDegrees_172 hl (k := 1) rfl (by rw [q_v54]; rfl) (by decide) rfl (fun ls hl => ?_)
            refine lv_goto (tgt := 49) hx hb dX5_groupByDegrees_175 (by decide) ?_
            exact hC49 _ _ _ _ _ _ _ hwp hz (lv_sub hl [1, 0] rfl)
    exact key μ I L A x1 H locs ls hi hz hl
  have wL15 : ∀ (I : TI) (L : TL) (A : TA) (x1 : Nat) (x2 : Int32) (x3 : Int32) (H : Heap) (locs : List Loc) (ls : Array Slot), wp_X5_groupByDegrees_15 K o0 I L A x1 x2 x3 Q → SS K s I L A H locs → lv_has ls 5 [(0, .ref o0), (1, .ref x1), (2, .int x2), (3, .int x3)] → W p (cxl K) e (headSpec wsX5_groupByDegrees (rmF 4 115)).room s m ([.ref o0] : List Value).toArray below meth c H locs 0 0 (MQ below (cxQv K Q) ([.ref o0] : List Value).toArray s 0 0 (PA (cxb K))) (F0 m 15 ls []) := by
    intro I L A x1 x2 x3 H locs ls hwp hz hl
    obtain ⟨Inv, μ, hi, hst⟩ := hwp
    have key : ∀ (μ : Nat) (I : TI) (L : TL) (A : TA) (x1 : Nat) (x2 : Int32) (x3 : Int32) (H : Heap) (locs : List Loc) (ls : Array Slot), Inv μ I L A x1 x2 x3 → SS K s I L A H locs → lv_has ls 5 [(0, .ref o0), (1, .ref x1), (2, .int x2), (3, .int x3)] → W p (cxl K) e (headSpec wsX5_groupByDegrees (rmF 4 115)).room s m ([.ref o0] : List Value).toArray below meth c H locs 0 0 (MQ below (cxQv K Q) ([.ref o0] : List Value).toArray s 0 0 (PA (cxb K))) (F0 m 15 ls []) := by
      clear hi hz hl
      intro μ
      induction μ using Nat.strongRecOn with | ind μ ih => ?_
      intro I L A x1 x2 x3 H locs ls hi hz hl
      obtain ⟨C15, hCd⟩ : ∃ C : TI → TL → TA → Nat → Int32 → Int32 → Prop, C = fun I L A x1 x2 x3 => ∃ μ', μ' < μ ∧ Inv μ' I L A x1 x2 x3 := ⟨_, rfl⟩
      have hC15 : ∀ (I : TI) (L : TL) (A : TA) (x1 : Nat) (x2 : Int32) (x3 : Int32) (H : Heap) (locs : List Loc) (ls : Array Slot), C15 I L A x1 x2 x3 → SS K s I L A H locs → lv_has ls 5 [(0, .ref o0), (1, .ref x1), (2, .int x2), (3, .int x3)] → W p (cxl K) e (headSpec wsX5_groupByDegrees (rmF 4 115)).room s m ([.ref o0] : List Value).toArray below meth c H locs 0 0 (MQ below (cxQv K Q) ([.ref o0] : List Value).toArray s 0 0 (PA (cxb K))) (F0 m 15 ls []) := by
        intro I L A x1 x2 x3 H locs ls hc hz hl
        rw [hCd] at hc
        obtain ⟨μ', hlt, hc⟩ := hc
        exact ih μ' hlt I L A x1 x2 x3 H locs ls hc hz hl
      have hwp := hst μ C15 (fun μ' I L A x1 x2 x3 hlt hc => by rw [hCd]; exact ⟨μ', hlt, hc⟩) I L A x1 x2 x3 hi
      refine lv_iload_n hx hb dX5_groupByDegrees_15 rfl (lv_at hl 3 rfl) ?_
      refine lv_iload_n hx hb dX5_groupByDegrees_16 rfl (lv_at hl 2 rfl) ?_
      refine lv_icmp_ge (tgt := 36) hx hb dX5_groupByDegrees_17 (by decide) (fun q => ?_) (fun q => ?_)
      · have hwp := hwp.1 q
        refine lv_aload_n hx hb dX5_groupByDegrees_36 rfl (lv_at hl 0 rfl) ?_
        obtain ⟨hs55, hwp⟩ := hwp
        refine sw_get (C := RX5) (T := TX5) (N := 10) (v := .ref (o0 + 9)) hx hb hts hw0 hown hK hz hs55 rfl 2 (by decide) hw1 (fun _ h9 => h9) rfl dX5_groupByDegrees_37 ?_
        refine lv_aload_n hx hb dX5_groupByDegrees_40 rfl (lv_at hl 0 rfl) ?_
        refine sw_get (C := RX5) (T := TX5) (N := 10) (v := .ref (o0 + 7)) hx hb hts hw0 hown hK hz hs55 rfl 1 (by decide) hw10 (fun _ h9 => h9) rfl dX5_groupByDegrees_41 ?_
        obtain ⟨hs56, hwp⟩ := hwp
        obtain ⟨P57, hc58, hwp⟩ := hwp
        refine sw_callv hz (va_runV (As := [.ref (o0 + 7)]) (rest := []) ⟨hx, hb, hml, hown, hts⟩ (hc58 hK _) (cwV 1 hts gX5_groupByDegrees_X4_become rfl rfl rfl (by decide +kernel) ⟨Nat.le_of_ble_eq_true rfl, Nat.le_of_ble_eq_true rfl⟩) (hz.preV hK hs56 rfl) rfl rfl hl.1 rfl (lv_room (Nat.le_of_ble_eq_true rfl)) dX5_groupByDegrees_44 ⟨Nat.le_of_ble_eq_true rfl, Nat.le_of_ble_eq_true rfl⟩) (fun I59 L60 A61 H locs hp hz => ?_)
        have hwp := hwp I59 L60 A61 hp
        refine lv_iconst (v := 1) hx hb dX5_groupByDegrees_47 (by decide) ?_
        refine lv_istore_n (lv' := [(1, .int 1), (0, .ref o0), (2, .int x2), (3, .int x3)]) hx hb dX5_groupByDegrees_48 rfl hl (by decide) rfl (fun ls hl => ?_)
        exact wL49 _ _ _ _ _ _ _ hwp hz (lv_sub hl [1, 0] rfl)
      · have hwp := hwp.2 q
        refine lv_aload_n hx hb dX5_groupByDegrees_20 rfl (lv_at hl 1 rfl) ?_
        refine lv_iload_n hx hb dX5_groupByDegrees_21 rfl (lv_at hl 3 rfl) ?_
        obtain ⟨ho62, hwp⟩ := hwp
        refine sw_aald hx hb hK hz ho62 dX5_groupByDegrees_22 ?_
        refine lv_astore (lv' := [(4, .ref (A x1 (ix x3))), (0, .ref o0), (1, .ref x1), (2, .int x2), (3, .int x3)]) hx hb dX5_groupByDegrees_23 hl (by decide) rfl (fun ls hl => ?_)
        refine lv_aload hx hb dX5_groupByDegrees_25 (lv_at hl 0 rfl) ?_
        obtain ⟨hs63, hwp⟩ := hwp
        obtain ⟨P64, hc65, hwp⟩ := hwp
        refine sw_callv hz (va_runV (As := []) (rest := []) ⟨hx, hb, hml, hown, hts⟩ (hc65 hK _) (cwV 0 hts gX5_groupByDegrees_X4_clear rfl rfl rfl (by decide +kernel) ⟨Nat.le_of_ble_eq_true rfl, Nat.le_of_ble_eq_true rfl⟩) (hz.preV hK hs63 rfl) rfl rfl hl.1 rfl (lv_room (Nat.le_of_ble_eq_true rfl)) dX5_groupByDegrees_27 ⟨Nat.le_of_ble_eq_true rfl, Nat.le_of_ble_eq_true rfl⟩) (fun I66 L67 A68 H locs hp hz => ?_)
        have hwp := hwp I66 L67 A68 hp
        obtain ⟨v69, q_v69⟩ : ∃ y : Int32, y = x3 + 1 := ⟨_, rfl⟩
        have hwp := hwp v69 q_v69
        refine lv_iinc (v := v69) (lv' := [(3, .int v69), (4, .ref (A x1 (ix x3))), (0, .ref o0), (1, .ref x1), (2, .int x2)]) hx hb dX5_groupByDegrees_30 hl (k := 4) rfl (by rw [q_v69]; rfl) (by decide) rfl (fun ls hl => ?_)
        refine lv_goto (tgt := 15) hx hb dX5_groupByDegrees_33 (by decide) ?_
        exact hC15 _ _ _ _ _ _ _ _ _ hwp hz (lv_sub hl [2, 3, 4, 0] rfl)
    exact key μ I L A x1 x2 x3 H locs ls hi hz hl
  refine lv_aload_n hx hb dX5_groupByDegrees_0 rfl (lv_at hl 0 rfl) ?_
  refine lv_iconst (v := 0) hx hb dX5_groupByDegrees_1 (by decide) ?_
  obtain ⟨hs70, hwp⟩ := hwp
  refine sw_putI (C := RX5) (T := TX5) (N := 10) hx hb hts hw0 tyX5 tyX5_ok nmX5 hown hK hz hs70 rfl 9 (by decide) hw11 (fun _ h9 => h9) rfl (by decide +kernel) rfl dX5_groupByDegrees_2 (fun H locs I71 e_I71 hz => ?_)
  have hwp := hwp I71 e_I71
  refine lv_aload_n hx hb dX5_groupByDegrees_5 rfl (lv_at hl 0 rfl) ?_
  refine sw_get (C := RX5) (T := TX5) (N := 10) (v := .ref (o0 + 26)) hx hb hts hw0 hown hK hz hs70 rfl 7 (by decide) hw4 (fun _ h9 => h9) rfl dX5_groupByDegrees_6 ?_
  refine lv_astore_n (lv' := [(1, .ref (o0 + 26)), (0, .ref o0)]) hx hb dX5_groupByDegrees_9 rfl hl (by decide) rfl (fun ls hl => ?_)
  refine lv_aload_n hx hb dX5_groupByDegrees_10 rfl (lv_at hl 0 rfl) ?_
  obtain ⟨k72, n73, v74, ho75, hwp⟩ := hwp
  refine sw_alen hx hb hK hz ho75 dX5_groupByDegrees_11 ?_
  refine lv_istore_n (lv' := [(2, .int v74), (1, .ref (o0 + 26)), (0, .ref o0)]) hx hb dX5_groupByDegrees_12 rfl hl (by decide) rfl (fun ls hl => ?_)
  refine lv_iconst (v := 0) hx hb dX5_groupByDegrees_13 (by decide) ?_
  refine lv_istore_n (lv' := [(3, .int 0), (2, .int v74), (1, .ref (o0 + 26)), (0, .ref o0)]) hx hb dX5_groupByDegrees_14 rfl hl (by decide) rfl (fun ls hl => ?_)
  exact wL15 _ _ _ _ _ _ _ _ _ hwp hz (lv_sub hl [3, 2, 1, 0] rfl)

def wp_X5_load (K : Cx) (I : TI) (L : TL) (A : TA) (o0 : Nat) (o1 : Nat) (j2 : Int64) (Q : Int32 → TI → TL → TA → Prop) : Prop := cxS K o0 = shX5 o0 ∧ cxS K (o0 + 1) = shX3 (o0 + 1) ∧ ∃ P3 : TI → TL → TA → Prop, ConV K yX3_useModulus wsX3_useModulus 0 0 I L A [.ref (o0 + 1), .long j2] P3 ∧ ∀ (I5 : TI) (L6 : TL) (A7 : TA), P3 I5 L6 A7 → ∃ P8 : TI → TL → TA → Prop, ConV K yX3_reduce wsX3_reduce 1 40 I5 L6 A7 [.ref (o0 + 1), .ref (o0 + 7), .ref o1] P8 ∧ ∀ (I10 : TI) (L11 : TL) (A12 : TA), P8 I10 L11 A12 → cxS K (o0 + 7) = shX4 (o0 + 7) ∧ cxS K o1 = shX4 o1 ∧ (((I10 (o0 + 7) 1) = (I10 o1 1) → ((1 ≤ (I10 (o0 + 7) 1) → ∃ P15 : TI → TL → TA → Prop, ConV K yX3_makeMonic wsX3_makeMonic 2 41 I10 L11 A12 [.ref (o0 + 1), .ref (o0 + 7)] P15 ∧ ∀ (I17 : TI) (L18 : TL) (A19 : TA), P15 I17 L18 A19 → cxS K (o0 + 13) = shX4 (o0 + 13) ∧ ∃ P21 : TI → TL → TA → Prop, ConV K yX4_becomeSlope wsX4_becomeSlope 1 21 I17 L18 A19 [.ref (o0 + 13), .ref (o0 + 7)] P21 ∧ ∀ (I23 : TI) (L24 : TL) (A25 : TA), P21 I23 L24 A25 → ∃ P26 : TI → TL → TA → Prop, ConV K yX3_reduce wsX3_reduce 1 40 I23 L24 A25 [.ref (o0 + 1), .ref (o0 + 9), .ref (o0 + 13)] P26 ∧ ∀ (I28 : TI) (L29 : TL) (A30 : TA), P26 I28 L29 A30 → ∃ P31 : TI → TL → TA → Prop, ConV K yX3_findCommon wsX3_findCommon 3 65 I28 L29 A30 [.ref (o0 + 1), .ref (o0 + 15), .ref (o0 + 7), .ref (o0 + 9)] P31 ∧ ∀ (I33 : TI) (L34 : TL) (A35 : TA), P31 I33 L34 A35 → cxS K (o0 + 15) = shX4 (o0 + 15) ∧ (((I33 (o0 + 15) 1) = 0 → Q 1 I33 L34 A35) ∧ (¬ (I33 (o0 + 15) 1) = 0 → Q 0 I33 L34 A35))) ∧ (¬ 1 ≤ (I10 (o0 + 7) 1) → Q 0 I10 L11 A12))) ∧ (¬ (I10 (o0 + 7) 1) = (I10 o1 1) → Q 0 I10 L11 A12))
set_option maxHeartbeats 1000000 in
set_option maxRecDepth 100000 in
theorem w_X5_load (K : Cx) (I : TI) (L : TL) (A : TA) (o0 : Nat) (o1 : Nat) (j2 : Int64) (Q : Int32 → TI → TL → TA → Prop) (hwp : wp_X5_load K I L A o0 o1 j2 Q) : ConI K yX5_load wsX5_load 4 92 I L A [.ref o0, .ref o1, .long j2] Q := by
  intro hK sz
  refine Met.ofW (cc := cX5_load) (maxL := 4) (ret := (some .boolean)) (by decide) rfl ?_
  intro p e s m args below meth c s₁ B hml hv
  obtain ⟨rfl, hsz, hB⟩ := hv
  have hx := B.exec
  have hb := B.bytes
  have hret := B.returns
  have hts := atoms_spec (ws := wsX5_load) B.pre
  have hown : s.vm.findClass RX5 = some m.cls := findClass_of_methodNamed B.named
  have hlocks := B.notSynchronized
  subst hsz
  have hz : SS K s I L A s.heap [] := PS.start hB
  have hl := lv_entry ([.ref o0, .ref o1, .long j2]) (n := 4) (Nat.le_of_ble_eq_true rfl)
  rw [lg_entry_eq]
  generalize (lg_sl ([.ref o0, .ref o1, .long j2]) ++ List.replicate (4 - (lg_sl ([.ref o0, .ref o1, .long j2])).length) Slot.unset).toArray = ls at hl ⊢
  have hl : lv_has ls 4 [(0, .ref o0), (1, .ref o1), (2, .long j2)] := hl
  have hw0 : ∀ w ∈ u_ws RX5 TX5 10, w ∈ wsX5_load := by decide +kernel
  have hw1 := hts (.fieldLink RX5 12 "GaloisDesk$Splitter" "residues" "LGaloisDesk$Residues;") (by decide +kernel)
  have hw2 := hts (.fieldLink RX5 21 "GaloisDesk$Splitter" "image" "LGaloisDesk$Row;") (by decide +kernel)
  have hw3 : ∀ w ∈ u_ws RX4 TX4 2, w ∈ wsX5_load := by decide +kernel
  have hw4 := hts (.fieldLink RX5 63 "GaloisDesk$Row" "top" "I") (by decide +kernel)
  have hw5 := hts (.fieldLink RX5 31 "GaloisDesk$Splitter" "helper" "LGaloisDesk$Row;") (by decide +kernel)
  have hw6 := hts (.fieldLink RX5 25 "GaloisDesk$Splitter" "rest" "LGaloisDesk$Row;") (by decide +kernel)
  have hw7 := hts (.fieldLink RX5 34 "GaloisDesk$Splitter" "found" "LGaloisDesk$Row;") (by decide +kernel)
  clear hB B
  refine lv_aload_n hx hb dX5_load_0 rfl (lv_at hl 0 rfl) ?_
  obtain ⟨hs1, hwp⟩ := hwp
  refine sw_get (C := RX5) (T := TX5) (N := 10) (v := .ref (o0 + 1)) hx hb hts hw0 hown hK hz hs1 rfl 0 (by decide) hw1 (fun _ h9 => h9) rfl dX5_load_1 ?_
  refine lv_lload_n hx hb dX5_load_4 rfl (lv_at hl 2 rfl) ?_
  obtain ⟨hs2, hwp⟩ := hwp
  obtain ⟨P3, hc4, hwp⟩ := hwp
  refine sw_callv hz (va_runV (As := [.long j2]) (rest := []) ⟨hx, hb, hml, hown, hts⟩ (hc4 hK _) (cwV 1 hts gX5_load_X3_useModulus rfl rfl rfl (by decide +kernel) ⟨Nat.le_of_ble_eq_true rfl, Nat.le_of_ble_eq_true rfl⟩) (hz.preV hK hs2 rfl) rfl rfl hl.1 rfl (lv_room (Nat.le_of_ble_eq_true rfl)) dX5_load_5 ⟨Nat.le_of_ble_eq_true rfl, Nat.le_of_ble_eq_true rfl⟩) (fun I5 L6 A7 H locs hp hz => ?_)
  have hwp := hwp I5 L6 A7 hp
  refine lv_aload_n hx hb dX5_load_8 rfl (lv_at hl 0 rfl) ?_
  refine sw_get (C := RX5) (T := TX5) (N := 10) (v := .ref (o0 + 1)) hx hb hts hw0 hown hK hz hs1 rfl 0 (by decide) hw1 (fun _ h9 => h9) rfl dX5_load_9 ?_
  refine lv_aload_n hx hb dX5_load_12 rfl (lv_at hl 0 rfl) ?_
  refine sw_get (C := RX5) (T := TX5) (N := 10) (v := .ref (o0 + 7)) hx hb hts hw0 hown hK hz hs1 rfl 1 (by decide) hw2 (fun _ h9 => h9) rfl dX5_load_13 ?_
  refine lv_aload_n hx hb dX5_load_16 rfl (lv_at hl 1 rfl) ?_
  obtain ⟨P8, hc9, hwp⟩ := hwp
  refine sw_callv hz (va_runV (As := [.ref (o0 + 7), .ref o1]) (rest := []) ⟨hx, hb, hml, hown, hts⟩ (hc9 hK _) (cwV 2 hts gX5_load_X3_reduce rfl rfl rfl (by decide +kernel) ⟨Nat.le_of_ble_eq_true rfl, Nat.le_of_ble_eq_true rfl⟩) (hz.preV hK hs2 rfl) rfl rfl hl.1 rfl (lv_room (Nat.le_of_ble_eq_true rfl)) dX5_load_17 ⟨Nat.le_of_ble_eq_true rfl, Nat.le_of_ble_eq_true rfl⟩) (fun I10 L11 A12 H locs hp hz => ?_)
  have hwp := hwp I10 L11 A12 hp
  refine lv_aload_n hx hb dX5_load_20 rfl (lv_at hl 0 rfl) ?_
  refine sw_get (C := RX5) (T := TX5) (N := 10) (v := .ref (o0 + 7)) hx hb hts hw0 hown hK hz hs1 rfl 1 (by decide) hw2 (fun _ h9 => h9) rfl dX5_load_21 ?_
  obtain ⟨hs13, hwp⟩ := hwp
  refine sw_get (C := RX4) (T := TX4) (N := 2) (v := .int (I10 (o0 + 7) 1)) hx hb hts hw3 hown hK hz hs13 rfl 1 (by decide) hw4 (fun _ h9 => h9) rfl dX5_load_24 ?_
  refine lv_aload_n hx hb dX5_load_27 rfl (lv_at hl 1 rfl) ?_
  obtain ⟨hs14, hwp⟩ := hwp
  refine sw_get (C := RX4) (T := TX4) (N := 2) (v := .int (I10 o1 1)) hx hb hts hw3 hown hK hz hs14 rfl 1 (by decide) hw4 (fun _ h9 => h9) rfl dX5_load_28 ?_
  refine lv_icmp_ne (tgt := 45) hx hb dX5_load_31 (by decide) (fun q => ?_) (fun q => ?_)
  · have hwp := hwp.2 q
    refine lv_iconst (v := 0) hx hb dX5_load_45 (by decide) ?_
    exact sw_zret hx hb hret hlocks hz (Or.inl rfl) hwp dX5_load_46
  · have hwp := hwp.1 q
    refine lv_aload_n hx hb dX5_load_34 rfl (lv_at hl 0 rfl) ?_
    refine sw_get (C := RX5) (T := TX5) (N := 10) (v := .ref (o0 + 7)) hx hb hts hw0 hown hK hz hs1 rfl 1 (by decide) hw2 (fun _ h9 => h9) rfl dX5_load_35 ?_
    refine sw_get (C := RX4) (T := TX4) (N := 2) (v := .int (I10 (o0 + 7) 1)) hx hb hts hw3 hown hK hz hs13 rfl 1 (by decide) hw4 (fun _ h9 => h9) rfl dX5_load_38 ?_
    refine lv_iconst (v := 1) hx hb dX5_load_41 (by decide) ?_
    refine lv_icmp_ge (tgt := 47) hx hb dX5_load_42 (by decide) (fun q => ?_) (fun q => ?_)
    · have hwp := hwp.1 q
      refine lv_aload_n hx hb dX5_load_47 rfl (lv_at hl 0 rfl) ?_
      refine sw_get (C := RX5) (T := TX5) (N := 10) (v := .ref (o0 + 1)) hx hb hts hw0 hown hK hz hs1 rfl 0 (by decide) hw1 (fun _ h9 => h9) rfl dX5_load_48 ?_
      refine lv_aload_n hx hb dX5_load_51 rfl (lv_at hl 0 rfl) ?_
      refine sw_get (C := RX5) (T := TX5) (N := 10) (v := .ref (o0 + 7)) hx hb hts hw0 hown hK hz hs1 rfl 1 (by decide) hw2 (fun _ h9 => h9) rfl dX5_load_52 ?_
      obtain ⟨P15, hc16, hwp⟩ := hwp
      refine sw_callv hz (va_runV (As := [.ref (o0 + 7)]) (rest := []) ⟨hx, hb, hml, hown, hts⟩ (hc16 hK _) (cwV 1 hts gX5_load_X3_makeMonic rfl rfl rfl (by decide +kernel) ⟨Nat.le_of_ble_eq_true rfl, Nat.le_of_ble_eq_true rfl⟩) (hz.preV hK hs2 rfl) rfl rfl hl.1 rfl (lv_room (Nat.le_of_ble_eq_true rfl)) dX5_load_55 ⟨Nat.le_of_ble_eq_true rfl, Nat.le_of_ble_eq_true rfl⟩) (fun I17 L18 A19 H locs hp hz => ?_)
      have hwp := hwp I17 L18 A19 hp
      refine lv_aload_n hx hb dX5_load_58 rfl (lv_at hl 0 rfl) ?_
      refine sw_get (C := RX5) (T := TX5) (N := 10) (v := .ref (o0 + 13)) hx hb hts hw0 hown hK hz hs1 rfl 4 (by decide) hw5 (fun _ h9 => h9) rfl dX5_load_59 ?_
      refine lv_aload_n hx hb dX5_load_62 rfl (lv_at hl 0 rfl) ?_
      refine sw_get (C := RX5) (T := TX5) (N := 10) (v := .ref (o0 + 7)) hx hb hts hw0 hown hK hz hs1 rfl 1 (by decide) hw2 (fun _ h9 => h9) rfl dX5_load_63 ?_
      obtain ⟨hs20, hwp⟩ := hwp
      obtain ⟨P21, hc22, hwp⟩ := hwp
      refine sw_callv hz (va_runV (As := [.ref (o0 + 7)]) (rest := []) ⟨hx, hb, hml, hown, hts⟩ (hc22 hK _) (cwV 1 hts gX5_load_X4_becomeSlope rfl rfl rfl (by decide +kernel) ⟨Nat.le_of_ble_eq_true rfl, Nat.le_of_ble_eq_true rfl⟩) (hz.preV hK hs20 rfl) rfl rfl hl.1 rfl (lv_room (Nat.le_of_ble_eq_true rfl)) dX5_load_66 ⟨Nat.le_of_ble_eq_true rfl, Nat.le_of_ble_eq_true rfl⟩) (fun I23 L24 A25 H locs hp hz => ?_)
      have hwp := hwp I23 L24 A25 hp
      refine lv_aload_n hx hb dX5_load_69 rfl (lv_at hl 0 rfl) ?_
      refine sw_get (C := RX5) (T := TX5) (N := 10) (v := .ref (o0 + 1)) hx hb hts hw0 hown hK hz hs1 rfl 0 (by decide) hw1 (fun _ h9 => h9) rfl dX5_load_70 ?_
      refine lv_aload_n hx hb dX5_load_73 rfl (lv_at hl 0 rfl) ?_
      refine sw_get (C := RX5) (T := TX5) (N := 10) (v := .ref (o0 + 9)) hx hb hts hw0 hown hK hz hs1 rfl 2 (by decide) hw6 (fun _ h9 => h9) rfl dX5_load_74 ?_
      refine lv_aload_n hx hb dX5_load_77 rfl (lv_at hl 0 rfl) ?_
      refine sw_get (C := RX5) (T := TX5) (N := 10) (v := .ref (o0 + 13)) hx hb hts hw0 hown hK hz hs1 rfl 4 (by decide) hw5 (fun _ h9 => h9) rfl dX5_load_78 ?_
      obtain ⟨P26, hc27, hwp⟩ := hwp
      refine sw_callv hz (va_runV (As := [.ref (o0 + 9), .ref (o0 + 13)]) (rest := []) ⟨hx, hb, hml, hown, hts⟩ (hc27 hK _) (cwV 2 hts gX5_load_X3_reduce rfl rfl rfl (by decide +kernel) ⟨Nat.le_of_ble_eq_true rfl, Nat.le_of_ble_eq_true rfl⟩) (hz.preV hK hs2 rfl) rfl rfl hl.1 rfl (lv_room (Nat.le_of_ble_eq_true rfl)) dX5_load_81 ⟨Nat.le_of_ble_eq_true rfl, Nat.le_of_ble_eq_true rfl⟩) (fun I28 L29 A30 H locs hp hz => ?_)
      have hwp := hwp I28 L29 A30 hp
      refine lv_aload_n hx hb dX5_load_84 rfl (lv_at hl 0 rfl) ?_
      refine sw_get (C := RX5) (T := TX5) (N := 10) (v := .ref (o0 + 1)) hx hb hts hw0 hown hK hz hs1 rfl 0 (by decide) hw1 (fun _ h9 => h9) rfl dX5_load_85 ?_
      refine lv_aload_n hx hb dX5_load_88 rfl (lv_at hl 0 rfl) ?_
      refine sw_get (C := RX5) (T := TX5) (N := 10) (v := .ref (o0 + 15)) hx hb hts hw0 hown hK hz hs1 rfl 5 (by decide) hw7 (fun _ h9 => h9) rfl dX5_load_89 ?_
      refine lv_aload_n hx hb dX5_load_92 rfl (lv_at hl 0 rfl) ?_
      refine sw_get (C := RX5) (T := TX5) (N := 10) (v := .ref (o0 + 7)) hx hb hts hw0 hown hK hz hs1 rfl 1 (by decide) hw2 (fun _ h9 => h9) rfl dX5_load_93 ?_
      refine lv_aload_n hx hb dX5_load_96 rfl (lv_at hl 0 rfl) ?_
      refine sw_get (C := RX5) (T := TX5) (N := 10) (v := .ref (o0 + 9)) hx hb hts hw0 hown hK hz hs1 rfl 2 (by decide) hw6 (fun _ h9 => h9) rfl dX5_load_97 ?_
      obtain ⟨P31, hc32, hwp⟩ := hwp
      refine sw_callv hz (va_runV (As := [.ref (o0 + 15), .ref (o0 + 7), .ref (o0 + 9)]) (rest := []) ⟨hx, hb, hml, hown, hts⟩ (hc32 hK _) (cwV 3 hts gX5_load_X3_findCommon rfl rfl rfl (by decide +kernel) ⟨Nat.le_of_ble_eq_true rfl, Nat.le_of_ble_eq_true rfl⟩) (hz.preV hK hs2 rfl) rfl rfl hl.1 rfl (lv_room (Nat.le_of_ble_eq_true rfl)) dX5_load_100 ⟨Nat.le_of_ble_eq_true rfl, Nat.le_of_ble_eq_true rfl⟩) (fun I33 L34 A35 H locs hp hz => ?_)
      have hwp := hwp I33 L34 A35 hp
      refine lv_aload_n hx hb dX5_load_103 rfl (lv_at hl 0 rfl) ?_
      refine sw_get (C := RX5) (T := TX5) (N := 10) (v := .ref (o0 + 15)) hx hb hts hw0 hown hK hz hs1 rfl 5 (by decide) hw7 (fun _ h9 => h9) rfl dX5_load_104 ?_
      obtain ⟨hs36, hwp⟩ := hwp
      refine sw_get (C := RX4) (T := TX4) (N := 2) (v := .int (I33 (o0 + 15) 1)) hx hb hts hw3 hown hK hz hs36 rfl 1 (by decide) hw4 (fun _ h9 => h9) rfl dX5_load_107 ?_
      refine lv_if_ne (tgt := 117) hx hb dX5_load_110 (by decide) (fun q => ?_) (fun q => ?_)
      · have hwp := hwp.2 q
        refine lv_iconst (v := 0) hx hb dX5_load_117 (by decide) ?_
        exact sw_zret hx hb hret hlocks hz (Or.inl rfl) hwp dX5_load_118
      · have hwp := hwp.1 q
        refine lv_iconst (v := 1) hx hb dX5_load_113 (by decide) ?_
        refine lv_goto (tgt := 118) hx hb dX5_load_114 (by decide) ?_
        exact sw_zret hx hb hret hlocks hz (Or.inr rfl) hwp dX5_load_118
    · have hwp := hwp.2 q
      refine lv_iconst (v := 0) hx hb dX5_load_45 (by decide) ?_
      exact sw_zret hx hb hret hlocks hz (Or.inl rfl) hwp dX5_load_46

def wp_X5_trySplit (K : Cx) (I : TI) (L : TL) (A : TA) (o0 : Nat) (i1 : Int32) (i2 : Int32) (i3 : Int32) (Q : TI → TL → TA → Prop) : Prop := cxS K o0 = shX5 o0 ∧ aok (cxS K) (o0 + 41) 2 i1 ∧ ∃ P3 : TI → TL → TA → Prop, ConV K yX5_findNorm wsX5_findNorm 2 68 I L A [.ref o0, .ref (A (o0 + 41) (ix i1)), .int i2, .int i3] P3 ∧ ∀ (I5 : TI) (L6 : TL) (A7 : TA), P3 I5 L6 A7 → cxS K (o0 + 1) = shX3 (o0 + 1) ∧ ∃ P9 : TI → TL → TA → Prop, ConV K yX3_raise wsX3_raise 2 68 I5 L6 A7 [.ref (o0 + 1), .ref (o0 + 13), .ref (o0 + 11), .long (((L6 (o0 + 1) 0) - 1) / 2), .ref (A (o0 + 41) (ix i1))] P9 ∧ ∀ (I11 : TI) (L12 : TL) (A13 : TA), P9 I11 L12 A13 → ∃ P14 : TI → TL → TA → Prop, ConV K yX3_addAt wsX3_addAt 1 40 I11 L12 A13 [.ref (o0 + 1), .ref (o0 + 13), .int 0, .long (-1)] P14 ∧ ∀ (I16 : TI) (L17 : TL) (A18 : TA), P14 I16 L17 A18 → ∃ P19 : TI → TL → TA → Prop, ConV K yX3_findCommon wsX3_findCommon 3 65 I16 L17 A18 [.ref (o0 + 1), .ref (o0 + 15), .ref (o0 + 13), .ref (A (o0 + 41) (ix i1))] P19 ∧ ∀ (I21 : TI) (L22 : TL) (A23 : TA), P19 I21 L22 A23 → cxS K (o0 + 15) = shX4 (o0 + 15) ∧ (((I21 (o0 + 15) 1) ≤ 0 → Q I21 L22 A23) ∧ (¬ (I21 (o0 + 15) 1) ≤ 0 → cxS K (A (o0 + 41) (ix i1)) = shX4 (A (o0 + 41) (ix i1)) ∧ (((I21 (A (o0 + 41) (ix i1)) 1) ≤ (I21 (o0 + 15) 1) → Q I21 L22 A23) ∧ (¬ (I21 (A (o0 + 41) (ix i1)) 1) ≤ (I21 (o0 + 15) 1) → ((6 ≤ (I21 o0 9) → Q I21 L22 A23) ∧ (¬ 6 ≤ (I21 o0 9) → aok (cxS K) (o0 + 41) 2 (I21 o0 9) ∧ ∃ P27 : TI → TL → TA → Prop, ConV K yX3_findQuotient wsX3_findQuotient 2 61 I21 L22 A23 [.ref (o0 + 1), .ref (A23 (o0 + 41) (ix (I21 o0 9))), .ref (A (o0 + 41) (ix i1)), .ref (o0 + 15)] P27 ∧ ∀ (I29 : TI) (L30 : TL) (A31 : TA), P27 I29 L30 A31 → ∀ I32 : TI, I32 = u2 I29 o0 9 ((I29 o0 9) + 1) → ∃ P33 : TI → TL → TA → Prop, ConV K yX4_become wsX4_become 1 40 I32 L30 A31 [.ref (A (o0 + 41) (ix i1)), .ref (o0 + 15)] P33 ∧ ∀ (I35 : TI) (L36 : TL) (A37 : TA), P33 I35 L36 A37 → Q I35 L36 A37))))))
set_option maxHeartbeats 1000000 in
set_option maxRecDepth 100000 in
theorem w_X5_trySplit (K : Cx) (I : TI) (L : TL) (A : TA) (o0 : Nat) (i1 : Int32) (i2 : Int32) (i3 : Int32) (Q : TI → TL → TA → Prop) (hwp : wp_X5_trySplit K I L A o0 i1 i2 i3 Q) : ConV K yX5_trySplit wsX5_trySplit 4 94 I L A [.ref o0, .int i1, .int i2, .int i3] Q := by
  intro hK sz
  refine Met.ofW (cc := cX5_trySplit) (maxL := 5) (ret := none) (by decide) rfl ?_
  intro p e s m args below meth c s₁ B hml hv
  obtain ⟨rfl, hsz, hB⟩ := hv
  have hx := B.exec
  have hb := B.bytes
  have hret := B.returns
  have hts := atoms_spec (ws := wsX5_trySplit) B.pre
  have hown : s.vm.findClass RX5 = some m.cls := findClass_of_methodNamed B.named
  have hlocks := B.notSynchronized
  subst hsz
  have hz : SS K s I L A s.heap [] := PS.start hB
  have hl := lv_entry ([.ref o0, .int i1, .int i2, .int i3]) (n := 5) (Nat.le_of_ble_eq_true rfl)
  rw [lg_entry_eq]
  generalize (lg_sl ([.ref o0, .int i1, .int i2, .int i3]) ++ List.replicate (5 - (lg_sl ([.ref o0, .int i1, .int i2, .int i3])).length) Slot.unset).toArray = ls at hl ⊢
  have hl : lv_has ls 5 [(0, .ref o0), (1, .int i1), (2, .int i2), (3, .int i3)] := hl
  have hw0 : ∀ w ∈ u_ws RX5 TX5 10, w ∈ wsX5_trySplit := by decide +kernel
  have hw1 := hts (.fieldLink RX5 48 "GaloisDesk$Splitter" "pieces" "[LGaloisDesk$Row;") (by decide +kernel)
  have hw2 := hts (.fieldLink RX5 12 "GaloisDesk$Splitter" "residues" "LGaloisDesk$Residues;") (by decide +kernel)
  have hw3 := hts (.fieldLink RX5 31 "GaloisDesk$Splitter" "helper" "LGaloisDesk$Row;") (by decide +kernel)
  have hw4 := hts (.fieldLink RX5 28 "GaloisDesk$Splitter" "line" "LGaloisDesk$Row;") (by decide +kernel)
  have hw5 : ∀ w ∈ u_ws RX3 TX3 4, w ∈ wsX5_trySplit := by decide +kernel
  have hw6 := hts (.fieldLink RX5 103 "GaloisDesk$Residues" "modulus" "J") (by decide +kernel)
  have hw7 := hts (.constantLong RX5 120 (2)) (by decide +kernel)
  have hw8 := hts (.constantLong RX5 87 (-1)) (by decide +kernel)
  have hw9 := hts (.fieldLink RX5 34 "GaloisDesk$Splitter" "found" "LGaloisDesk$Row;") (by decide +kernel)
  have hw10 : ∀ w ∈ u_ws RX4 TX4 2, w ∈ wsX5_trySplit := by decide +kernel
  have hw11 := hts (.fieldLink RX5 63 "GaloisDesk$Row" "top" "I") (by decide +kernel)
  have hw12 := hts (.fieldLink RX5 51 "GaloisDesk$Splitter" "pieceCount" "I") (by decide +kernel)
  clear hB B
  refine lv_aload_n hx hb dX5_trySplit_0 rfl (lv_at hl 0 rfl) ?_
  obtain ⟨hs1, hwp⟩ := hwp
  refine sw_get (C := RX5) (T := TX5) (N := 10) (v := .ref (o0 + 41)) hx hb hts hw0 hown hK hz hs1 rfl 8 (by decide) hw1 (fun _ h9 => h9) rfl dX5_trySplit_1 ?_
  refine lv_iload_n hx hb dX5_trySplit_4 rfl (lv_at hl 1 rfl) ?_
  obtain ⟨ho2, hwp⟩ := hwp
  refine sw_aald hx hb hK hz ho2 dX5_trySplit_5 ?_
  refine lv_astore (lv' := [(4, .ref (A (o0 + 41) (ix i1))), (0, .ref o0), (1, .int i1), (2, .int i2), (3, .int i3)]) hx hb dX5_trySplit_6 hl (by decide) rfl (fun ls hl => ?_)
  refine lv_aload_n hx hb dX5_trySplit_8 rfl (lv_at hl 1 rfl) ?_
  refine lv_aload hx hb dX5_trySplit_9 (lv_at hl 0 rfl) ?_
  refine lv_iload_n hx hb dX5_trySplit_11 rfl (lv_at hl 3 rfl) ?_
  refine lv_iload_n hx hb dX5_trySplit_12 rfl (lv_at hl 4 rfl) ?_
  obtain ⟨P3, hc4, hwp⟩ := hwp
  refine sw_callv hz (va_runV (As := [.ref (A (o0 + 41) (ix i1)), .int i2, .int i3]) (rest := []) ⟨hx, hb, hml, hown, hts⟩ (hc4 hK _) (cwV 3 hts gX5_trySplit_X5_findNorm rfl rfl rfl (by decide +kernel) ⟨Nat.le_of_ble_eq_true rfl, Nat.le_of_ble_eq_true rfl⟩) (hz.preV hK hs1 rfl) rfl rfl hl.1 rfl (lv_room (Nat.le_of_ble_eq_true rfl)) dX5_trySplit_13 ⟨Nat.le_of_ble_eq_true rfl, Nat.le_of_ble_eq_true rfl⟩) (fun I5 L6 A7 H locs hp hz => ?_)
  have hwp := hwp I5 L6 A7 hp
  refine lv_aload_n hx hb dX5_trySplit_16 rfl (lv_at hl 1 rfl) ?_
  refine sw_get (C := RX5) (T := TX5) (N := 10) (v := .ref (o0 + 1)) hx hb hts hw0 hown hK hz hs1 rfl 0 (by decide) hw2 (fun _ h9 => h9) rfl dX5_trySplit_17 ?_
  refine lv_aload_n hx hb dX5_trySplit_20 rfl (lv_at hl 1 rfl) ?_
  refine sw_get (C := RX5) (T := TX5) (N := 10) (v := .ref (o0 + 13)) hx hb hts hw0 hown hK hz hs1 rfl 4 (by decide) hw3 (fun _ h9 => h9) rfl dX5_trySplit_21 ?_
  refine lv_aload_n hx hb dX5_trySplit_24 rfl (lv_at hl 1 rfl) ?_
  refine sw_get (C := RX5) (T := TX5) (N := 10) (v := .ref (o0 + 11)) hx hb hts hw0 hown hK hz hs1 rfl 3 (by decide) hw4 (fun _ h9 => h9) rfl dX5_trySplit_25 ?_
  refine lv_aload_n hx hb dX5_trySplit_28 rfl (lv_at hl 1 rfl) ?_
  refine sw_get (C := RX5) (T := TX5) (N := 10) (v := .ref (o0 + 1)) hx hb hts hw0 hown hK hz hs1 rfl 0 (by decide) hw2 (fun _ h9 => h9) rfl dX5_trySplit_29 ?_
  obtain ⟨hs8, hwp⟩ := hwp
  refine sw_get (C := RX3) (T := TX3) (N := 4) (v := .long (L6 (o0 + 1) 0)) hx hb hts hw5 hown hK hz hs8 rfl 0 (by decide) hw6 (fun _ h9 => h9) rfl dX5_trySplit_32 ?_
  refine lv_lconst (v := 1) hx hb dX5_trySplit_35 (by decide) ?_
  refine lv_lsub hx hb dX5_trySplit_36 ?_
  refine lv_ldc2 hx hb hown hw7 dX5_trySplit_37 ?_
  refine lv_ldiv hx hb dX5_trySplit_40 (by decide) ?_
  refine lv_aload hx hb dX5_trySplit_41 (lv_at hl 0 rfl) ?_
  obtain ⟨P9, hc10, hwp⟩ := hwp
  refine sw_callv hz (va_runV (As := [.ref (o0 + 13), .ref (o0 + 11), .long (((L6 (o0 + 1) 0) - 1) / 2), .ref (A (o0 + 41) (ix i1))]) (rest := []) ⟨hx, hb, hml, hown, hts⟩ (hc10 hK _) (cwV 4 hts gX5_trySplit_X3_raise rfl rfl rfl (by decide +kernel) ⟨Nat.le_of_ble_eq_true rfl, Nat.le_of_ble_eq_true rfl⟩) (hz.preV hK hs8 rfl) rfl rfl hl.1 rfl (lv_room (Nat.le_of_ble_eq_true rfl)) dX5_trySplit_43 ⟨Nat.le_of_ble_eq_true rfl, Nat.le_of_ble_eq_true rfl⟩) (fun I11 L12 A13 H locs hp hz => ?_)
  have hwp := hwp I11 L12 A13 hp
  refine lv_aload_n hx hb dX5_trySplit_46 rfl (lv_at hl 1 rfl) ?_
  refine sw_get (C := RX5) (T := TX5) (N := 10) (v := .ref (o0 + 1)) hx hb hts hw0 hown hK hz hs1 rfl 0 (by decide) hw2 (fun _ h9 => h9) rfl dX5_trySplit_47 ?_
  refine lv_aload_n hx hb dX5_trySplit_50 rfl (lv_at hl 1 rfl) ?_
  refine sw_get (C := RX5) (T := TX5) (N := 10) (v := .ref (o0 + 13)) hx hb hts hw0 hown hK hz hs1 rfl 4 (by decide) hw3 (fun _ h9 => h9) rfl dX5_trySplit_51 ?_
  refine lv_iconst (v := 0) hx hb dX5_trySplit_54 (by decide) ?_
  refine lv_ldc2 hx hb hown hw8 dX5_trySplit_55 ?_
  obtain ⟨P14, hc15, hwp⟩ := hwp
  refine sw_callv hz (va_runV (As := [.ref (o0 + 13), .int 0, .long (-1)]) (rest := []) ⟨hx, hb, hml, hown, hts⟩ (hc15 hK _) (cwV 3 hts gX5_trySplit_X3_addAt rfl rfl rfl (by decide +kernel) ⟨Nat.le_of_ble_eq_true rfl, Nat.le_of_ble_eq_true rfl⟩) (hz.preV hK hs8 rfl) rfl rfl hl.1 rfl (lv_room (Nat.le_of_ble_eq_true rfl)) dX5_trySplit_58 ⟨Nat.le_of_ble_eq_true rfl, Nat.le_of_ble_eq_true rfl⟩) (fun I16 L17 A18 H locs hp hz => ?_)
  have hwp := hwp I16 L17 A18 hp
  refine lv_aload_n hx hb dX5_trySplit_61 rfl (lv_at hl 1 rfl) ?_
  refine sw_get (C := RX5) (T := TX5) (N := 10) (v := .ref (o0 + 1)) hx hb hts hw0 hown hK hz hs1 rfl 0 (by decide) hw2 (fun _ h9 => h9) rfl dX5_trySplit_62 ?_
  refine lv_aload_n hx hb dX5_trySplit_65 rfl (lv_at hl 1 rfl) ?_
  refine sw_get (C := RX5) (T := TX5) (N := 10) (v := .ref (o0 + 15)) hx hb hts hw0 hown hK hz hs1 rfl 5 (by decide) hw9 (fun _ h9 => h9) rfl dX5_trySplit_66 ?_
  refine lv_aload_n hx hb dX5_trySplit_69 rfl (lv_at hl 1 rfl) ?_
  refine sw_get (C := RX5) (T := TX5) (N := 10) (v := .ref (o0 + 13)) hx hb hts hw0 hown hK hz hs1 rfl 4 (by decide) hw3 (fun _ h9 => h9) rfl dX5_trySplit_70 ?_
  refine lv_aload hx hb dX5_trySplit_73 (lv_at hl 0 rfl) ?_
  obtain ⟨P19, hc20, hwp⟩ := hwp
  refine sw_callv hz (va_runV (As := [.ref (o0 + 15), .ref (o0 + 13), .ref (A (o0 + 41) (ix i1))]) (rest := []) ⟨hx, hb, hml, hown, hts⟩ (hc20 hK _) (cwV 3 hts gX5_trySplit_X3_findCommon rfl rfl rfl (by decide +kernel) ⟨Nat.le_of_ble_eq_true rfl, Nat.le_of_ble_eq_true rfl⟩) (hz.preV hK hs8 rfl) rfl rfl hl.1 rfl (lv_room (Nat.le_of_ble_eq_true rfl)) dX5_trySplit_75 ⟨Nat.le_of_ble_eq_true rfl, Nat.le_of_ble_eq_true rfl⟩) (fun I21 L22 A23 H locs hp hz => ?_)
  have hwp := hwp I21 L22 A23 hp
  refine lv_aload_n hx hb dX5_trySplit_78 rfl (lv_at hl 1 rfl) ?_
  refine sw_get (C := RX5) (T := TX5) (N := 10) (v := .ref (o0 + 15)) hx hb hts hw0 hown hK hz hs1 rfl 5 (by decide) hw9 (fun _ h9 => h9) rfl dX5_trySplit_79 ?_
  obtain ⟨hs24, hwp⟩ := hwp
  refine sw_get (C := RX4) (T := TX4) (N := 2) (v := .int (I21 (o0 + 15) 1)) hx hb hts hw10 hown hK hz hs24 rfl 1 (by decide) hw11 (fun _ h9 => h9) rfl dX5_trySplit_82 ?_
  refine lv_if_le (tgt := 153) hx hb dX5_trySplit_85 (by decide) (fun q => ?_) (fun q => ?_)
  · have hwp := hwp.1 q
    exact sw_vret hx hb hret hlocks hz hwp dX5_trySplit_153
  · have hwp := hwp.2 q
    refine lv_aload_n hx hb dX5_trySplit_88 rfl (lv_at hl 1 rfl) ?_
    refine sw_get (C := RX5) (T := TX5) (N := 10) (v := .ref (o0 + 15)) hx hb hts hw0 hown hK hz hs1 rfl 5 (by decide) hw9 (fun _ h9 => h9) rfl dX5_trySplit_89 ?_
    refine sw_get (C := RX4) (T := TX4) (N := 2) (v := .int (I21 (o0 + 15) 1)) hx hb hts hw10 hown hK hz hs24 rfl 1 (by decide) hw11 (fun _ h9 => h9) rfl dX5_trySplit_92 ?_
    refine lv_aload hx hb dX5_trySplit_95 (lv_at hl 0 rfl) ?_
    obtain ⟨hs25, hwp⟩ := hwp
    refine sw_get (C := RX4) (T := TX4) (N := 2) (v := .int (I21 (A (o0 + 41) (ix i1)) 1)) hx hb hts hw10 hown hK hz hs25 rfl 1 (by decide) hw11 (fun _ h9 => h9) rfl dX5_trySplit_97 ?_
    refine lv_icmp_ge (tgt := 153) hx hb dX5_trySplit_100 (by decide) (fun q => ?_) (fun q => ?_)
    · have hwp := hwp.1 q
      exact sw_vret hx hb hret hlocks hz hwp dX5_trySplit_153
    · have hwp := hwp.2 q
      refine lv_aload_n hx hb dX5_trySplit_103 rfl (lv_at hl 1 rfl) ?_
      refine sw_get (C := RX5) (T := TX5) (N := 10) (v := .int (I21 o0 9)) hx hb hts hw0 hown hK hz hs1 rfl 9 (by decide) hw12 (fun _ h9 => h9) rfl dX5_trySplit_104 ?_
      refine lv_bipush (v := 6) hx hb dX5_trySplit_107 (by decide) ?_
      refine lv_icmp_ge (tgt := 153) hx hb dX5_trySplit_109 (by decide) (fun q => ?_) (fun q => ?_)
      · have hwp := hwp.1 q
        exact sw_vret hx hb hret hlocks hz hwp dX5_trySplit_153
      · have hwp := hwp.2 q
        refine lv_aload_n hx hb dX5_trySplit_112 rfl (lv_at hl 1 rfl) ?_
        refine sw_get (C := RX5) (T := TX5) (N := 10) (v := .ref (o0 + 1)) hx hb hts hw0 hown hK hz hs1 rfl 0 (by decide) hw2 (fun _ h9 => h9) rfl dX5_trySplit_113 ?_
        refine lv_aload_n hx hb dX5_trySplit_116 rfl (lv_at hl 1 rfl) ?_
        refine sw_get (C := RX5) (T := TX5) (N := 10) (v := .ref (o0 + 41)) hx hb hts hw0 hown hK hz hs1 rfl 8 (by decide) hw1 (fun _ h9 => h9) rfl dX5_trySplit_117 ?_
        refine lv_aload_n hx hb dX5_trySplit_120 rfl (lv_at hl 1 rfl) ?_
        refine sw_get (C := RX5) (T := TX5) (N := 10) (v := .int (I21 o0 9)) hx hb hts hw0 hown hK hz hs1 rfl 9 (by decide) hw12 (fun _ h9 => h9) rfl dX5_trySplit_121 ?_
        obtain ⟨ho26, hwp⟩ := hwp
        refine sw_aald hx hb hK hz ho26 dX5_trySplit_124 ?_
        refine lv_aload hx hb dX5_trySplit_125 (lv_at hl 0 rfl) ?_
        refine lv_aload_n hx hb dX5_trySplit_127 rfl (lv_at hl 1 rfl) ?_
        refine sw_get (C := RX5) (T := TX5) (N := 10) (v := .ref (o0 + 15)) hx hb hts hw0 hown hK hz hs1 rfl 5 (by decide) hw9 (fun _ h9 => h9) rfl dX5_trySplit_128 ?_
        obtain ⟨P27, hc28, hwp⟩ := hwp
        refine sw_callv hz (va_runV (As := [.ref (A23 (o0 + 41) (ix (I21 o0 9))), .ref (A (o0 + 41) (ix i1)), .ref (o0 + 15)]) (rest := []) ⟨hx, hb, hml, hown, hts⟩ (hc28 hK _) (cwV 3 hts gX5_trySplit_X3_findQuotient rfl rfl rfl (by decide +kernel) ⟨Nat.le_of_ble_eq_true rfl, Nat.le_of_ble_eq_true rfl⟩) (hz.preV hK hs8 rfl) rfl rfl hl.1 rfl (lv_room (Nat.le_of_ble_eq_true rfl)) dX5_trySplit_131 ⟨Nat.le_of_ble_eq_true rfl, Nat.le_of_ble_eq_true rfl⟩) (fun I29 L30 A31 H locs hp hz => ?_)
        have hwp := hwp I29 L30 A31 hp
        refine lv_aload_n hx hb dX5_trySplit_134 rfl (lv_at hl 1 rfl) ?_
        refine lv_dup hx hb dX5_trySplit_135 rfl ?_
        refine sw_get (C := RX5) (T := TX5) (N := 10) (v := .int (I29 o0 9)) hx hb hts hw0 hown hK hz hs1 rfl 9 (by decide) hw12 (fun _ h9 => h9) rfl dX5_trySplit_136 ?_
        refine lv_iconst (v := 1) hx hb dX5_trySplit_139 (by decide) ?_
        refine lv_iadd hx hb dX5_trySplit_140 ?_
        refine sw_putI (C := RX5) (T := TX5) (N := 10) hx hb hts hw0 tyX5 tyX5_ok nmX5 hown hK hz hs1 rfl 9 (by decide) hw12 (fun _ h9 => h9) rfl (by decide +kernel) rfl dX5_trySplit_141 (fun H locs I32 e_I32 hz => ?_)
        have hwp := hwp I32 e_I32
        refine lv_aload hx hb dX5_trySplit_144 (lv_at hl 0 rfl) ?_
        refine lv_aload_n hx hb dX5_trySplit_146 rfl (lv_at hl 1 rfl) ?_
        refine sw_get (C := RX5) (T := TX5) (N := 10) (v := .ref (o0 + 15)) hx hb hts hw0 hown hK hz hs1 rfl 5 (by decide) hw9 (fun _ h9 => h9) rfl dX5_trySplit_147 ?_
        obtain ⟨P33, hc34, hwp⟩ := hwp
        refine sw_callv hz (va_runV (As := [.ref (o0 + 15)]) (rest := []) ⟨hx, hb, hml, hown, hts⟩ (hc34 hK _) (cwV 1 hts gX5_trySplit_X4_become rfl rfl rfl (by decide +kernel) ⟨Nat.le_of_ble_eq_true rfl, Nat.le_of_ble_eq_true rfl⟩) (hz.preV hK hs25 rfl) rfl rfl hl.1 rfl (lv_room (Nat.le_of_ble_eq_true rfl)) dX5_trySplit_150 ⟨Nat.le_of_ble_eq_true rfl, Nat.le_of_ble_eq_true rfl⟩) (fun I35 L36 A37 H locs hp hz => ?_)
        have hwp := hwp I35 L36 A37 hp
        exact sw_vret hx hb hret hlocks hz hwp dX5_trySplit_153

def wp_X5_separate_91 (K : Cx) (o0 : Nat) (i1 : Int32) (C67 : TI → TL → TA → Int32 → Int32 → Int32 → Prop) (I : TI) (L : TL) (A : TA) (x2 : Int32) (x3 : Int32) (x4 : Int32) (x5 : Int32) (x6 : Int32) (Q : TI → TL → TA → Prop) : Prop := ∃ (Inv : Nat → TI → TL → TA → Int32 → Int32 → Int32 → Int32 → Int32 → Prop) (μ : Nat), Inv μ I L A x2 x3 x4 x5 x6 ∧ ∀ (μ : Nat) (C91 : TI → TL → TA → Int32 → Int32 → Int32 → Int32 → Int32 → Prop), (∀ (μ' : Nat) (I : TI) (L : TL) (A : TA) (x2 : Int32) (x3 : Int32) (x4 : Int32) (x5 : Int32) (x6 : Int32) , μ' < μ → Inv μ' I L A x2 x3 x4 x5 x6 → C91 I L A x2 x3 x4 x5 x6) → ∀ (I : TI) (L : TL) (A : TA) (x2 : Int32) (x3 : Int32) (x4 : Int32) (x5 : Int32) (x6 : Int32) , Inv μ I L A x2 x3 x4 x5 x6 → ((x5 ≤ x6 → ∀ v1 : Int32, v1 = x4 + 1 → C67 I L A x2 x3 v1) ∧ (¬ x5 ≤ x6 → cxS K o0 = shX5 o0 ∧ aok (cxS K) (o0 + 41) 2 x6 ∧ cxS K (A (o0 + 41) (ix x6)) = shX4 (A (o0 + 41) (ix x6)) ∧ (((I (A (o0 + 41) (ix x6)) 1) ≤ i1 → ∀ v5 : Int32, v5 = x6 + 1 → C91 I L A x2 x3 x4 x5 v5) ∧ (¬ (I (A (o0 + 41) (ix x6)) 1) ≤ i1 → ∃ P6 : TI → TL → TA → Prop, ConV K yX5_trySplit wsX5_trySplit 4 94 I L A [.ref o0, .int x6, .int i1, .int x4] P6 ∧ ∀ (I8 : TI) (L9 : TL) (A10 : TA), P6 I8 L9 A10 → ∀ v11 : Int32, v11 = x6 + 1 → C91 I8 L9 A10 x2 x3 x4 x5 v11))))
def wp_X5_separate_67 (K : Cx) (o0 : Nat) (i1 : Int32) (I : TI) (L : TL) (A : TA) (x2 : Int32) (x3 : Int32) (x4 : Int32) (Q : TI → TL → TA → Prop) : Prop := ∃ (Inv : Nat → TI → TL → TA → Int32 → Int32 → Int32 → Prop) (μ : Nat), Inv μ I L A x2 x3 x4 ∧ ∀ (μ : Nat) (C67 : TI → TL → TA → Int32 → Int32 → Int32 → Prop), (∀ (μ' : Nat) (I : TI) (L : TL) (A : TA) (x2 : Int32) (x3 : Int32) (x4 : Int32) , μ' < μ → Inv μ' I L A x2 x3 x4 → C67 I L A x2 x3 x4) → ∀ (I : TI) (L : TL) (A : TA) (x2 : Int32) (x3 : Int32) (x4 : Int32) , Inv μ I L A x2 x3 x4 → ((1000000 ≤ x4 → Q I L A) ∧ (¬ 1000000 ≤ x4 → cxS K o0 = shX5 o0 ∧ ((x3 ≤ (I o0 9) → Q I L A) ∧ (¬ x3 ≤ (I o0 9) → ∀ v13 : Int32, v13 = (I o0 9) → wp_X5_separate_91 K o0 i1 C67 I L A x2 x3 x4 v13 x2 Q))))
def wp_X5_separate (K : Cx) (I : TI) (L : TL) (A : TA) (o0 : Nat) (i1 : Int32) (Q : TI → TL → TA → Prop) : Prop := cxS K o0 = shX5 o0 ∧ ∀ v15 : Int32, v15 = (I o0 9) → aok (cxS K) (o0 + 26) 2 i1 ∧ cxS K (A (o0 + 26) (ix i1)) = shX4 (A (o0 + 26) (ix i1)) ∧ (((I (A (o0 + 26) (ix i1)) 1) < i1 → Q I L A) ∧ (¬ (I (A (o0 + 26) (ix i1)) 1) < i1 → ((v15 < 6 → aok (cxS K) (o0 + 41) 2 v15 ∧ aok (cxS K) (o0 + 26) 2 i1 ∧ cxS K (A (o0 + 41) (ix v15)) = shX4 (A (o0 + 41) (ix v15)) ∧ ∃ P21 : TI → TL → TA → Prop, ConV K yX4_become wsX4_become 1 40 I L A [.ref (A (o0 + 41) (ix v15)), .ref (A (o0 + 26) (ix i1))] P21 ∧ ∀ (I23 : TI) (L24 : TL) (A25 : TA), P21 I23 L24 A25 → ∀ I26 : TI, I26 = u2 I23 o0 9 ((I23 o0 9) + 1) → aok (cxS K) (o0 + 26) 2 i1 ∧ cxS K (A25 (o0 + 26) (ix i1)) = shX4 (A25 (o0 + 26) (ix i1)) ∧ ¬ i1 = 0 ∧ ∀ v30 : Int32, v30 = (v15 + ((I26 (A25 (o0 + 26) (ix i1)) 1) / i1)) → wp_X5_separate_67 K o0 i1 I26 L24 A25 v15 v30 0 Q) ∧ (¬ v15 < 6 → Q I L A))))
set_option maxHeartbeats 1000000 in
set_option maxRecDepth 100000 in
theorem w_X5_separate (K : Cx) (I : TI) (L : TL) (A : TA) (o0 : Nat) (i1 : Int32) (Q : TI → TL → TA → Prop) (hwp : wp_X5_separate K I L A o0 i1 Q) : ConV K yX5_separate wsX5_separate 5 118 I L A [.ref o0, .int i1] Q := by
  intro hK sz
  refine Met.ofW (cc := cX5_separate) (maxL := 7) (ret := none) (by decide) rfl ?_
  intro p e s m args below meth c s₁ B hml hv
  obtain ⟨rfl, hsz, hB⟩ := hv
  have hx := B.exec
  have hb := B.bytes
  have hret := B.returns
  have hts := atoms_spec (ws := wsX5_separate) B.pre
  have hown : s.vm.findClass RX5 = some m.cls := findClass_of_methodNamed B.named
  have hlocks := B.notSynchronized
  subst hsz
  have hz : SS K s I L A s.heap [] := PS.start hB
  have hl := lv_entry ([.ref o0, .int i1]) (n := 7) (Nat.le_of_ble_eq_true rfl)
  rw [lg_entry_eq]
  generalize (lg_sl ([.ref o0, .int i1]) ++ List.replicate (7 - (lg_sl ([.ref o0, .int i1])).length) Slot.unset).toArray = ls at hl ⊢
  have hl : lv_has ls 7 [(0, .ref o0), (1, .int i1)] := hl
  have hw0 : ∀ w ∈ u_ws RX5 TX5 10, w ∈ wsX5_separate := by decide +kernel
  have hw1 := hts (.fieldLink RX5 48 "GaloisDesk$Splitter" "pieces" "[LGaloisDesk$Row;") (by decide +kernel)
  have hw2 : ∀ w ∈ u_ws RX4 TX4 2, w ∈ wsX5_separate := by decide +kernel
  have hw3 := hts (.fieldLink RX5 63 "GaloisDesk$Row" "top" "I") (by decide +kernel)
  have hw4 := hts (.constant RX5 111 (1000000)) (by decide +kernel)
  have hw5 := hts (.fieldLink RX5 51 "GaloisDesk$Splitter" "pieceCount" "I") (by decide +kernel)
  have hw6 := hts (.fieldLink RX5 45 "GaloisDesk$Splitter" "equal" "[LGaloisDesk$Row;") (by decide +kernel)
  clear hB B
  have wL91 : ∀ (C67 : TI → TL → TA → Int32 → Int32 → Int32 → Prop) (hC67 : ∀ (I : TI) (L : TL) (A : TA) (x2 : Int32) (x3 : Int32) (x4 : Int32) (H : Heap) (locs : List Loc) (ls : Array Slot), C67 I L A x2 x3 x4 → SS K s I L A H locs → lv_has ls 7 [(0, .ref o0), (1, .int i1), (2, .int x2), (3, .int x3), (4, .int x4)] → W p (cxl K) e (headSpec wsX5_separate (rmF 5 118)).room s m ([.ref o0, .int i1] : List Value).toArray below meth c H locs 0 0 (MQ below (cxQv K Q) ([.ref o0, .int i1] : List Value).toArray s 0 0 (PA (cxb K))) (F0 m 67 ls [])) (I : TI) (L : TL) (A : TA) (x2 : Int32) (x3 : Int32) (x4 : Int32) (x5 : Int32) (x6 : Int32) (H : Heap) (locs : List Loc) (ls : Array Slot), wp_X5_separate_91 K o0 i1 C67 I L A x2 x3 x4 x5 x6 Q → SS K s I L A H locs → lv_has ls 7 [(0, .ref o0), (1, .int i1), (2, .int x2), (3, .int x3), (4, .int x4), (5, .int x5), (6, .int x6)] → W p (cxl K) e (headSpec wsX5_separate (rmF 5 118)).room s m ([.ref o0, .int i1] : List Value).toArray below meth c H locs 0 0 (MQ below (cxQv K Q) ([.ref o0, .int i1] : List Value).toArray s 0 0 (PA (cxb K))) (F0 m 91 ls []) := by
    intro C67 hC67 I L A x2 x3 x4 x5 x6 H locs ls hwp hz hl
    obtain ⟨Inv, μ, hi, hst⟩ := hwp
    have key : ∀ (μ : Nat) (I : TI) (L : TL) (A : TA) (x2 : Int32) (x3 : Int32) (x4 : Int32) (x5 : Int32) (x6 : Int32) (H : Heap) (locs : List Loc) (ls : Array Slot), Inv μ I L A x2 x3 x4 x5 x6 → SS K s I L A H locs → lv_has ls 7 [(0, .ref o0), (1, .int i1), (2, .int x2), (3, .int x3), (4, .int x4), (5, .int x5), (6, .int x6)] → W p (cxl K) e (headSpec wsX5_separate (rmF 5 118)).room s m ([.ref o0, .int i1] : List Value).toArray below meth c H locs 0 0 (MQ below (cxQv K Q) ([.ref o0, .int i1] : List Value).toArray s 0 0 (PA (cxb K))) (F0 m 91 ls []) := by
      clear hi hz hl
      intro μ
      induction μ using Nat.strongRecOn with | ind μ ih => ?_
      intro I L A x2 x3 x4 x5 x6 H locs ls hi hz hl
      obtain ⟨C91, hCd⟩ : ∃ C : TI → TL → TA → Int32 → Int32 → Int32 → Int32 → Int32 → Prop, C = fun I L A x2 x3 x4 x5 x6 => ∃ μ', μ' < μ ∧ Inv μ' I L A x2 x3 x4 x5 x6 := ⟨_, rfl⟩
      have hC91 : ∀ (I : TI) (L : TL) (A : TA) (x2 : Int32) (x3 : Int32) (x4 : Int32) (x5 : Int32) (x6 : Int32) (H : Heap) (locs : List Loc) (ls : Array Slot), C91 I L A x2 x3 x4 x5 x6 → SS K s I L A H locs → lv_has ls 7 [(0, .ref o0), (1, .int i1), (2, .int x2), (3, .int x3), (4, .int x4), (5, .int x5), (6, .int x6)] → W p (cxl K) e (headSpec wsX5_separate (rmF 5 118)).room s m ([.ref o0, .int i1] : List Value).toArray below meth c H locs 0 0 (MQ below (cxQv K Q) ([.ref o0, .int i1] : List Value).toArray s 0 0 (PA (cxb K))) (F0 m 91 ls []) := by
        intro I L A x2 x3 x4 x5 x6 H locs ls hc hz hl
        rw [hCd] at hc
        obtain ⟨μ', hlt, hc⟩ := hc
        exact ih μ' hlt I L A x2 x3 x4 x5 x6 H locs ls hc hz hl
      have hwp := hst μ C91 (fun μ' I L A x2 x3 x4 x5 x6 hlt hc => by rw [hCd]; exact ⟨μ', hlt, hc⟩) I L A x2 x3 x4 x5 x6 hi
      refine lv_iload hx hb dX5_separate_91 (lv_at hl 6 rfl) ?_
      refine lv_iload hx hb dX5_separate_93 (lv_at hl 5 rfl) ?_
      refine lv_icmp_ge (tgt := 127) hx hb dX5_separate_95 (by decide) (fun q => ?_) (fun q => ?_)
      · have hwp := hwp.1 q
        obtain ⟨v1, q_v1⟩ : ∃ y : Int32, y = x4 + 1 := ⟨_, rfl⟩
        have hwp := hwp v1 q_v1
        refine lv_iinc (v := v1) (lv' := [(4, .int v1), (0, .ref o0), (1, .int i1), (2, .int x2), (3, .int x3), (5, .int x5), (6, .int x6)]) hx hb dX5_separate_127 hl (k := 4) rfl (by rw [q_v1]; rfl) (by decide) rfl (fun ls hl => ?_)
        refine lv_goto (tgt := 67) hx hb dX5_separate_130 (by decide) ?_
        exact hC67 _ _ _ _ _ _ _ _ _ hwp hz (lv_sub hl [1, 2, 3, 4, 0] rfl)
      · have hwp := hwp.2 q
        refine lv_aload_n hx hb dX5_separate_98 rfl (lv_at hl 0 rfl) ?_
        obtain ⟨hs2, hwp⟩ := hwp
        refine sw_get (C := RX5) (T := TX5) (N := 10) (v := .ref (o0 + 41)) hx hb hts hw0 hown hK hz hs2 rfl 8 (by decide) hw1 (fun _ h9 => h9) rfl dX5_separate_99 ?_
        refine lv_iload hx hb dX5_separate_102 (lv_at hl 6 rfl) ?_
        obtain ⟨ho3, hwp⟩ := hwp
        refine sw_aald hx hb hK hz ho3 dX5_separate_104 ?_
        obtain ⟨hs4, hwp⟩ := hwp
        refine sw_get (C := RX4) (T := TX4) (N := 2) (v := .int (I (A (o0 + 41) (ix x6)) 1)) hx hb hts hw2 hown hK hz hs4 rfl 1 (by decide) hw3 (fun _ h9 => h9) rfl dX5_separate_105 ?_
        refine lv_iload_n hx hb dX5_separate_108 rfl (lv_at hl 1 rfl) ?_
        refine lv_icmp_le (tgt := 121) hx hb dX5_separate_109 (by decide) (fun q => ?_) (fun q => ?_)
        · have hwp := hwp.1 q
          obtain ⟨v5, q_v5⟩ : ∃ y : Int32, y = x6 + 1 := ⟨_, rfl⟩
          have hwp := hwp v5 q_v5
          refine lv_iinc (v := v5) (lv' := [(6, .int v5), (0, .ref o0), (1, .int i1), (2, .int x2), (3, .int x3), (4, .int x4), (5, .int x5)]) hx hb dX5_separate_121 hl (k := 6) rfl (by rw [q_v5]; rfl) (by decide) rfl (fun ls hl => ?_)
          refine lv_goto (tgt := 91) hx hb dX5_separate_124 (by decide) ?_
          exact hC91 _ _ _ _ _ _ _ _ _ _ _ hwp hz (lv_sub hl [1, 2, 3, 4, 5, 6, 0] rfl)
        · have hwp := hwp.2 q
          refine lv_aload_n hx hb dX5_separate_112 rfl (lv_at hl 0 rfl) ?_
          refine lv_iload hx hb dX5_separate_113 (lv_at hl 6 rfl) ?_
          refine lv_iload_n hx hb dX5_separate_115 rfl (lv_at hl 1 rfl) ?_
          refine lv_iload hx hb dX5_separate_116 (lv_at hl 4 rfl) ?_
          obtain ⟨P6, hc7, hwp⟩ := hwp
          refine sw_callv hz (va_runV (As := [.int x6, .int i1, .int x4]) (rest := []) ⟨hx, hb, hml, hown, hts⟩ (hc7 hK _) (cwV 3 hts gX5_separate_X5_trySplit rfl rfl rfl (by decide +kernel) ⟨Nat.le_of_ble_eq_true rfl, Nat.le_of_ble_eq_true rfl⟩) (hz.preV hK hs2 rfl) rfl rfl hl.1 rfl (lv_room (Nat.le_of_ble_eq_true rfl)) dX5_separate_118 ⟨Nat.le_of_ble_eq_true rfl, Nat.le_of_ble_eq_true rfl⟩) (fun I8 L9 A10 H locs hp hz => ?_)
          have hwp := hwp I8 L9 A10 hp
          obtain ⟨v11, q_v11⟩ : ∃ y : Int32, y = x6 + 1 := ⟨_, rfl⟩
          have hwp := hwp v11 q_v11
          refine lv_iinc (v := v11) (lv' := [(6, .int v11), (0, .ref o0), (1, .int i1), (2, .int x2), (3, .int x3), (4, .int x4), (5, .int x5)]) hx hb dX5_separate_121 hl (k := 6) rfl (by rw [q_v11]; rfl) (by decide) rfl (fun ls hl => ?_)
          refine lv_goto (tgt := 91) hx hb dX5_separate_124 (by decide) ?_
          exact hC91 _ _ _ _ _ _ _ _ _ _ _ hwp hz (lv_sub hl [1, 2, 3, 4, 5, 6, 0] rfl)
    exact key μ I L A x2 x3 x4 x5 x6 H locs ls hi hz hl
  have wL67 : ∀ (I : TI) (L : TL) (A : TA) (x2 : Int32) (x3 : Int32) (x4 : Int32) (H : Heap) (locs : List Loc) (ls : Array Slot), wp_X5_separate_67 K o0 i1 I L A x2 x3 x4 Q → SS K s I L A H locs → lv_has ls 7 [(0, .ref o0), (1, .int i1), (2, .int x2), (3, .int x3), (4, .int x4)] → W p (cxl K) e (headSpec wsX5_separate (rmF 5 118)).room s m ([.ref o0, .int i1] : List Value).toArray below meth c H locs 0 0 (MQ below (cxQv K Q) ([.ref o0, .int i1] : List Value).toArray s 0 0 (PA (cxb K))) (F0 m 67 ls []) := by
    intro I L A x2 x3 x4 H locs ls hwp hz hl
    obtain ⟨Inv, μ, hi, hst⟩ := hwp
    have key : ∀ (μ : Nat) (I : TI) (L : TL) (A : TA) (x2 : Int32) (x3 : Int32) (x4 : Int32) (H : Heap) (locs : List Loc) (ls : Array Slot), Inv μ I L A x2 x3 x4 → SS K s I L A H locs → lv_has ls 7 [(0, .ref o0), (1, .int i1), (2, .int x2), (3, .int x3), (4, .int x4)] → W p (cxl K) e (headSpec wsX5_separate (rmF 5 118)).room s m ([.ref o0, .int i1] : List Value).toArray below meth c H locs 0 0 (MQ below (cxQv K Q) ([.ref o0, .int i1] : List Value).toArray s 0 0 (PA (cxb K))) (F0 m 67 ls []) := by
      clear hi hz hl
      intro μ
      induction μ using Nat.strongRecOn with | ind μ ih => ?_
      intro I L A x2 x3 x4 H locs ls hi hz hl
      obtain ⟨C67, hCd⟩ : ∃ C : TI → TL → TA → Int32 → Int32 → Int32 → Prop, C = fun I L A x2 x3 x4 => ∃ μ', μ' < μ ∧ Inv μ' I L A x2 x3 x4 := ⟨_, rfl⟩
      have hC67 : ∀ (I : TI) (L : TL) (A : TA) (x2 : Int32) (x3 : Int32) (x4 : Int32) (H : Heap) (locs : List Loc) (ls : Array Slot), C67 I L A x2 x3 x4 → SS K s I L A H locs → lv_has ls 7 [(0, .ref o0), (1, .int i1), (2, .int x2), (3, .int x3), (4, .int x4)] → W p (cxl K) e (headSpec wsX5_separate (rmF 5 118)).room s m ([.ref o0, .int i1] : List Value).toArray below meth c H locs 0 0 (MQ below (cxQv K Q) ([.ref o0, .int i1] : List Value).toArray s 0 0 (PA (cxb K))) (F0 m 67 ls []) := by
        intro I L A x2 x3 x4 H locs ls hc hz hl
        rw [hCd] at hc
        obtain ⟨μ', hlt, hc⟩ := hc
        exact ih μ' hlt I L A x2 x3 x4 H locs ls hc hz hl
      have hwp := hst μ C67 (fun μ' I L A x2 x3 x4 hlt hc => by rw [hCd]; exact ⟨μ', hlt, hc⟩) I L A x2 x3 x4 hi
      refine lv_iload hx hb dX5_separate_67 (lv_at hl 4 rfl) ?_
      refine lv_ldc hx hb hown hw4 dX5_separate_69 ?_
      refine lv_icmp_ge (tgt := 133) hx hb dX5_separate_71 (by decide) (fun q => ?_) (fun q => ?_)
      · have hwp := hwp.1 q
        exact sw_vret hx hb hret hlocks hz hwp dX5_separate_133
      · have hwp := hwp.2 q
        refine lv_aload_n hx hb dX5_separate_74 rfl (lv_at hl 0 rfl) ?_
        obtain ⟨hs12, hwp⟩ := hwp
        refine sw_get (C := RX5) (T := TX5) (N := 10) (v := .int (I o0 9)) hx hb hts hw0 hown hK hz hs12 rfl 9 (by decide) hw5 (fun _ h9 => h9) rfl dX5_separate_75 ?_
        refine lv_iload_n hx hb dX5_separate_78 rfl (lv_at hl 3 rfl) ?_
        refine lv_icmp_ge (tgt := 133) hx hb dX5_separate_79 (by decide) (fun q => ?_) (fun q => ?_)
        · have hwp := hwp.1 q
          exact sw_vret hx hb hret hlocks hz hwp dX5_separate_133
        · have hwp := hwp.2 q
          refine lv_aload_n hx hb dX5_separate_82 rfl (lv_at hl 0 rfl) ?_
          refine sw_get (C := RX5) (T := TX5) (N := 10) (v := .int (I o0 9)) hx hb hts hw0 hown hK hz hs12 rfl 9 (by decide) hw5 (fun _ h9 => h9) rfl dX5_separate_83 ?_
          refine lv_topi (fun v13 q_v13 => ?_)
          have hwp := hwp v13 q_v13
          refine lv_istore (lv' := [(5, .int v13), (0, .ref o0), (1, .int i1), (2, .int x2), (3, .int x3), (4, .int x4)]) hx hb dX5_separate_86 hl (by decide) rfl (fun ls hl => ?_)
          refine lv_iload_n hx hb dX5_separate_88 rfl (lv_at hl 3 rfl) ?_
          refine lv_istore (lv' := [(6, .int x2), (5, .int v13), (0, .ref o0), (1, .int i1), (2, .int x2), (3, .int x3), (4, .int x4)]) hx hb dX5_separate_89 hl (by decide) rfl (fun ls hl => ?_)
          exact wL91 _ hC67 _ _ _ _ _ _ _ _ _ _ _ hwp hz (lv_sub hl [2, 3, 4, 5, 6, 1, 0] rfl)
    exact key μ I L A x2 x3 x4 H locs ls hi hz hl
  refine lv_aload_n hx hb dX5_separate_0 rfl (lv_at hl 0 rfl) ?_
  obtain ⟨hs14, hwp⟩ := hwp
  refine sw_get (C := RX5) (T := TX5) (N := 10) (v := .int (I o0 9)) hx hb hts hw0 hown hK hz hs14 rfl 9 (by decide) hw5 (fun _ h9 => h9) rfl dX5_separate_1 ?_
  refine lv_topi (fun v15 q_v15 => ?_)
  have hwp := hwp v15 q_v15
  refine lv_istore_n (lv' := [(2, .int v15), (0, .ref o0), (1, .int i1)]) hx hb dX5_separate_4 rfl hl (by decide) rfl (fun ls hl => ?_)
  refine lv_aload_n hx hb dX5_separate_5 rfl (lv_at hl 1 rfl) ?_
  refine sw_get (C := RX5) (T := TX5) (N := 10) (v := .ref (o0 + 26)) hx hb hts hw0 hown hK hz hs14 rfl 7 (by decide) hw6 (fun _ h9 => h9) rfl dX5_separate_6 ?_
  refine lv_iload_n hx hb dX5_separate_9 rfl (lv_at hl 2 rfl) ?_
  obtain ⟨ho16, hwp⟩ := hwp
  refine sw_aald hx hb hK hz ho16 dX5_separate_10 ?_
  obtain ⟨hs17, hwp⟩ := hwp
  refine sw_get (C := RX4) (T := TX4) (N := 2) (v := .int (I (A (o0 + 26) (ix i1)) 1)) hx hb hts hw2 hown hK hz hs17 rfl 1 (by decide) hw3 (fun _ h9 => h9) rfl dX5_separate_11 ?_
  refine lv_iload_n hx hb dX5_separate_14 rfl (lv_at hl 2 rfl) ?_
  refine lv_icmp_lt (tgt := 24) hx hb dX5_separate_15 (by decide) (fun q => ?_) (fun q => ?_)
  · have hwp := hwp.1 q
    exact sw_vret hx hb hret hlocks hz hwp dX5_separate_24
  · have hwp := hwp.2 q
    refine lv_iload_n hx hb dX5_separate_18 rfl (lv_at hl 0 rfl) ?_
    refine lv_bipush (v := 6) hx hb dX5_separate_19 (by decide) ?_
    refine lv_icmp_lt (tgt := 25) hx hb dX5_separate_21 (by decide) (fun q => ?_) (fun q => ?_)
    · have hwp := hwp.1 q
      refine lv_aload_n hx hb dX5_separate_25 rfl (lv_at hl 1 rfl) ?_
      refine sw_get (C := RX5) (T := TX5) (N := 10) (v := .ref (o0 + 41)) hx hb hts hw0 hown hK hz hs14 rfl 8 (by decide) hw1 (fun _ h9 => h9) rfl dX5_separate_26 ?_
      refine lv_iload_n hx hb dX5_separate_29 rfl (lv_at hl 0 rfl) ?_
      obtain ⟨ho18, hwp⟩ := hwp
      refine sw_aald hx hb hK hz ho18 dX5_separate_30 ?_
      refine lv_aload_n hx hb dX5_separate_31 rfl (lv_at hl 1 rfl) ?_
      refine sw_get (C := RX5) (T := TX5) (N := 10) (v := .ref (o0 + 26)) hx hb hts hw0 hown hK hz hs14 rfl 7 (by decide) hw6 (fun _ h9 => h9) rfl dX5_separate_32 ?_
      refine lv_iload_n hx hb dX5_separate_35 rfl (lv_at hl 2 rfl) ?_
      obtain ⟨ho19, hwp⟩ := hwp
      refine sw_aald hx hb hK hz ho19 dX5_separate_36 ?_
      obtain ⟨hs20, hwp⟩ := hwp
      obtain ⟨P21, hc22, hwp⟩ := hwp
      refine sw_callv hz (va_runV (As := [.ref (A (o0 + 26) (ix i1))]) (rest := []) ⟨hx, hb, hml, hown, hts⟩ (hc22 hK _) (cwV 1 hts gX5_separate_X4_become rfl rfl rfl (by decide +kernel) ⟨Nat.le_of_ble_eq_true rfl, Nat.le_of_ble_eq_true rfl⟩) (hz.preV hK hs20 rfl) rfl rfl hl.1 rfl (lv_room (Nat.le_of_ble_eq_true rfl)) dX5_separate_37 ⟨Nat.le_of_ble_eq_true rfl, Nat.le_of_ble_eq_true rfl⟩) (fun I23 L24 A25 H locs hp hz => ?_)
      have hwp := hwp I23 L24 A25 hp
      refine lv_aload_n hx hb dX5_separate_40 rfl (lv_at hl 1 rfl) ?_
      refine lv_dup hx hb dX5_separate_41 rfl ?_
      refine sw_get (C := RX5) (T := TX5) (N := 10) (v := .int (I23 o0 9)) hx hb hts hw0 hown hK hz hs14 rfl 9 (by decide) hw5 (fun _ h9 => h9) rfl dX5_separate_42 ?_
      refine lv_iconst (v := 1) hx hb dX5_separate_45 (by decide) ?_
      refine lv_iadd hx hb dX5_separate_46 ?_
      refine sw_putI (C := RX5) (T := TX5) (N := 10) hx hb hts hw0 tyX5 tyX5_ok nmX5 hown hK hz hs14 rfl 9 (by decide) hw5 (fun _ h9 => h9) rfl (by decide +kernel) rfl dX5_separate_47 (fun H locs I26 e_I26 hz => ?_)
      have hwp := hwp I26 e_I26
      refine lv_iload_n hx hb dX5_separate_50 rfl (lv_at hl 0 rfl) ?_
      refine lv_aload_n hx hb dX5_separate_51 rfl (lv_at hl 1 rfl) ?_
      refine sw_get (C := RX5) (T := TX5) (N := 10) (v := .ref (o0 + 26)) hx hb hts hw0 hown hK hz hs14 rfl 7 (by decide) hw6 (fun _ h9 => h9) rfl dX5_separate_52 ?_
      refine lv_iload_n hx hb dX5_separate_55 rfl (lv_at hl 2 rfl) ?_
      obtain ⟨ho27, hwp⟩ := hwp
      refine sw_aald hx hb hK hz ho27 dX5_separate_56 ?_
      obtain ⟨hs28, hwp⟩ := hwp
      refine sw_get (C := RX4) (T := TX4) (N := 2) (v := .int (I26 (A25 (o0 + 26) (ix i1)) 1)) hx hb hts hw2 hown hK hz hs28 rfl 1 (by decide) hw3 (fun _ h9 => h9) rfl dX5_separate_57 ?_
      refine lv_iload_n hx hb dX5_separate_60 rfl (lv_at hl 2 rfl) ?_
      obtain ⟨hn29, hwp⟩ := hwp
      refine lv_idiv hx hb dX5_separate_61 hn29 ?_
      refine lv_iadd hx hb dX5_separate_62 ?_
      refine lv_topi (fun v30 q_v30 => ?_)
      have hwp := hwp v30 q_v30
      refine lv_istore_n (lv' := [(3, .int v30), (2, .int v15), (0, .ref o0), (1, .int i1)]) hx hb dX5_separate_63 rfl hl (by decide) rfl (fun ls hl => ?_)
      refine lv_iconst (v := 0) hx hb dX5_separate_64 (by decide) ?_
      refine lv_istore (lv' := [(4, .int 0), (3, .int v30), (2, .int v15), (0, .ref o0), (1, .int i1)]) hx hb dX5_separate_65 hl (by decide) rfl (fun ls hl => ?_)
      exact wL67 _ _ _ _ _ _ _ _ _ hwp hz (lv_sub hl [3, 4, 2, 1, 0] rfl)
    · have hwp := hwp.2 q
      exact sw_vret hx hb hret hlocks hz hwp dX5_separate_24

