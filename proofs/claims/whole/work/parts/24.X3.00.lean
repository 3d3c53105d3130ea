def wp_X3_addAt (K : Cx) (I : TI) (L : TL) (A : TA) (o0 : Nat) (o1 : Nat) (i2 : Int32) (j3 : Int64) (Q : TI → TL → TA → Prop) : Prop := cxS K o1 = shX4 o1 ∧ aok (cxS K) (o1 + 1) 1 i2 ∧ cxS K o0 = shX3 o0 ∧ ¬ (L o0 0) = 0 ∧ aok (cxS K) (o1 + 1) 1 i2 ∧ ∀ L6 : TL, L6 = u2 L (o1 + 1) (ix i2) (fmJ ((L (o1 + 1) (ix i2)) + j3) (L o0 0)) → ∃ P7 : TI → TL → TA → Prop, ConV K yX4_settle wsX4_settle 0 0 I L6 A [.ref o1] P7 ∧ ∀ (I9 : TI) (L10 : TL) (A11 : TA), P7 I9 L10 A11 → Q I9 L10 A11
set_option maxHeartbeats 1000000 in
set_option maxRecDepth 100000 in
theorem w_X3_addAt (K : Cx) (I : TI) (L : TL) (A : TA) (o0 : Nat) (o1 : Nat) (i2 : Int32) (j3 : Int64) (Q : TI → TL → TA → Prop) (hwp : wp_X3_addAt K I L A o0 o1 i2 j3 Q) : ConV K yX3_addAt wsX3_addAt 1 40 I L A [.ref o0, .ref o1, .int i2, .long j3] Q := by
  intro hK sz
  refine Met.ofW (cc := cX3_addAt) (maxL := 5) (ret := none) (by decide) rfl ?_
  intro p e s m args below meth c s₁ B hml hv
  obtain ⟨rfl, hsz, hB⟩ := hv
  have hx := B.exec
  have hb := B.bytes
  have hret := B.returns
  have hts := atoms_spec (ws := wsX3_addAt) B.pre
  have hown : s.vm.findClass RX3 = some m.cls := findClass_of_methodNamed B.named
  have hlocks := B.notSynchronized
  subst hsz
  have hz : SS K s I L A s.heap [] := PS.start hB
  have hl := lv_entry ([.ref o0, .ref o1, .int i2, .long j3]) (n := 5) (Nat.le_of_ble_eq_true rfl)
  rw [lg_entry_eq]
  generalize (lg_sl ([.ref o0, .ref o1, .int i2, .long j3]) ++ List.replicate (5 - (lg_sl ([.ref o0, .ref o1, .int i2, .long j3])).length) Slot.unset).toArray = ls at hl ⊢
  have hl : lv_has ls 5 [(0, .ref o0), (1, .ref o1), (2, .int i2), (3, .long j3)] := hl
  have hw0 : ∀ w ∈ u_ws RX4 TX4 2, w ∈ wsX3_addAt := by decide +kernel
  have hw1 := hts (.fieldLink RX3 31 "GaloisDesk$Row" "c" "[J") (by decide +kernel)
  have hw2 : ∀ w ∈ u_ws RX3 TX3 4, w ∈ wsX3_addAt := by decide +kernel
  have hw3 := hts (.fieldLink RX3 11 "GaloisDesk$Residues" "modulus" "J") (by decide +kernel)
  have hw4 := hts (.methodLink RX3 34 yJ9_floorMod_f86c9) (by decide +kernel)
  have hw5 := hts (.static yJ9_floorMod_f86c9) (by decide +kernel)
  have hw6 := hts (.initialized RJ9) (by decide +kernel)
  have hw7 := hts (.code yJ9_floorMod_f86c9 cJ9_floorMod_f86c9 6 (some .long)) (by decide +kernel)
  clear hB B
  refine lv_aload_n hx hb dX3_addAt_0 rfl (lv_at hl 1 rfl) ?_
  obtain ⟨hs1, hwp⟩ := hwp
  refine sw_get (C := RX4) (T := TX4) (N := 2) (v := .ref (o1 + 1)) hx hb hts hw0 hown hK hz hs1 rfl 0 (by decide) hw1 (fun _ h9 => h9) rfl dX3_addAt_1 ?_
  refine lv_iload_n hx hb dX3_addAt_4 rfl (lv_at hl 2 rfl) ?_
  refine lv_aload_n hx hb dX3_addAt_5 rfl (lv_at hl 1 rfl) ?_
  refine sw_get (C := RX4) (T := TX4) (N := 2) (v := .ref (o1 + 1)) hx hb hts hw0 hown hK hz hs1 rfl 0 (by decide) hw1 (fun _ h9 => h9) rfl dX3_addAt_6 ?_
  refine lv_iload_n hx hb dX3_addAt_9 rfl (lv_at hl 2 rfl) ?_
  obtain ⟨ho2, hwp⟩ := hwp
  refine sw_lald hx hb hK hz ho2 dX3_addAt_10 ?_
  refine lv_lload_n hx hb dX3_addAt_11 rfl (lv_at hl 3 rfl) ?_
  refine lv_ladd hx hb dX3_addAt_12 ?_
  refine lv_aload_n hx hb dX3_addAt_13 rfl (lv_at hl 0 rfl) ?_
  obtain ⟨hs3, hwp⟩ := hwp
  refine sw_get (C := RX3) (T := TX3) (N := 4) (v := .long (L o0 0)) hx hb hts hw2 hown hK hz hs3 rfl 0 (by decide) hw3 (fun _ h9 => h9) rfl dX3_addAt_14 ?_
  obtain ⟨hn4, hwp⟩ := hwp
  refine sw_floor hx hb (by rw [hml]; exact hl.1.symm) hown hw4 hw5 hw6 hw7 (Nat.le_of_ble_eq_true rfl) (Nat.le_of_ble_eq_true rfl) (Nat.le_of_ble_eq_true rfl) (Nat.le_of_ble_eq_true rfl) hn4 dX3_addAt_17 ?_
  refine W.eq (g2 := F0 m 20 ls [.long (fmJ ((L (o1 + 1) (ix i2)) + j3) (L o0 0)), .int i2, .ref (o1 + 1)]) rfl ?_
  obtain ⟨ho5, hwp⟩ := hwp
  refine sw_last hx hb hK hz ho5 dX3_addAt_20 (fun H locs L6 e_L6 hz => ?_)
  have hwp := hwp L6 e_L6
  refine lv_aload_n hx hb dX3_addAt_21 rfl (lv_at hl 1 rfl) ?_
  obtain ⟨P7, hc8, hwp⟩ := hwp
  refine sw_callv hz (va_runV (As := []) (rest := []) ⟨hx, hb, hml, hown, hts⟩ (hc8 hK _) (cwV 0 hts gX3_addAt_X4_settle rfl rfl rfl (by decide +kernel) ⟨Nat.le_of_ble_eq_true rfl, Nat.le_of_ble_eq_true rfl⟩) (hz.preV hK hs1 rfl) rfl rfl hl.1 rfl (lv_room (Nat.le_of_ble_eq_true rfl)) dX3_addAt_22 ⟨Nat.le_of_ble_eq_true rfl, Nat.le_of_ble_eq_true rfl⟩) (fun I9 L10 A11 H locs hp hz => ?_)
  have hwp := hwp I9 L10 A11 hp
  exact sw_vret hx hb hret hlocks hz hwp dX3_addAt_25

def wp_X3_multiplyModulo_200 (K : Cx) (o0 : Nat) (o1 : Nat) (o2 : Nat) (o3 : Nat) (o4 : Nat) (I : TI) (L : TL) (A : TA) (x5 : Int32) (Q : TI → TL → TA → Prop) : Prop := ∃ (Inv : Nat → TI → TL → TA → Int32 → Prop) (μ : Nat), Inv μ I L A x5 ∧ ∀ (μ : Nat) (C200 : TI → TL → TA → Int32 → Prop), (∀ (μ' : Nat) (I : TI) (L : TL) (A : TA) (x5 : Int32) , μ' < μ → Inv μ' I L A x5 → C200 I L A x5) → ∀ (I : TI) (L : TL) (A : TA) (x5 : Int32) , Inv μ I L A x5 → ((13 ≤ x5 → cxS K o1 = shX4 o1 ∧ ∃ P2 : TI → TL → TA → Prop, ConV K yX4_settle wsX4_settle 0 0 I L A [.ref o1] P2 ∧ ∀ (I4 : TI) (L5 : TL) (A6 : TA), P2 I4 L5 A6 → Q I4 L5 A6) ∧ (¬ 13 ≤ x5 → cxS K o1 = shX4 o1 ∧ cxS K o0 = shX3 o0 ∧ aok (cxS K) (o0 + 1) 1 x5 ∧ ¬ (L o0 0) = 0 ∧ aok (cxS K) (o1 + 1) 1 x5 ∧ ∀ L12 : TL, L12 = u2 L (o1 + 1) (ix x5) (fmJ (L (o0 + 1) (ix x5)) (L o0 0)) → ∀ v13 : Int32, v13 = x5 + 1 → C200 I L12 A v13))
def wp_X3_multiplyModulo_138 (K : Cx) (o0 : Nat) (o1 : Nat) (o2 : Nat) (o3 : Nat) (o4 : Nat) (C98 : TI → TL → TA → Int32 → Prop) (I : TI) (L : TL) (A : TA) (x5 : Int32) (x6 : Int64) (x8 : Int32) (Q : TI → TL → TA → Prop) : Prop := ∃ (Inv : Nat → TI → TL → TA → Int32 → Int64 → Int32 → Prop) (μ : Nat), Inv μ I L A x5 x6 x8 ∧ ∀ (μ : Nat) (C138 : TI → TL → TA → Int32 → Int64 → Int32 → Prop), (∀ (μ' : Nat) (I : TI) (L : TL) (A : TA) (x5 : Int32) (x6 : Int64) (x8 : Int32) , μ' < μ → Inv μ' I L A x5 x6 x8 → C138 I L A x5 x6 x8) → ∀ (I : TI) (L : TL) (A : TA) (x5 : Int32) (x6 : Int64) (x8 : Int32) , Inv μ I L A x5 x6 x8 → cxS K o4 = shX4 o4 ∧ (((I o4 1) ≤ x8 → ∀ v15 : Int32, v15 = x5 + (-1) → C98 I L A v15) ∧ (¬ (I o4 1) ≤ x8 → ((x6 = 0 → ∀ v16 : Int32, v16 = x5 + (-1) → C98 I L A v16) ∧ (¬ x6 = 0 → cxS K o0 = shX3 o0 ∧ aok (cxS K) (o0 + 1) 1 ((x5 - (I o4 1)) + x8) ∧ aok (cxS K) (o4 + 1) 1 x8 ∧ aok (cxS K) (o0 + 1) 1 ((x5 - (I o4 1)) + x8) ∧ ∀ L21 : TL, L21 = u2 L (o0 + 1) (ix ((x5 - (I o4 1)) + x8)) ((L (o0 + 1) (ix ((x5 - (I o4 1)) + x8))) - (x6 * (L (o4 + 1) (ix x8)))) → ∀ v22 : Int32, v22 = x8 + 1 → C138 I L21 A x5 x6 v22))))
def wp_X3_multiplyModulo_98 (K : Cx) (o0 : Nat) (o1 : Nat) (o2 : Nat) (o3 : Nat) (o4 : Nat) (I : TI) (L : TL) (A : TA) (x5 : Int32) (Q : TI → TL → TA → Prop) : Prop := ∃ (Inv : Nat → TI → TL → TA → Int32 → Prop) (μ : Nat), Inv μ I L A x5 ∧ ∀ (μ : Nat) (C98 : TI → TL → TA → Int32 → Prop), (∀ (μ' : Nat) (I : TI) (L : TL) (A : TA) (x5 : Int32) , μ' < μ → Inv μ' I L A x5 → C98 I L A x5) → ∀ (I : TI) (L : TL) (A : TA) (x5 : Int32) , Inv μ I L A x5 → cxS K o4 = shX4 o4 ∧ ((x5 < (I o4 1) → wp_X3_multiplyModulo_200 K o0 o1 o2 o3 o4 I L A 0 Q) ∧ (¬ x5 < (I o4 1) → ((x5 < 0 → wp_X3_multiplyModulo_200 K o0 o1 o2 o3 o4 I L A 0 Q) ∧ (¬ x5 < 0 → cxS K o0 = shX3 o0 ∧ aok (cxS K) (o0 + 1) 1 x5 ∧ ¬ (L o0 0) = 0 ∧ ∀ v27 : Int64, v27 = ((L (o0 + 1) (ix x5)) - (L (o0 + 1) (ix x5)) / (L o0 0) * (L o0 0)) → aok (cxS K) (o0 + 1) 1 x5 ∧ ∀ L29 : TL, L29 = u2 L (o0 + 1) (ix x5) 0 → wp_X3_multiplyModulo_138 K o0 o1 o2 o3 o4 C98 I L29 A x5 v27 0 Q))))
def wp_X3_multiplyModulo_23 (K : Cx) (o0 : Nat) (o1 : Nat) (o2 : Nat) (o3 : Nat) (o4 : Nat) (C11 : TI → TL → TA → Int32 → Prop) (I : TI) (L : TL) (A : TA) (x5 : Int32) (x6 : Int32) (Q : TI → TL → TA → Prop) : Prop := ∃ (Inv : Nat → TI → TL → TA → Int32 → Int32 → Prop) (μ : Nat), Inv μ I L A x5 x6 ∧ ∀ (μ : Nat) (C23 : TI → TL → TA → Int32 → Int32 → Prop), (∀ (μ' : Nat) (I : TI) (L : TL) (A : TA) (x5 : Int32) (x6 : Int32) , μ' < μ → Inv μ' I L A x5 x6 → C23 I L A x5 x6) → ∀ (I : TI) (L : TL) (A : TA) (x5 : Int32) (x6 : Int32) , Inv μ I L A x5 x6 → cxS K o3 = shX4 o3 ∧ (((I o3 1) < x6 → ∀ v31 : Int32, v31 = x5 + 1 → C11 I L A v31) ∧ (¬ (I o3 1) < x6 → ((13 ≤ (x5 + x6) → ∀ v32 : Int32, v32 = x5 + 1 → C11 I L A v32) ∧ (¬ 13 ≤ (x5 + x6) → cxS K o0 = shX3 o0 ∧ aok (cxS K) (o0 + 1) 1 (x5 + x6) ∧ cxS K o2 = shX4 o2 ∧ aok (cxS K) (o2 + 1) 1 x5 ∧ aok (cxS K) (o3 + 1) 1 x6 ∧ aok (cxS K) (o0 + 1) 1 (x5 + x6) ∧ ∀ L39 : TL, L39 = u2 L (o0 + 1) (ix (x5 + x6)) ((L (o0 + 1) (ix (x5 + x6))) + ((L (o2 + 1) (ix x5)) * (L (o3 + 1) (ix x6)))) → ∀ v40 : Int32, v40 = x6 + 1 → C23 I L39 A x5 v40))))
def wp_X3_multiplyModulo_11 (K : Cx) (o0 : Nat) (o1 : Nat) (o2 : Nat) (o3 : Nat) (o4 : Nat) (I : TI) (L : TL) (A : TA) (x5 : Int32) (Q : TI → TL → TA → Prop) : Prop := ∃ (Inv : Nat → TI → TL → TA → Int32 → Prop) (μ : Nat), Inv μ I L A x5 ∧ ∀ (μ : Nat) (C11 : TI → TL → TA → Int32 → Prop), (∀ (μ' : Nat) (I : TI) (L : TL) (A : TA) (x5 : Int32) , μ' < μ → Inv μ' I L A x5 → C11 I L A x5) → ∀ (I : TI) (L : TL) (A : TA) (x5 : Int32) , Inv μ I L A x5 → cxS K o2 = shX4 o2 ∧ (((I o2 1) < x5 → cxS K o3 = shX4 o3 ∧ ∀ v43 : Int32, v43 = (minJ ((I o2 1) + (I o3 1)) 12) → wp_X3_multiplyModulo_98 K o0 o1 o2 o3 o4 I L A v43 Q) ∧ (¬ (I o2 1) < x5 → wp_X3_multiplyModulo_23 K o0 o1 o2 o3 o4 C11 I L A x5 0 Q))
def wp_X3_multiplyModulo (K : Cx) (I : TI) (L : TL) (A : TA) (o0 : Nat) (o1 : Nat) (o2 : Nat) (o3 : Nat) (o4 : Nat) (Q : TI → TL → TA → Prop) : Prop := cxS K o0 = shX3 o0 ∧ ∃ P45 : TI → TL → TA → Prop, ConV K yJ7_fill_d0a16 wsJ7_fill_d0a16 0 0 I L A [.ref (o0 + 1), .long 0] P45 ∧ ∀ (I47 : TI) (L48 : TL) (A49 : TA), P45 I47 L48 A49 → wp_X3_multiplyModulo_11 K o0 o1 o2 o3 o4 I47 L48 A49 0 Q
set_option maxHeartbeats 1000000 in
set_option maxRecDepth 100000 in
theorem w_X3_multiplyModulo (K : Cx) (I : TI) (L : TL) (A : TA) (o0 : Nat) (o1 : Nat) (o2 : Nat) (o3 : Nat) (o4 : Nat) (Q : TI → TL → TA → Prop) (hwp : wp_X3_multiplyModulo K I L A o0 o1 o2 o3 o4 Q) : ConV K yX3_multiplyModulo wsX3_multiplyModulo 1 40 I L A [.ref o0, .ref o1, .ref o2, .ref o3, .ref o4] Q := by
  intro hK sz
  refine Met.ofW (cc := cX3_multiplyModulo) (maxL := 9) (ret := none) (by decide) rfl ?_
  intro p e s m args below meth c s₁ B hml hv
  obtain ⟨rfl, hsz, hB⟩ := hv
  have hx := B.exec
  have hb := B.bytes
  have hret := B.returns
  have hts := atoms_spec (ws := wsX3_multiplyModulo) B.pre
  have hown : s.vm.findClass RX3 = some m.cls := findClass_of_methodNamed B.named
  have hlocks := B.notSynchronized
  subst hsz
  have hz : SS K s I L A s.heap [] := PS.start hB
  have hl := lv_entry ([.ref o0, .ref o1, .ref o2, .ref o3, .ref o4]) (n := 9) (Nat.le_of_ble_eq_true rfl)
  rw [lg_entry_eq]
  generalize (lg_sl ([.ref o0, .ref o1, .ref o2, .ref o3, .ref o4]) ++ List.replicate (9 - (lg_sl ([.ref o0, .ref o1, .ref o2, .ref o3, .ref o4])).length) Slot.unset).toArray = ls at hl ⊢
  have hl : lv_has ls 9 [(0, .ref o0), (1, .ref o1), (2, .ref o2), (3, .ref o3), (4, .ref o4)] := hl
  have hw0 : ∀ w ∈ u_ws RX4 TX4 2, w ∈ wsX3_multiplyModulo := by decide +kernel
  have hw1 := hts (.fieldLink RX3 31 "GaloisDesk$Row" "c" "[J") (by decide +kernel)
  have hw2 : ∀ w ∈ u_ws RX3 TX3 4, w ∈ wsX3_multiplyModulo := by decide +kernel
  have hw3 := hts (.fieldLink RX3 17 "GaloisDesk$Residues" "wide" "[J") (by decide +kernel)
  have hw4 := hts (.fieldLink RX3 11 "GaloisDesk$Residues" "modulus" "J") (by decide +kernel)
  have hw5 := hts (.methodLink RX3 34 yJ9_floorMod_f86c9) (by decide +kernel)
  have hw6 := hts (.static yJ9_floorMod_f86c9) (by decide +kernel)
  have hw7 := hts (.initialized RJ9) (by decide +kernel)
  have hw8 := hts (.code yJ9_floorMod_f86c9 cJ9_floorMod_f86c9 6 (some .long)) (by decide +kernel)
  have hw9 := hts (.fieldLink RX3 47 "GaloisDesk$Row" "top" "I") (by decide +kernel)
  have hw10 := hts (.methodLink RX3 82 Lib.Math.min.name) (by decide +kernel)
  have hw11 := hts (.static Lib.Math.min.name) (by decide +kernel)
  have hw12 := hts (.initialized "java/lang/Math") (by decide +kernel)
  have hw13 := hts (.code Lib.Math.min.name Lib.Math.min.code 2 (some .int)) (by decide +kernel)
  clear hB B
  have wL200 : ∀ (I : TI) (L : TL) (A : TA) (x5 : Int32) (H : Heap) (locs : List Loc) (ls : Array Slot), wp_X3_multiplyModulo_200 K o0 o1 o2 o3 o4 I L A x5 Q → SS K s I L A H locs → lv_has ls 9 [(0, .ref o0), (1, .ref o1), (5, .int x5)] → W p (cxl K) e (headSpec wsX3_multiplyModulo (rmF 1 40)).room s m ([.ref o0, .ref o1, .ref o2, .ref o3, .ref o4] : List Value).toArray below meth c H locs 0 0 (MQ below (cxQv K Q) ([.ref o0, .ref o1, .ref o2, .ref o3, .ref o4] : List Value).toArray s 0 0 (PA (cxb K))) (F0 m 200 ls []) := by
    intro I L A x5 H locs ls hwp hz hl
    obtain ⟨Inv, μ, hi, hst⟩ := hwp
    have key : ∀ (μ : Nat) (I : TI) (L : TL) (A : TA) (x5 : Int32) (H : Heap) (locs : List Loc) (ls : Array Slot), Inv μ I L A x5 → SS K s I L A H locs → lv_has ls 9 [(0, .ref o0), (1, .ref o1), (5, .int x5)] → W p (cxl K) e (headSpec wsX3_multiplyModulo (rmF 1 40)).room s m ([.ref o0, .ref o1, .ref o2, .ref o3, .ref o4] : List Value).toArray below meth c H locs 0 0 (MQ below (cxQv K Q) ([.ref o0, .ref o1, .ref o2, .ref o3, .ref o4] : List Value).toArray s 0 0 (PA (cxb K))) (F0 m 200 ls []) := by
      clear hi hz hl
      intro μ
      induction μ using Nat.strongRecOn with | ind μ ih => ?_
      intro I L A x5 H locs ls hi hz hl
      obtain ⟨C200, hCd⟩ : ∃ C : TI → TL → TA → Int32 → Prop, C = fun I L A x5 => ∃ μ', μ' < μ ∧ Inv μ' I L A x5 := ⟨_, rfl⟩
      have hC200 : ∀ (I : TI) (L : TL) (A : TA) (x5 : Int32) (H : Heap) (locs : List Loc) (ls : Array Slot), C200 I L A x5 → SS K s I L A H locs → lv_has ls 9 [(0, .ref o0), (1, .ref o1), (5, .int x5)] → W p (cxl K) e (headSpec wsX3_multiplyModulo (rmF 1 40)).room s m ([.ref o0, .ref o1, .ref o2, .ref o3, .ref o4] : List Value).toArray below meth c H locs 0 0 (MQ below (cxQv K Q) ([.ref o0, .ref o1, .ref o2, .ref o3, .ref o4] : List Value).toArray s 0 0 (PA (cxb K))) (F0 m 200 ls []) := by
        intro I L A x5 H locs ls hc hz hl
        rw [hCd] at hc
        obtain ⟨μ', hlt, hc⟩ := hc
        exact ih μ' hlt I L A x5 H locs ls hc hz hl
      have hwp := hst μ C200 (fun μ' I L A x5 hlt hc => by rw [hCd]; exact ⟨μ', hlt, hc⟩) I L A x5 hi
      refine lv_iload hx hb dX3_multiplyModulo_200 (lv_at hl 2 rfl) ?_
      refine lv_bipush (v := 13) hx hb dX3_multiplyModulo_202 (by decide) ?_
      refine lv_icmp_ge (tgt := 234) hx hb dX3_multiplyModulo_204 (by decide) (fun q => ?_) (fun q => ?_)
      · have hwp := hwp.1 q
        refine lv_aload_n hx hb dX3_multiplyModulo_234 rfl (lv_at hl 1 rfl) ?_
        obtain ⟨hs1, hwp⟩ := hwp
        obtain ⟨P2, hc3, hwp⟩ := hwp
        refine sw_callv hz (va_runV (As := []) (rest := []) ⟨hx, hb, hml, hown, hts⟩ (hc3 hK _) (cwV 0 hts gX3_multiplyModulo_X4_settle rfl rfl rfl (by decide +kernel) ⟨Nat.le_of_ble_eq_true rfl, Nat.le_of_ble_eq_true rfl⟩) (hz.preV hK hs1 rfl) rfl rfl hl.1 rfl (lv_room (Nat.le_of_ble_eq_true rfl)) dX3_multiplyModulo_235 ⟨Nat.le_of_ble_eq_true rfl, Nat.le_of_ble_eq_true rfl⟩) (fun I4 L5 A6 H locs hp hz => ?_)
        have hwp := hwp I4 L5 A6 hp
        exact sw_vret hx hb hret hlocks hz hwp dX3_multiplyModulo_238
      · have hwp := hwp.2 q
        refine lv_aload_n hx hb dX3_multiplyModulo_207 rfl (lv_at hl 1 rfl) ?_
        obtain ⟨hs7, hwp⟩ := hwp
        refine sw_get (C := RX4) (T := TX4) (N := 2) (v := .ref (o1 + 1)) hx hb hts hw0 hown hK hz hs7 rfl 0 (by decide) hw1 (fun _ h9 => h9) rfl dX3_multiplyModulo_208 ?_
        refine lv_iload hx hb dX3_multiplyModulo_211 (lv_at hl 2 rfl) ?_
        refine lv_aload_n hx hb dX3_multiplyModulo_213 rfl (lv_at hl 0 rfl) ?_
        obtain ⟨hs8, hwp⟩ := hwp
        refine sw_get (C := RX3) (T := TX3) (N := 4) (v := .ref (o0 + 1)) hx hb hts hw2 hown hK hz hs8 rfl 1 (by decide) hw3 (fun _ h9 => h9) rfl dX3_multiplyModulo_214 ?_
        refine lv_iload hx hb dX3_multiplyModulo_217 (lv_at hl 2 rfl) ?_
        obtain ⟨ho9, hwp⟩ := hwp
        refine sw_lald hx hb hK hz ho9 dX3_multiplyModulo_219 ?_
        refine lv_aload_n hx hb dX3_multiplyModulo_220 rfl (lv_at hl 0 rfl) ?_
        refine sw_get (C := RX3) (T := TX3) (N := 4) (v := .long (L o0 0)) hx hb hts hw2 hown hK hz hs8 rfl 0 (by decide) hw4 (fun _ h9 => h9) rfl dX3_multiplyModulo_221 ?_
        obtain ⟨hn10, hwp⟩ := hwp
        refine sw_floor hx hb (by rw [hml]; exact hl.1.symm) hown hw5 hw6 hw7 hw8 (Nat.le_of_ble_eq_true rfl) (Nat.le_of_ble_eq_true rfl) (Nat.le_of_ble_eq_true rfl) (Nat.le_of_ble_eq_true rfl) hn10 dX3_multiplyModulo_224 ?_
        refine W.eq (g2 := F0 m 227 ls [.long (fmJ (L (o0 + 1) (ix x5)) (L o0 0)), .int x5, .ref (o1 + 1)]) rfl ?_
        obtain ⟨ho11, hwp⟩ := hwp
        refine sw_last hx hb hK hz ho11 dX3_multiplyModulo_227 (fun H locs L12 e_L12 hz => ?_)
        have hwp := hwp L12 e_L12
        obtain ⟨v13, q_v13⟩ : ∃ y : Int32, y = x5 + 1 := ⟨_, rfl⟩
        have hwp := hwp v13 q_v13
        refine lv_iinc (v := v13) (lv' := [(5, .int v13), (0, .ref o0), (1, .ref o1)]) hx hb dX3_multiplyModulo_228 hl (k := 2) rfl (by rw [q_v13]; rfl) (by decide) rfl (fun ls hl => ?_)
        refine lv_goto (tgt := 200) hx hb dX3_multiplyModulo_231 (by decide) ?_
        exact hC200 _ _ _ _ _ _ _ hwp hz (lv_sub hl [1, 2, 0] rfl)
    exact key μ I L A x5 H locs ls hi hz hl
  have wL138 : ∀ (C98 : TI → TL → TA → Int32 → Prop) (hC98 : ∀ (I : TI) (L : TL) (A : TA) (x5 : Int32) (H : Heap) (locs : List Loc) (ls : Array Slot), C98 I L A x5 → SS K s I L A H locs → lv_has ls 9 [(0, .ref o0), (1, .ref o1), (4, .ref o4), (5, .int x5)] → W p (cxl K) e (headSpec wsX3_multiplyModulo (rmF 1 40)).room s m ([.ref o0, .ref o1, .ref o2, .ref o3, .ref o4] : List Value).toArray below meth c H locs 0 0 (MQ below (cxQv K Q) ([.ref o0, .ref o1, .ref o2, .ref o3, .ref o4] : List Value).toArray s 0 0 (PA (cxb K))) (F0 m 98 ls [])) (I : TI) (L : TL) (A : TA) (x5 : Int32) (x6 : Int64) (x8 : Int32) (H : Heap) (locs : List Loc) (ls : Array Slot), wp_X3_multiplyModulo_138 K o0 o1 o2 o3 o4 C98 I L A x5 x6 x8 Q → SS K s I L A H locs → lv_has ls 9 [(0, .ref o0), (1, .ref o1), (4, .ref o4), (5, .int x5), (6, .long x6), (8, .int x8)] → W p (cxl K) e (headSpec wsX3_multiplyModulo (rmF 1 40)).room s m ([.ref o0, .ref o1, .ref o2, .ref o3, .ref o4] : List Value).toArray below meth c H locs 0 0 (MQ below (cxQv K Q) ([.ref o0, .ref o1, .ref o2, .ref o3, .ref o4] : List Value).toArray s 0 0 (PA (cxb K))) (F0 m 138 ls []) := by
    intro C98 hC98 I L A x5 x6 x8 H locs ls hwp hz hl
    obtain ⟨Inv, μ, hi, hst⟩ := hwp
    have key : ∀ (μ : Nat) (I : TI) (L : TL) (A : TA) (x5 : Int32) (x6 : Int64) (x8 : Int32) (H : Heap) (locs : List Loc) (ls : Array Slot), Inv μ I L A x5 x6 x8 → SS K s I L A H locs → lv_has ls 9 [(0, .ref o0), (1, .ref o1), (4, .ref o4), (5, .int x5), (6, .long x6), (8, .int x8)] → W p (cxl K) e (headSpec wsX3_multiplyModulo (rmF 1 40)).room s m ([.ref o0, .ref o1, .ref o2, .ref o3, .ref o4] : List Value).toArray below meth c H locs 0 0 (MQ below (cxQv K Q) ([.ref o0, .ref o1, .ref o2, .ref o3, .ref o4] : List Value).toArray s 0 0 (PA (cxb K))) (F0 m 138 ls []) := by
      clear hi hz hl
      intro μ
      induction μ using Nat.strongRecOn with | ind μ ih => ?_
      intro I L A x5 x6 x8 H locs ls hi hz hl
      obtain ⟨C138, hCd⟩ : ∃ C : TI → TL → TA → Int32 → Int64 → Int32 → Prop, C = fun I L A x5 x6 x8 => ∃ μ', μ' < μ ∧ Inv μ' I L A x5 x6 x8 := ⟨_, rfl⟩
      have hC138 : ∀ (I : TI) (L : TL) (A : TA) (x5 : Int32) (x6 : Int64) (x8 : Int32) (H : Heap) (locs : List Loc) (ls : Array Slot), C138 I L A x5 x6 x8 → SS K s I L A H locs → lv_has ls 9 [(0, .ref o0), (1, .ref o1), (4, .ref o4), (5, .int x5), (6, .long x6), (8, .int x8)] → W p (cxl K) e (headSpec wsX3_multiplyModulo (rmF 1 40)).room s m ([.ref o0, .ref o1, .ref o2, .ref o3, .ref o4] : List Value).toArray below meth c H locs 0 0 (MQ below (cxQv K Q) ([.ref o0, .ref o1, .ref o2, .ref o3, .ref o4] : List Value).toArray s 0 0 (PA (cxb K))) (F0 m 138 ls []) := by
        intro I L A x5 x6 x8 H locs ls hc hz hl
        rw [hCd] at hc
        obtain ⟨μ', hlt, hc⟩ := hc
        exact ih μ' hlt I L A x5 x6 x8 H locs ls hc hz hl
      have hwp := hst μ C138 (fun μ' I L A x5 x6 x8 hlt hc => by rw [hCd]; exact ⟨μ', hlt, hc⟩) I L A x5 x6 x8 hi
      refine lv_iload hx hb dX3_multiplyModulo_138 (lv_at hl 5 rfl) ?_
      refine lv_aload hx hb dX3_multiplyModulo_140 (lv_at hl 2 rfl) ?_
      obtain ⟨hs14, hwp⟩ := hwp
      refine sw_get (C := RX4) (T := TX4) (N := 2) (v := .int (I o4 1)) hx hb hts hw0 hown hK hz hs14 rfl 1 (by decide) hw9 (fun _ h9 => h9) rfl dX3_multiplyModulo_142 ?_
      refine lv_icmp_ge (tgt := 191) hx hb dX3_multiplyModulo_145 (by decide) (fun q => ?_) (fun q => ?_)
      · have hwp := hwp.1 q
        obtain ⟨v15, q_v15⟩ : ∃ y : Int32, y = x5 + (-1) := ⟨_, rfl⟩
        have hwp := hwp v15 q_v15
        refine lv_iinc (v := v15) (lv' := [(5, .int v15), (0, .ref o0), (1, .ref o1), (4, .ref o4), (6, .long x6), (8, .int x8)]) hx hb dX3_multiplyModulo_191 hl (k := 3) rfl (by rw [q_v15]; rfl) (by decide) rfl (fun ls hl => ?_)
        refine lv_goto (tgt := 98) hx hb dX3_multiplyModulo_194 (by decide) ?_
        exact hC98 _ _ _ _ _ _ _ hwp hz (lv_sub hl [1, 2, 3, 0] rfl)
      · have hwp := hwp.2 q
        refine lv_lload hx hb dX3_multiplyModulo_148 (lv_at hl 4 rfl) ?_
        refine lv_lconst (v := 0) hx hb dX3_multiplyModulo_150 (by decide) ?_
        refine W.lcmp hx hb dX3_multiplyModulo_151 ?_
        refine W.eq (g2 := F0 m 152 ls [.int (lg_cmp x6 0)]) rfl ?_
        refine lv_if_eq (tgt := 191) hx hb dX3_multiplyModulo_152 (by decide) (fun q => ?_) (fun q => ?_)
        · have hwp := hwp.1 ((lg_cmp_eq _ _).mp q)
          obtain ⟨v16, q_v16⟩ : ∃ y : Int32, y = x5 + (-1) := ⟨_, rfl⟩
          have hwp := hwp v16 q_v16
          refine lv_iinc (v := v16) (lv' := [(5, .int v16), (0, .ref o0), (1, .ref o1), (4, .ref o4), (6, .long x6), (8, .int x8)]) hx hb dX3_multiplyModulo_191 hl (k := 3) rfl (by rw [q_v16]; rfl) (by decide) rfl (fun ls hl => ?_)
          refine lv_goto (tgt := 98) hx hb dX3_multiplyModulo_194 (by decide) ?_
          exact hC98 _ _ _ _ _ _ _ hwp hz (lv_sub hl [1, 2, 3, 0] rfl)
        · have hwp := hwp.2 (fun h => q ((lg_cmp_eq _ _).mpr h))
          refine lv_aload_n hx hb dX3_multiplyModulo_155 rfl (lv_at hl 0 rfl) ?_
          obtain ⟨hs17, hwp⟩ := hwp
          refine sw_get (C := RX3) (T := TX3) (N := 4) (v := .ref (o0 + 1)) hx hb hts hw2 hown hK hz hs17 rfl 1 (by decide) hw3 (fun _ h9 => h9) rfl dX3_multiplyModulo_156 ?_
          refine lv_iload hx hb dX3_multiplyModulo_159 (lv_at hl 3 rfl) ?_
          refine lv_aload hx hb dX3_multiplyModulo_161 (lv_at hl 2 rfl) ?_
          refine sw_get (C := RX4) (T := TX4) (N := 2) (v := .int (I o4 1)) hx hb hts hw0 hown hK hz hs14 rfl 1 (by decide) hw9 (fun _ h9 => h9) rfl dX3_multiplyModulo_163 ?_
          refine lv_isub hx hb dX3_multiplyModulo_166 ?_
          refine lv_iload hx hb dX3_multiplyModulo_167 (lv_at hl 5 rfl) ?_
          refine lv_iadd hx hb dX3_multiplyModulo_169 ?_
          refine lv_dup2_11 hx hb dX3_multiplyModulo_170 rfl rfl ?_
          obtain ⟨ho18, hwp⟩ := hwp
          refine sw_lald hx hb hK hz ho18 dX3_multiplyModulo_171 ?_
          refine lv_lload hx hb dX3_multiplyModulo_172 (lv_at hl 4 rfl) ?_
          refine lv_aload hx hb dX3_multiplyModulo_174 (lv_at hl 2 rfl) ?_
          refine sw_get (C := RX4) (T := TX4) (N := 2) (v := .ref (o4 + 1)) hx hb hts hw0 hown hK hz hs14 rfl 0 (by decide) hw1 (fun _ h9 => h9) rfl dX3_multiplyModulo_176 ?_
          refine lv_iload hx hb dX3_multiplyModulo_179 (lv_at hl 5 rfl) ?_
          obtain ⟨ho19, hwp⟩ := hwp
          refine sw_lald hx hb hK hz ho19 dX3_multiplyModulo_181 ?_
          refine lv_lmul hx hb dX3_multiplyModulo_182 ?_
          refine lv_lsub hx hb dX3_multiplyModulo_183 ?_
          obtain ⟨ho20, hwp⟩ := hwp
          refine sw_last hx hb hK hz ho20 dX3_multiplyModulo_184 (fun H locs L21 e_L21 hz => ?_)
          have hwp := hwp L21 e_L21
          obtain ⟨v22, q_v22⟩ : ∃ y : Int32, y = x8 + 1 := ⟨_, rfl⟩
          have hwp := hwp v22 q_v22
          refine lv_iinc (v := v22) (lv' := [(8, .int v22), (0, .ref o0), (1, .ref o1), (4, .ref o4), (5, .int x5), (6, .long x6)]) hx hb dX3_multiplyModulo_185 hl (k := 5) rfl (by rw [q_v22]; rfl) (by decide) rfl (fun ls hl => ?_)
          refine lv_goto (tgt := 138) hx hb dX3_multiplyModulo_188 (by decide) ?_
          exact hC138 _ _ _ _ _ _ _ _ _ hwp hz (lv_sub hl [1, 2, 3, 4, 5, 0] rfl)
    exact key μ I L A x5 x6 x8 H locs ls hi hz hl
  have wL98 : ∀ (I : TI) (L : TL) (A : TA) (x5 : Int32) (H : Heap) (locs : List Loc) (ls : Array Slot), wp_X3_multiplyModulo_98 K o0 o1 o2 o3 o4 I L A x5 Q → SS K s I L A H locs → lv_has ls 9 [(0, .ref o0), (1, .ref o1), (4, .ref o4), (5, .int x5)] → W p (cxl K) e (headSpec wsX3_multiplyModulo (rmF 1 40)).room s m ([.ref o0, .ref o1, .ref o2, .ref o3, .ref o4] : List Value).toArray below meth c H locs 0 0 (MQ below (cxQv K Q) ([.ref o0, .ref o1, .ref o2, .ref o3, .ref o4] : List Value).toArray s 0 0 (PA (cxb K))) (F0 m 98 ls []) := by
    intro I L A x5 H locs ls hwp hz hl
    obtain ⟨Inv, μ, hi, hst⟩ := hwp
    have key : ∀ (μ : Nat) (I : TI) (L : TL) (A : TA) (x5 : Int32) (H : Heap) (locs : List Loc) (ls : Array Slot), Inv μ I L A x5 → SS K s I L A H locs → lv_has ls 9 [(0, .ref o0), (1, .ref o1), (4, .ref o4), (5, .int x5)] → W p (cxl K) e (headSpec wsX3_multiplyModulo (rmF 1 40)).room s m ([.ref o0, .ref o1, .ref o2, .ref o3, .ref o4] : List Value).toArray below meth c H locs 0 0 (MQ below (cxQv K Q) ([.ref o0, .ref o1, .ref o2, .ref o3, .ref o4] : List Value).toArray s 0 0 (PA (cxb K))) (F0 m 98 ls []) := by
      clear hi hz hl
      intro μ
      induction μ using Nat.strongRecOn with | ind μ ih => ?_
      intro I L A x5 H locs ls hi hz hl
      obtain ⟨C98, hCd⟩ : ∃ C : TI → TL → TA → Int32 → Prop, C = fun I L A x5 => ∃ μ', μ' < μ ∧ Inv μ' I L A x5 := ⟨_, rfl⟩
      have hC98 : ∀ (I : TI) (L : TL) (A : TA) (x5 : Int32) (H : Heap) (locs : List Loc) (ls : Array Slot), C98 I L A x5 → SS K s I L A H locs → lv_has ls 9 [(0, .ref o0), (1, .ref o1), (4, .ref o4), (5, .int x5)] → W p (cxl K) e (headSpec wsX3_multiplyModulo (rmF 1 40)).room s m ([.ref o0, .ref o1, .ref o2, .ref o3, .ref o4] : List Value).toArray below meth c H locs 0 0 (MQ below (cxQv K Q) ([.ref o0, .ref o1, .ref o2, .ref o3, .ref o4] : List Value).toArray s 0 0 (PA (cxb K))) (F0 m 98 ls []) := by
        intro I L A x5 H locs ls hc hz hl
        rw [hCd] at hc
        obtain ⟨μ', hlt, hc⟩ := hc
        exact ih μ' hlt I L A x5 H locs ls hc hz hl
      have hwp := hst μ C98 (fun μ' I L A x5 hlt hc => by rw [hCd]; exact ⟨μ', hlt, hc⟩) I L A x5 hi
      refine lv_iload hx hb dX3_multiplyModulo_98 (lv_at hl 3 rfl) ?_
      refine lv_aload hx hb dX3_multiplyModulo_100 (lv_at hl 2 rfl) ?_
      obtain ⟨hs23, hwp⟩ := hwp
      refine sw_get (C := RX4) (T := TX4) (N := 2) (v := .int (I o4 1)) hx hb hts hw0 hown hK hz hs23 rfl 1 (by decide) hw9 (fun _ h9 => h9) rfl dX3_multiplyModulo_102 ?_
      refine lv_icmp_lt (tgt := 197) hx hb dX3_multiplyModulo_105 (by decide) (fun q => ?_) (fun q => ?_)
      · have hwp := hwp.1 q
        refine lv_iconst (v := 0) hx hb dX3_multiplyModulo_197 (by decide) ?_
        refine lv_istore (lv' := [(5, .int 0), (0, .ref o0), (1, .ref o1), (4, .ref o4)]) hx hb dX3_multiplyModulo_198 hl (by decide) rfl (fun ls hl => ?_)
        exact wL200 _ _ _ _ _ _ _ hwp hz (lv_sub hl [1, 2, 0] rfl)
      · have hwp := hwp.2 q
        refine lv_iload hx hb dX3_multiplyModulo_108 (lv_at hl 3 rfl) ?_
        refine lv_if_lt (tgt := 197) hx hb dX3_multiplyModulo_110 (by decide) (fun q => ?_) (fun q => ?_)
        · have hwp := hwp.1 q
          refine lv_iconst (v := 0) hx hb dX3_multiplyModulo_197 (by decide) ?_
          refine lv_istore (lv' := [(5, .int 0), (0, .ref o0), (1, .ref o1), (4, .ref o4)]) hx hb dX3_multiplyModulo_198 hl (by decide) rfl (fun ls hl => ?_)
          exact wL200 _ _ _ _ _ _ _ hwp hz (lv_sub hl [1, 2, 0] rfl)
        · have hwp := hwp.2 q
          refine lv_aload_n hx hb dX3_multiplyModulo_113 rfl (lv_at hl 0 rfl) ?_
          obtain ⟨hs24, hwp⟩ := hwp
          refine sw_get (C := RX3) (T := TX3) (N := 4) (v := .ref (o0 + 1)) hx hb hts hw2 hown hK hz hs24 rfl 1 (by decide) hw3 (fun _ h9 => h9) rfl dX3_multiplyModulo_114 ?_
          refine lv_iload hx hb dX3_multiplyModulo_117 (lv_at hl 3 rfl) ?_
          obtain ⟨ho25, hwp⟩ := hwp
          refine sw_lald hx hb hK hz ho25 dX3_multiplyModulo_119 ?_
          refine lv_aload_n hx hb dX3_multiplyModulo_120 rfl (lv_at hl 0 rfl) ?_
          refine sw_get (C := RX3) (T := TX3) (N := 4) (v := .long (L o0 0)) hx hb hts hw2 hown hK hz hs24 rfl 0 (by decide) hw4 (fun _ h9 => h9) rfl dX3_multiplyModulo_121 ?_
          obtain ⟨hn26, hwp⟩ := hwp
          refine lv_lrem hx hb dX3_multiplyModulo_124 hn26 ?_
          refine lv_topl (fun v27 q_v27 => ?_)
          have hwp := hwp v27 q_v27
          refine lv_lstore (lv' := [(6, .long v27), (0, .ref o0), (1, .ref o1), (4, .ref o4), (5, .int x5)]) hx hb dX3_multiplyModulo_125 hl (by decide) rfl (fun ls hl => ?_)
          refine lv_aload_n hx hb dX3_multiplyModulo_127 rfl (lv_at hl 1 rfl) ?_
          refine sw_get (C := RX3) (T := TX3) (N := 4) (v := .ref (o0 + 1)) hx hb hts hw2 hown hK hz hs24 rfl 1 (by decide) hw3 (fun _ h9 => h9) rfl dX3_multiplyModulo_128 ?_
          refine lv_iload hx hb dX3_multiplyModulo_131 (lv_at hl 4 rfl) ?_
          refine lv_lconst (v := 0) hx hb dX3_multiplyModulo_133 (by decide) ?_
          obtain ⟨ho28, hwp⟩ := hwp
          refine sw_last hx hb hK hz ho28 dX3_multiplyModulo_134 (fun H locs L29 e_L29 hz => ?_)
          have hwp := hwp L29 e_L29
          refine lv_iconst (v := 0) hx hb dX3_multiplyModulo_135 (by decide) ?_
          refine lv_istore (lv' := [(8, .int 0), (6, .long v27), (0, .ref o0), (1, .ref o1), (4, .ref o4), (5, .int x5)]) hx hb dX3_multiplyModulo_136 hl (by decide) rfl (fun ls hl => ?_)
          exact wL138 _ hC98 _ _ _ _ _ _ _ _ _ hwp hz (lv_sub hl [2, 3, 4, 5, 1, 0] rfl)
    exact key μ I L A x5 H locs ls hi hz hl
  have wL23 : ∀ (C11 : TI → TL → TA → Int32 → Prop) (hC11 : ∀ (I : TI) (L : TL) (A : TA) (x5 : Int32) (H : Heap) (locs : List Loc) (ls : Array Slot), C11 I L A x5 → SS K s I L A H locs → lv_has ls 9 [(0, .ref o0), (1, .ref o1), (2, .ref o2), (3, .ref o3), (4, .ref o4), (5, .int x5)] → W p (cxl K) e (headSpec wsX3_multiplyModulo (rmF 1 40)).room s m ([.ref o0, .ref o1, .ref o2, .ref o3, .ref o4] : List Value).toArray below meth c H locs 0 0 (MQ below (cxQv K Q) ([.ref o0, .ref o1, .ref o2, .ref o3, .ref o4] : List Value).toArray s 0 0 (PA (cxb K))) (F0 m 11 ls [])) (I : TI) (L : TL) (A : TA) (x5 : Int32) (x6 : Int32) (H : Heap) (locs : List Loc) (ls : Array Slot), wp_X3_multiplyModulo_23 K o0 o1 o2 o3 o4 C11 I L A x5 x6 Q → SS K s I L A H locs → lv_has ls 9 [(0, .ref o0), (1, .ref o1), (2, .ref o2), (3, .ref o3), (4, .ref o4), (5, .int x5), (6, .int x6)] → W p (cxl K) e (headSpec wsX3_multiplyModulo (rmF 1 40)).room s m ([.ref o0, .ref o1, .ref o2, .ref o3, .ref o4] : List Value).toArray below meth c H locs 0 0 (MQ below (cxQv K Q) ([.ref o0, .ref o1, .ref o2, .ref o3, .ref o4] : List Value).toArray s 0 0 (PA (cxb K))) (F0 m 23 ls []) := by
    intro C11 hC11 I L A x5 x6 H locs ls hwp hz hl
    obtain ⟨Inv, μ, hi, hst⟩ := hwp
    have key : ∀ (μ : Nat) (I : TI) (L : TL) (A : TA) (x5 : Int32) (x6 : Int32) (H : Heap) (locs : List Loc) (ls : Array Slot), Inv μ I L A x5 x6 → SS K s I L A H locs → lv_has ls 9 [(0, .ref o0), (1, .ref o1), (2, .ref o2), (3, .ref o3), (4, .ref o4), (5, .int x5), (6, .int x6)] → W p (cxl K) e (headSpec wsX3_multiplyModulo (rmF 1 40)).room s m ([.ref o0, .ref o1, .ref o2, .ref o3, .ref o4] : List Value).toArray below meth c H locs 0 0 (MQ below (cxQv K Q) ([.ref o0, .ref o1, .ref o2, .ref o3, .ref o4] : List Value).toArray s 0 0 (PA (cxb K))) (F0 m 23 ls []) := by
      clear hi hz hl
      intro μ
      induction μ using Nat.strongRecOn with | ind μ ih => ?_
      intro I L A x5 x6 H locs ls hi hz hl
      obtain ⟨C23, hCd⟩ : ∃ C : TI → TL → TA → Int32 → Int32 → Prop, C = fun I L A x5 x6 => ∃ μ', μ' < μ ∧ Inv μ' I L A x5 x6 := ⟨_, rfl⟩
      have hC23 : ∀ (I : TI) (L : TL) (A : TA) (x5 : Int32) (x6 : Int32) (H : Heap) (locs : List Loc) (ls : Array Slot), C23 I L A x5 x6 → SS K s I L A H locs → lv_has ls 9 [(0, .ref o0), (1, .ref o1), (2, .ref o2), (3, .ref o3), (4, .ref o4), (5, .int x5), (6, .int x6)] → W p (cxl K) e (headSpec wsX3_multiplyModulo (rmF 1 40)).room s m ([.ref o0, .ref o1, .ref o2, .ref o3, .ref o4] : List Value).toArray below meth c H locs 0 0 (MQ below (cxQv K Q) ([.ref o0, .ref o1, .ref o2, .ref o3, .ref o4] : List Value).toArray s 0 0 (PA (cxb K))) (F0 m 23 ls []) := by
        intro I L A x5 x6 H locs ls hc hz hl
        rw [hCd] at hc
        obtain ⟨μ', hlt, hc⟩ := hc
        exact ih μ' hlt I L A x5 x6 H locs ls hc hz hl
      have hwp := hst μ C23 (fun μ' I L A x5 x6 hlt hc => by rw [hCd]; exact ⟨μ', hlt, hc⟩) I L A x5 x6 hi
      refine lv_iload hx hb dX3_multiplyModulo_23 (lv_at hl 6 rfl) ?_
      refine lv_aload_n hx hb dX3_multiplyModulo_25 rfl (lv_at hl 3 rfl) ?_
      obtain ⟨hs30, hwp⟩ := hwp
      refine sw_get (C := RX4) (T := TX4) (N := 2) (v := .int (I o3 1)) hx hb hts hw0 hown hK hz hs30 rfl 1 (by decide) hw9 (fun _ h9 => h9) rfl dX3_multiplyModulo_26 ?_
      refine lv_icmp_gt (tgt := 76) hx hb dX3_multiplyModulo_29 (by decide) (fun q => ?_) (fun q => ?_)
      · have hwp := hwp.1 q
        obtain ⟨v31, q_v31⟩ : ∃ y : Int32, y = x5 + 1 := ⟨_, rfl⟩
        have hwp := hwp v31 q_v31
        refine lv_iinc (v := v31) (lv' := [(5, .int v31), (0, .ref o0), (1, .ref o1), (2, .ref o2), (3, .ref o3), (4, .ref o4), (6, .int x6)]) hx hb dX3_multiplyModulo_76 hl (k := 5) rfl (by rw [q_v31]; rfl) (by decide) rfl (fun ls hl => ?_)
        refine lv_goto (tgt := 11) hx hb dX3_multiplyModulo_79 (by decide) ?_
        exact hC11 _ _ _ _ _ _ _ hwp hz (lv_sub hl [1, 2, 3, 4, 5, 0] rfl)
      · have hwp := hwp.2 q
        refine lv_iload hx hb dX3_multiplyModulo_32 (lv_at hl 5 rfl) ?_
        refine lv_iload hx hb dX3_multiplyModulo_34 (lv_at hl 6 rfl) ?_
        refine lv_iadd hx hb dX3_multiplyModulo_36 ?_
        refine lv_bipush (v := 13) hx hb dX3_multiplyModulo_37 (by decide) ?_
        refine lv_icmp_ge (tgt := 76) hx hb dX3_multiplyModulo_39 (by decide) (fun q => ?_) (fun q => ?_)
        · have hwp := hwp.1 q
          obtain ⟨v32, q_v32⟩ : ∃ y : Int32, y = x5 + 1 := ⟨_, rfl⟩
          have hwp := hwp v32 q_v32
          refine lv_iinc (v := v32) (lv' := [(5, .int v32), (0, .ref o0), (1, .ref o1), (2, .ref o2), (3, .ref o3), (4, .ref o4), (6, .int x6)]) hx hb dX3_multiplyModulo_76 hl (k := 5) rfl (by rw [q_v32]; rfl) (by decide) rfl (fun ls hl => ?_)
          refine lv_goto (tgt := 11) hx hb dX3_multiplyModulo_79 (by decide) ?_
          exact hC11 _ _ _ _ _ _ _ hwp hz (lv_sub hl [1, 2, 3, 4, 5, 0] rfl)
        · have hwp := hwp.2 q
          refine lv_aload_n hx hb dX3_multiplyModulo_42 rfl (lv_at hl 0 rfl) ?_
          obtain ⟨hs33, hwp⟩ := hwp
          refine sw_get (C := RX3) (T := TX3) (N := 4) (v := .ref (o0 + 1)) hx hb hts hw2 hown hK hz hs33 rfl 1 (by decide) hw3 (fun _ h9 => h9) rfl dX3_multiplyModulo_43 ?_
          refine lv_iload hx hb dX3_multiplyModulo_46 (lv_at hl 5 rfl) ?_
          refine lv_iload hx hb dX3_multiplyModulo_48 (lv_at hl 6 rfl) ?_
          refine lv_iadd hx hb dX3_multiplyModulo_50 ?_
          refine lv_dup2_11 hx hb dX3_multiplyModulo_51 rfl rfl ?_
          obtain ⟨ho34, hwp⟩ := hwp
          refine sw_lald hx hb hK hz ho34 dX3_multiplyModulo_52 ?_
          refine lv_aload_n hx hb dX3_multiplyModulo_53 rfl (lv_at hl 2 rfl) ?_
          obtain ⟨hs35, hwp⟩ := hwp
          refine sw_get (C := RX4) (T := TX4) (N := 2) (v := .ref (o2 + 1)) hx hb hts hw0 hown hK hz hs35 rfl 0 (by decide) hw1 (fun _ h9 => h9) rfl dX3_multiplyModulo_54 ?_
          refine lv_iload hx hb dX3_multiplyModulo_57 (lv_at hl 5 rfl) ?_
          obtain ⟨ho36, hwp⟩ := hwp
          refine sw_lald hx hb hK hz ho36 dX3_multiplyModulo_59 ?_
          refine lv_aload_n hx hb dX3_multiplyModulo_60 rfl (lv_at hl 3 rfl) ?_
          refine sw_get (C := RX4) (T := TX4) (N := 2) (v := .ref (o3 + 1)) hx hb hts hw0 hown hK hz hs30 rfl 0 (by decide) hw1 (fun _ h9 => h9) rfl dX3_multiplyModulo_61 ?_
          refine lv_iload hx hb dX3_multiplyModulo_64 (lv_at hl 6 rfl) ?_
          obtain ⟨ho37, hwp⟩ := hwp
          refine sw_lald hx hb hK hz ho37 dX3_multiplyModulo_66 ?_
          refine lv_lmul hx hb dX3_multiplyModulo_67 ?_
          refine lv_ladd hx hb dX3_multiplyModulo_68 ?_
          obtain ⟨ho38, hwp⟩ := hwp
          refine sw_last hx hb hK hz ho38 dX3_multiplyModulo_69 (fun H locs L39 e_L39 hz => ?_)
          have hwp := hwp L39 e_L39
          obtain ⟨v40, q_v40⟩ : ∃ y : Int32, y = x6 + 1 := ⟨_, rfl⟩
          have hwp := hwp v40 q_v40
          refine lv_iinc (v := v40) (lv' := [(6, .int v40), (0, .ref o0), (1, .ref o1), (2, .ref o2), (3, .ref o3), (4, .ref o4), (5, .int x5)]) hx hb dX3_multiplyModulo_70 hl (k := 6) rfl (by rw [q_v40]; rfl) (by decide) rfl (fun ls hl => ?_)
          refine lv_goto (tgt := 23) hx hb dX3_multiplyModulo_73 (by decide) ?_
          exact hC23 _ _ _ _ _ _ _ _ hwp hz (lv_sub hl [1, 2, 3, 4, 5, 6, 0] rfl)
    exact key μ I L A x5 x6 H locs ls hi hz hl
  have wL11 : ∀ (I : TI) (L : TL) (A : TA) (x5 : Int32) (H : Heap) (locs : List Loc) (ls : Array Slot), wp_X3_multiplyModulo_11 K o0 o1 o2 o3 o4 I L A x5 Q → SS K s I L A H locs → lv_has ls 9 [(0, .ref o0), (1, .ref o1), (2, .ref o2), (3, .ref o3), (4, .ref o4), (5, .int x5)] → W p (cxl K) e (headSpec wsX3_multiplyModulo (rmF 1 40)).room s m ([.ref o0, .ref o1, .ref o2, .ref o3, .ref o4] : List Value).toArray below meth c H locs 0 0 (MQ below (cxQv K Q) ([.ref o0, .ref o1, .ref o2, .ref o3, .ref o4] : List Value).toArray s 0 0 (PA (cxb K))) (F0 m 11 ls []) := by
    intro I L A x5 H locs ls hwp hz hl
    obtain ⟨Inv, μ, hi, hst⟩ := hwp
    have key : ∀ (μ : Nat) (I : TI) (L : TL) (A : TA) (x5 : Int32) (H : Heap) (locs : List Loc) (ls : Array Slot), Inv μ I L A x5 → SS K s I L A H locs → lv_has ls 9 [(0, .ref o0), (1, .ref o1), (2, .ref o2), (3, .ref o3), (4, .ref o4), (5, .int x5)] → W p (cxl K) e (headSpec wsX3_multiplyModulo (rmF 1 40)).room s m ([.ref o0, .ref o1, .ref o2, .ref o3, .ref o4] : List Value).toArray below meth c H locs 0 0 (MQ below (cxQv K Q) ([.ref o0, .ref o1, .ref o2, .ref o3, .ref o4] : List Value).toArray s 0 0 (PA (cxb K))) (F0 m 11 ls []) := by
      clear hi hz hl
      intro μ
      induction μ using Nat.strongRecOn with | ind μ ih => ?_
      intro I L A x5 H locs ls hi hz hl
      obtain ⟨C11, hCd⟩ : ∃ C : TI → TL → TA → Int32 → Prop, C = fun I L A x5 => ∃ μ', μ' < μ ∧ Inv μ' I L A x5 := ⟨_, rfl⟩
      have hC11 : ∀ (I : TI) (L : TL) (A : TA) (x5 : Int32) (H : Heap) (locs : List Loc) (ls : Array Slot), C11 I L A x5 → SS K s I L A H locs → lv_has ls 9 [(0, .ref o0), (1, .ref o1), (2, .ref o2), (3, .ref o3), (4, .ref o4), (5, .int x5)] → W p (cxl K) e (headSpec wsX3_multiplyModulo (rmF 1 40)).room s m ([.ref o0, .ref o1, .ref o2, .ref o3, .ref o4] : List Value).toArray below meth c H locs 0 0 (MQ below (cxQv K Q) ([.ref o0, .ref o1, .ref o2, .ref o3, .ref o4] : List Value).toArray s 0 0 (PA (cxb K))) (F0 m 11 ls []) := by
        intro I L A x5 H locs ls hc hz hl
        rw [hCd] at hc
        obtain ⟨μ', hlt, hc⟩ := hc
        exact ih μ' hlt I L A x5 H locs ls hc hz hl
      have hwp := hst μ C11 (fun μ' I L A x5 hlt hc => by rw [hCd]; exact ⟨μ', hlt, hc⟩) I L A x5 hi
      refine lv_iload hx hb dX3_multiplyModulo_11 (lv_at hl 5 rfl) ?_
      refine lv_aload_n hx hb dX3_multiplyModulo_13 rfl (lv_at hl 2 rfl) ?_
      obtain ⟨hs41, hwp⟩ := hwp
      refine sw_get (C := RX4) (T := TX4) (N := 2) (v := .int (I o2 1)) hx hb hts hw0 hown hK hz hs41 rfl 1 (by decide) hw9 (fun _ h9 => h9) rfl dX3_multiplyModulo_14 ?_
      refine lv_icmp_gt (tgt := 82) hx hb dX3_multiplyModulo_17 (by decide) (fun q => ?_) (fun q => ?_)
      · have hwp := hwp.1 q
        refine lv_aload_n hx hb dX3_multiplyModulo_82 rfl (lv_at hl 2 rfl) ?_
        refine sw_get (C := RX4) (T := TX4) (N := 2) (v := .int (I o2 1)) hx hb hts hw0 hown hK hz hs41 rfl 1 (by decide) hw9 (fun _ h9 => h9) rfl dX3_multiplyModulo_83 ?_
        refine lv_aload_n hx hb dX3_multiplyModulo_86 rfl (lv_at hl 3 rfl) ?_
        obtain ⟨hs42, hwp⟩ := hwp
        refine sw_get (C := RX4) (T := TX4) (N := 2) (v := .int (I o3 1)) hx hb hts hw0 hown hK hz hs42 rfl 1 (by decide) hw9 (fun _ h9 => h9) rfl dX3_multiplyModulo_87 ?_
        refine lv_iadd hx hb dX3_multiplyModulo_90 ?_
        refine lv_bipush (v := 12) hx hb dX3_multiplyModulo_91 (by decide) ?_
        refine va_mmin hx hb (by rw [hml]; exact hl.1.symm) hown hw10 hw11 hw12 hw13 (Nat.le_of_ble_eq_true rfl) (Nat.le_of_ble_eq_true rfl) (Nat.le_of_ble_eq_true rfl) (Nat.le_of_ble_eq_true rfl) dX3_multiplyModulo_93 ?_
        refine W.eq (g2 := F0 m 96 ls [.int (minJ ((I o2 1) + (I o3 1)) 12)]) rfl ?_
        refine lv_topi (fun v43 q_v43 => ?_)
        have hwp := hwp v43 q_v43
        refine lv_istore (lv' := [(5, .int v43), (0, .ref o0), (1, .ref o1), (2, .ref o2), (3, .ref o3), (4, .ref o4)]) hx hb dX3_multiplyModulo_96 hl (by decide) rfl (fun ls hl => ?_)
        exact wL98 _ _ _ _ _ _ _ hwp hz (lv_sub hl [1, 2, 5, 0] rfl)
      · have hwp := hwp.2 q
        refine lv_iconst (v := 0) hx hb dX3_multiplyModulo_20 (by decide) ?_
        refine lv_istore (lv' := [(6, .int 0), (0, .ref o0), (1, .ref o1), (2, .ref o2), (3, .ref o3), (4, .ref o4), (5, .int x5)]) hx hb dX3_multiplyModulo_21 hl (by decide) rfl (fun ls hl => ?_)
        exact wL23 _ hC11 _ _ _ _ _ _ _ _ hwp hz (lv_sub hl [1, 2, 3, 4, 5, 6, 0] rfl)
    exact key μ I L A x5 H locs ls hi hz hl
  refine lv_aload_n hx hb dX3_multiplyModulo_0 rfl (lv_at hl 0 rfl) ?_
  obtain ⟨hs44, hwp⟩ := hwp
  refine sw_get (C := RX3) (T := TX3) (N := 4) (v := .ref (o0 + 1)) hx hb hts hw2 hown hK hz hs44 rfl 1 (by decide) hw3 (fun _ h9 => h9) rfl dX3_multiplyModulo_1 ?_
  refine lv_lconst (v := 0) hx hb dX3_multiplyModulo_4 (by decide) ?_
  obtain ⟨P45, hc46, hwp⟩ := hwp
  refine sw_callv hz (va_runS (As := [.ref (o0 + 1), .long 0]) (rest := []) ⟨hx, hb, hml, hown, hts⟩ (hc46 hK _) (va_cwS 2 hts gX3_multiplyModulo_J7_fill_d0a16 rfl rfl rfl (by decide +kernel) ⟨Nat.le_of_ble_eq_true rfl, Nat.le_of_ble_eq_true rfl⟩) hz.preS rfl rfl hl.1 rfl (lv_room (Nat.le_of_ble_eq_true rfl)) dX3_multiplyModulo_5 ⟨Nat.le_of_ble_eq_true rfl, Nat.le_of_ble_eq_true rfl⟩) (fun I47 L48 A49 H locs hp hz => ?_)
  have hwp := hwp I47 L48 A49 hp
  refine lv_iconst (v := 0) hx hb dX3_multiplyModulo_8 (by decide) ?_
  refine lv_istore (lv' := [(5, .int 0), (0, .ref o0), (1, .ref o1), (2, .ref o2), (3, .ref o3), (4, .ref o4)]) hx hb dX3_multiplyModulo_9 hl (by decide) rfl (fun ls hl => ?_)
  exact wL11 _ _ _ _ _ _ _ hwp hz (lv_sub hl [1, 2, 3, 4, 5, 0] rfl)

def wp_X3_compose_10 (K : Cx) (o0 : Nat) (o1 : Nat) (o2 : Nat) (o3 : Nat) (o4 : Nat) (I : TI) (L : TL) (A : TA) (x5 : Int32) (Q : TI → TL → TA → Prop) : Prop := ∃ (Inv : Nat → TI → TL → TA → Int32 → Prop) (μ : Nat), Inv μ I L A x5 ∧ ∀ (μ : Nat) (C10 : TI → TL → TA → Int32 → Prop), (∀ (μ' : Nat) (I : TI) (L : TL) (A : TA) (x5 : Int32) , μ' < μ → Inv μ' I L A x5 → C10 I L A x5) → ∀ (I : TI) (L : TL) (A : TA) (x5 : Int32) , Inv μ I L A x5 → ((x5 < 0 → Q I L A) ∧ (¬ x5 < 0 → cxS K o0 = shX3 o0 ∧ ∃ P2 : TI → TL → TA → Prop, ConV K yX3_multiplyModulo wsX3_multiplyModulo 1 40 I L A [.ref o0, .ref o1, .ref o1, .ref o3, .ref o4] P2 ∧ ∀ (I4 : TI) (L5 : TL) (A6 : TA), P2 I4 L5 A6 → cxS K o2 = shX4 o2 ∧ aok (cxS K) (o2 + 1) 1 x5 ∧ ∃ P9 : TI → TL → TA → Prop, ConV K yX3_addAt wsX3_addAt 1 40 I4 L5 A6 [.ref o0, .ref o1, .int 0, .long (L5 (o2 + 1) (ix x5))] P9 ∧ ∀ (I11 : TI) (L12 : TL) (A13 : TA), P9 I11 L12 A13 → ∀ v14 : Int32, v14 = x5 + (-1) → C10 I11 L12 A13 v14))
def wp_X3_compose (K : Cx) (I : TI) (L : TL) (A : TA) (o0 : Nat) (o1 : Nat) (o2 : Nat) (o3 : Nat) (o4 : Nat) (Q : TI → TL → TA → Prop) : Prop := cxS K o1 = shX4 o1 ∧ ∃ P16 : TI → TL → TA → Prop, ConV K yX4_clear wsX4_clear 0 0 I L A [.ref o1] P16 ∧ ∀ (I18 : TI) (L19 : TL) (A20 : TA), P16 I18 L19 A20 → cxS K o2 = shX4 o2 ∧ ∀ v22 : Int32, v22 = (I18 o2 1) → wp_X3_compose_10 K o0 o1 o2 o3 o4 I18 L19 A20 v22 Q
set_option maxHeartbeats 1000000 in
set_option maxRecDepth 100000 in
theorem w_X3_compose (K : Cx) (I : TI) (L : TL) (A : TA) (o0 : Nat) (o1 : Nat) (o2 : Nat) (o3 : Nat) (o4 : Nat) (Q : TI → TL → TA → Prop) (hwp : wp_X3_compose K I L A o0 o1 o2 o3 o4 Q) : ConV K yX3_compose wsX3_compose 2 68 I L A [.ref o0, .ref o1, .ref o2, .ref o3, .ref o4] Q := by
  intro hK sz
  refine Met.ofW (cc := cX3_compose) (maxL := 6) (ret := none) (by decide) rfl ?_
  intro p e s m args below meth c s₁ B hml hv
  obtain ⟨rfl, hsz, hB⟩ := hv
  have hx := B.exec
  have hb := B.bytes
  have hret := B.returns
  have hts := atoms_spec (ws := wsX3_compose) B.pre
  have hown : s.vm.findClass RX3 = some m.cls := findClass_of_methodNamed B.named
  have hlocks := B.notSynchronized
  subst hsz
  have hz : SS K s I L A s.heap [] := PS.start hB
  have hl := lv_entry ([.ref o0, .ref o1, .ref o2, .ref o3, .ref o4]) (n := 6) (Nat.le_of_ble_eq_true rfl)
  rw [lg_entry_eq]
  generalize (lg_sl ([.ref o0, .ref o1, .ref o2, .ref o3, .ref o4]) ++ List.replicate (6 - (lg_sl ([.ref o0, .ref o1, .ref o2, .ref o3, .ref o4])).length) Slot.unset).toArray = ls at hl ⊢
  have hl : lv_has ls 6 [(0, .ref o0), (1, .ref o1), (2, .ref o2), (3, .ref o3), (4, .ref o4)] := hl
  have hw0 : ∀ w ∈ u_ws RX4 TX4 2, w ∈ wsX3_compose := by decide +kernel
  have hw1 := hts (.fieldLink RX3 31 "GaloisDesk$Row" "c" "[J") (by decide +kernel)
  have hw2 := hts (.fieldLink RX3 47 "GaloisDesk$Row" "top" "I") (by decide +kernel)
  clear hB B
  have wL10 : ∀ (I : TI) (L : TL) (A : TA) (x5 : Int32) (H : Heap) (locs : List Loc) (ls : Array Slot), wp_X3_compose_10 K o0 o1 o2 o3 o4 I L A x5 Q → SS K s I L A H locs → lv_has ls 6 [(0, .ref o0), (1, .ref o1), (2, .ref o2), (3, .ref o3), (4, .ref o4), (5, .int x5)] → W p (cxl K) e (headSpec wsX3_compose (rmF 2 68)).room s m ([.ref o0, .ref o1, .ref o2, .ref o3, .ref o4] : List Value).toArray below meth c H locs 0 0 (MQ below (cxQv K Q) ([.ref o0, .ref o1, .ref o2, .ref o3, .ref o4] : List Value).toArray s 0 0 (PA (cxb K))) (F0 m 10 ls []) := by
    intro I L A x5 H locs ls hwp hz hl
    obtain ⟨Inv, μ, hi, hst⟩ := hwp
    have key : ∀ (μ : Nat) (I : TI) (L : TL) (A : TA) (x5 : Int32) (H : Heap) (locs : List Loc) (ls : Array Slot), Inv μ I L A x5 → SS K s I L A H locs → lv_has ls 6 [(0, .ref o0), (1, .ref o1), (2, .ref o2), (3, .ref o3), (4, .ref o4), (5, .int x5)] → W p (cxl K) e (headSpec wsX3_compose (rmF 2 68)).room s m ([.ref o0, .ref o1, .ref o2, .ref o3, .ref o4] : List Value).toArray below meth c H locs 0 0 (MQ below (cxQv K Q) ([.ref o0, .ref o1, .ref o2, .ref o3, .ref o4] : List Value).toArray s 0 0 (PA (cxb K))) (F0 m 10 ls []) := by
      clear hi hz hl
      intro μ
      induction μ using Nat.strongRecOn with | ind μ ih => ?_
      intro I L A x5 H locs ls hi hz hl
      obtain ⟨C10, hCd⟩ : ∃ C : TI → TL → TA → Int32 → Prop, C = fun I L A x5 => ∃ μ', μ' < μ ∧ Inv μ' I L A x5 := ⟨_, rfl⟩
      have hC10 : ∀ (I : TI) (L : TL) (A : TA) (x5 : Int32) (H : Heap) (locs : List Loc) (ls : Array Slot), C10 I L A x5 → SS K s I L A H locs → lv_has ls 6 [(0, .ref o0), (1, .ref o1), (2, .ref o2), (3, .ref o3), (4, .ref o4), (5, .int x5)] → W p (cxl K) e (headSpec wsX3_compose (rmF 2 68)).room s m ([.ref o0, .ref o1, .ref o2, .ref o3, .ref o4] : List Value).toArray below meth c H locs 0 0 (MQ below (cxQv K Q) ([.ref o0, .ref o1, .ref o2, .ref o3, .ref o4] : List Value).toArray s 0 0 (PA (cxb K))) (F0 m 10 ls []) := by
        intro I L A x5 H locs ls hc hz hl
        rw [hCd] at hc
        obtain ⟨μ', hlt, hc⟩ := hc
        exact ih μ' hlt I L A x5 H locs ls hc hz hl
      have hwp := hst μ C10 (fun μ' I L A x5 hlt hc => by rw [hCd]; exact ⟨μ', hlt, hc⟩) I L A x5 hi
      refine lv_iload hx hb dX3_compose_10 (lv_at hl 5 rfl) ?_
      refine lv_if_lt (tgt := 43) hx hb dX3_compose_12 (by decide) (fun q => ?_) (fun q => ?_)
      · have hwp := hwp.1 q
        exact sw_vret hx hb hret hlocks hz hwp dX3_compose_43
      · have hwp := hwp.2 q
        refine lv_aload_n hx hb dX3_compose_15 rfl (lv_at hl 0 rfl) ?_
        refine lv_aload_n hx hb dX3_compose_16 rfl (lv_at hl 1 rfl) ?_
        refine lv_aload_n hx hb dX3_compose_17 rfl (lv_at hl 1 rfl) ?_
        refine lv_aload_n hx hb dX3_compose_18 rfl (lv_at hl 3 rfl) ?_
        refine lv_aload hx hb dX3_compose_19 (lv_at hl 4 rfl) ?_
        obtain ⟨hs1, hwp⟩ := hwp
        obtain ⟨P2, hc3, hwp⟩ := hwp
        refine sw_callv hz (va_runV (As := [.ref o1, .ref o1, .ref o3, .ref o4]) (rest := []) ⟨hx, hb, hml, hown, hts⟩ (hc3 hK _) (cwV 4 hts gX3_compose_X3_multiplyModulo rfl rfl rfl (by decide +kernel) ⟨Nat.le_of_ble_eq_true rfl, Nat.le_of_ble_eq_true rfl⟩) (hz.preV hK hs1 rfl) rfl rfl hl.1 rfl (lv_room (Nat.le_of_ble_eq_true rfl)) dX3_compose_21 ⟨Nat.le_of_ble_eq_true rfl, Nat.le_of_ble_eq_true rfl⟩) (fun I4 L5 A6 H locs hp hz => ?_)
        have hwp := hwp I4 L5 A6 hp
        refine lv_aload_n hx hb dX3_compose_24 rfl (lv_at hl 0 rfl) ?_
        refine lv_aload_n hx hb dX3_compose_25 rfl (lv_at hl 1 rfl) ?_
        refine lv_iconst (v := 0) hx hb dX3_compose_26 (by decide) ?_
        refine lv_aload_n hx hb dX3_compose_27 rfl (lv_at hl 2 rfl) ?_
        obtain ⟨hs7, hwp⟩ := hwp
        refine sw_get (C := RX4) (T := TX4) (N := 2) (v := .ref (o2 + 1)) hx hb hts hw0 hown hK hz hs7 rfl 0 (by decide) hw1 (fun _ h9 => h9) rfl dX3_compose_28 ?_
        refine lv_iload hx hb dX3_compose_31 (lv_at hl 5 rfl) ?_
        obtain ⟨ho8, hwp⟩ := hwp
        refine sw_lald hx hb hK hz ho8 dX3_compose_33 ?_
        obtain ⟨P9, hc10, hwp⟩ := hwp
        refine sw_callv hz (va_runV (As := [.ref o1, .int 0, .long (L5 (o2 + 1) (ix x5))]) (rest := []) ⟨hx, hb, hml, hown, hts⟩ (hc10 hK _) (cwV 3 hts gX3_compose_X3_addAt rfl rfl rfl (by decide +kernel) ⟨Nat.le_of_ble_eq_true rfl, Nat.le_of_ble_eq_true rfl⟩) (hz.preV hK hs1 rfl) rfl rfl hl.1 rfl (lv_room (Nat.le_of_ble_eq_true rfl)) dX3_compose_34 ⟨Nat.le_of_ble_eq_true rfl, Nat.le_of_ble_eq_true rfl⟩) (fun I11 L12 A13 H locs hp hz => ?_)
        have hwp := hwp I11 L12 A13 hp
        obtain ⟨v14, q_v14⟩ : ∃ y : Int32, y = x5 + (-1) := ⟨_, rfl⟩
        have hwp := hwp v14 q_v14
        refine lv_iinc (v := v14) (lv' := [(5, .int v14), (0, .ref o0), (1, .ref o1), (2, .ref o2), (3, .ref o3), (4, .ref o4)]) hx hb dX3_compose_37 hl (k := 5) rfl (by rw [q_v14]; rfl) (by decide) rfl (fun ls hl => ?_)
        refine lv_goto (tgt := 10) hx hb dX3_compose_40 (by decide) ?_
        exact hC10 _ _ _ _ _ _ _ hwp hz (lv_sub hl [1, 2, 3, 4, 5, 0] rfl)
    exact key μ I L A x5 H locs ls hi hz hl
  refine lv_aload_n hx hb dX3_compose_0 rfl (lv_at hl 1 rfl) ?_
  obtain ⟨hs15, hwp⟩ := hwp
  obtain ⟨P16, hc17, hwp⟩ := hwp
  refine sw_callv hz (va_runV (As := []) (rest := []) ⟨hx, hb, hml, hown, hts⟩ (hc17 hK _) (cwV 0 hts gX3_compose_X4_clear rfl rfl rfl (by decide +kernel) ⟨Nat.le_of_ble_eq_true rfl, Nat.le_of_ble_eq_true rfl⟩) (hz.preV hK hs15 rfl) rfl rfl hl.1 rfl (lv_room (Nat.le_of_ble_eq_true rfl)) dX3_compose_1 ⟨Nat.le_of_ble_eq_true rfl, Nat.le_of_ble_eq_true rfl⟩) (fun I18 L19 A20 H locs hp hz => ?_)
  have hwp := hwp I18 L19 A20 hp
  refine lv_aload_n hx hb dX3_compose_4 rfl (lv_at hl 2 rfl) ?_
  obtain ⟨hs21, hwp⟩ := hwp
  refine sw_get (C := RX4) (T := TX4) (N := 2) (v := .int (I18 o2 1)) hx hb hts hw0 hown hK hz hs21 rfl 1 (by decide) hw2 (fun _ h9 => h9) rfl dX3_compose_5 ?_
  refine lv_topi (fun v22 q_v22 => ?_)
  have hwp := hwp v22 q_v22
  refine lv_istore (lv' := [(5, .int v22), (0, .ref o0), (1, .ref o1), (2, .ref o2), (3, .ref o3), (4, .ref o4)]) hx hb dX3_compose_8 hl (by decide) rfl (fun ls hl => ?_)
  exact wL10 _ _ _ _ _ _ _ hwp hz (lv_sub hl [1, 2, 3, 4, 5, 0] rfl)

def wp_X3_inverse_77 (K : Cx) (o0 : Nat) (j1 : Int64) (I : TI) (L : TL) (A : TA) (x7 : Int64) (Q : Int64 → TI → TL → TA → Prop) : Prop := ((0 ≤ x7 → Q x7 I L A) ∧ (¬ 0 ≤ x7 → cxS K o0 = shX3 o0 ∧ Q (x7 + (L o0 0)) I L A))
def wp_X3_inverse_17 (K : Cx) (o0 : Nat) (j1 : Int64) (I : TI) (L : TL) (A : TA) (x3 : Int64) (x5 : Int64) (x7 : Int64) (x9 : Int64) (x11 : Int32) (Q : Int64 → TI → TL → TA → Prop) : Prop := ∃ (Inv : Nat → TI → TL → TA → Int64 → Int64 → Int64 → Int64 → Int32 → Prop) (μ : Nat), Inv μ I L A x3 x5 x7 x9 x11 ∧ ∀ (μ : Nat) (C17 : TI → TL → TA → Int64 → Int64 → Int64 → Int64 → Int32 → Prop), (∀ (μ' : Nat) (I : TI) (L : TL) (A : TA) (x3 : Int64) (x5 : Int64) (x7 : Int64) (x9 : Int64) (x11 : Int32) , μ' < μ → Inv μ' I L A x3 x5 x7 x9 x11 → C17 I L A x3 x5 x7 x9 x11) → ∀ (I : TI) (L : TL) (A : TA) (x3 : Int64) (x5 : Int64) (x7 : Int64) (x9 : Int64) (x11 : Int32) , Inv μ I L A x3 x5 x7 x9 x11 → ((100 ≤ x11 → wp_X3_inverse_77 K o0 j1 I L A x7 Q) ∧ (¬ 100 ≤ x11 → ((x5 = 0 → wp_X3_inverse_77 K o0 j1 I L A x7 Q) ∧ (¬ x5 = 0 → ¬ x5 = 0 ∧ ∀ v3 : Int64, v3 = (x3 / x5) → ∀ v4 : Int64, v4 = (x3 - (v3 * x5)) → ∀ v5 : Int64, v5 = (x7 - (v3 * x9)) → ∀ v6 : Int32, v6 = x11 + 1 → C17 I L A x5 v4 x9 v5 v6))))
def wp_X3_inverse (K : Cx) (I : TI) (L : TL) (A : TA) (o0 : Nat) (j1 : Int64) (Q : Int64 → TI → TL → TA → Prop) : Prop := cxS K o0 = shX3 o0 ∧ ∀ v8 : Int64, v8 = (L o0 0) → wp_X3_inverse_17 K o0 j1 I L A v8 j1 0 1 0 Q
set_option maxHeartbeats 1000000 in
set_option maxRecDepth 100000 in
theorem w_X3_inverse (K : Cx) (I : TI) (L : TL) (A : TA) (o0 : Nat) (j1 : Int64) (Q : Int64 → TI → TL → TA → Prop) (hwp : wp_X3_inverse K I L A o0 j1 Q) : ConL K yX3_inverse wsX3_inverse 0 0 I L A [.ref o0, .long j1] Q := by
  intro hK sz
  refine Met.ofW (cc := cX3_inverse) (maxL := 18) (ret := (some .long)) (by decide) rfl ?_
  intro p e s m args below meth c s₁ B hml hv
  obtain ⟨rfl, hsz, hB⟩ := hv
  have hx := B.exec
  have hb := B.bytes
  have hret := B.returns
  have hts := atoms_spec (ws := wsX3_inverse) B.pre
  have hown : s.vm.findClass RX3 = some m.cls := findClass_of_methodNamed B.named
  have hlocks := B.notSynchronized
  subst hsz
  have hz : SS K s I L A s.heap [] := PS.start hB
  have hl := lv_entry ([.ref o0, .long j1]) (n := 18) (Nat.le_of_ble_eq_true rfl)
  rw [lg_entry_eq]
  generalize (lg_sl ([.ref o0, .long j1]) ++ List.replicate (18 - (lg_sl ([.ref o0, .long j1])).length) Slot.unset).toArray = ls at hl ⊢
  have hl : lv_has ls 18 [(0, .ref o0), (1, .long j1)] := hl
  have hw0 : ∀ w ∈ u_ws RX3 TX3 4, w ∈ wsX3_inverse := by decide +kernel
  have hw1 := hts (.fieldLink RX3 11 "GaloisDesk$Residues" "modulus" "J") (by decide +kernel)
  clear hB B
  have wL77 : ∀ (I : TI) (L : TL) (A : TA) (x7 : Int64) (H : Heap) (locs : List Loc) (ls : Array Slot), wp_X3_inverse_77 K o0 j1 I L A x7 Q → SS K s I L A H locs → lv_has ls 18 [(0, .ref o0), (7, .long x7)] → W p (cxl K) e (headSpec wsX3_inverse (rmF 0 0)).room s m ([.ref o0, .long j1] : List Value).toArray below meth c H locs 0 0 (MQ below (cxQl K Q) ([.ref o0, .long j1] : List Value).toArray s 0 0 (PA (cxb K))) (F0 m 77 ls []) := by
    intro I L A x7 H locs ls hwp hz hl
    refine lv_lload hx hb dX3_inverse_77 (lv_at hl 1 rfl) ?_
    refine lv_lconst (v := 0) hx hb dX3_inverse_79 (by decide) ?_
    refine W.lcmp hx hb dX3_inverse_80 ?_
    refine W.eq (g2 := F0 m 81 ls [.int (lg_cmp x7 0)]) rfl ?_
    refine lv_if_ge (tgt := 94) hx hb dX3_inverse_81 (by decide) (fun q => ?_) (fun q => ?_)
    · have hwp := hwp.1 ((lg_cmp_ge _ _).mp q)
      refine lv_lload hx hb dX3_inverse_94 (lv_at hl 1 rfl) ?_
      exact sw_lret hx hb hret hlocks hz hwp dX3_inverse_96
    · have hwp := hwp.2 (fun h => q ((lg_cmp_ge _ _).mpr h))
      refine lv_lload hx hb dX3_inverse_84 (lv_at hl 1 rfl) ?_
      refine lv_aload_n hx hb dX3_inverse_86 rfl (lv_at hl 0 rfl) ?_
      obtain ⟨hs1, hwp⟩ := hwp
      refine sw_get (C := RX3) (T := TX3) (N := 4) (v := .long (L o0 0)) hx hb hts hw0 hown hK hz hs1 rfl 0 (by decide) hw1 (fun _ h9 => h9) rfl dX3_inverse_87 ?_
      refine lv_ladd hx hb dX3_inverse_90 ?_
      refine lv_goto (tgt := 96) hx hb dX3_inverse_91 (by decide) ?_
      exact sw_lret hx hb hret hlocks hz hwp dX3_inverse_96
  have wL17 : ∀ (I : TI) (L : TL) (A : TA) (x3 : Int64) (x5 : Int64) (x7 : Int64) (x9 : Int64) (x11 : Int32) (H : Heap) (locs : List Loc) (ls : Array Slot), wp_X3_inverse_17 K o0 j1 I L A x3 x5 x7 x9 x11 Q → SS K s I L A H locs → lv_has ls 18 [(0, .ref o0), (3, .long x3), (5, .long x5), (7, .long x7), (9, .long x9), (11, .int x11)] → W p (cxl K) e (headSpec wsX3_inverse (rmF 0 0)).room s m ([.ref o0, .long j1] : List Value).toArray below meth c H locs 0 0 (MQ below (cxQl K Q) ([.ref o0, .long j1] : List Value).toArray s 0 0 (PA (cxb K))) (F0 m 17 ls []) := by
    intro I L A x3 x5 x7 x9 x11 H locs ls hwp hz hl
    obtain ⟨Inv, μ, hi, hst⟩ := hwp
    have key : ∀ (μ : Nat) (I : TI) (L : TL) (A : TA) (x3 : Int64) (x5 : Int64) (x7 : Int64) (x9 : Int64) (x11 : Int32) (H : Heap) (locs : List Loc) (ls : Array Slot), Inv μ I L A x3 x5 x7 x9 x11 → SS K s I L A H locs → lv_has ls 18 [(0, .ref o0), (3, .long x3), (5, .long x5), (7, .long x7), (9, .long x9), (11, .int x11)] → W p (cxl K) e (headSpec wsX3_inverse (rmF 0 0)).room s m ([.ref o0, .long j1] : List Value).toArray below meth c H locs 0 0 (MQ below (cxQl K Q) ([.ref o0, .long j1] : List Value).toArray s 0 0 (PA (cxb K))) (F0 m 17 ls []) := by
      clear hi hz hl
      intro μ
      induction μ using Nat.strongRecOn with | ind μ ih => ?_
      intro I L A x3 x5 x7 x9 x11 H locs ls hi hz hl
      obtain ⟨C17, hCd⟩ : ∃ C : TI → TL → TA → Int64 → Int64 → Int64 → Int64 → Int32 → Prop, C = fun I L A x3 x5 x7 x9 x11 => ∃ μ', μ' < μ ∧ Inv μ' I L A x3 x5 x7 x9 x11 := ⟨_, rfl⟩
      have hC17 : ∀ (I : TI) (L : TL) (A : TA) (x3 : Int64) (x5 : Int64) (x7 : Int64) (x9 : Int64) (x11 : Int32) (H : Heap) (locs : List Loc) (ls : Array Slot), C17 I L A x3 x5 x7 x9 x11 → SS K s I L A H locs → lv_has ls 18 [(0, .ref o0), (3, .long x3), (5, .long x5), (7, .long x7), (9, .long x9), (11, .int x11)] → W p (cxl K) e (headSpec wsX3_inverse (rmF 0 0)).room s m ([.ref o0, .long j1] : List Value).toArray below meth c H locs 0 0 (MQ below (cxQl K Q) ([.ref o0, .long j1] : List Value).toArray s 0 0 (PA (cxb K))) (F0 m 17 ls []) := by
        intro I L A x3 x5 x7 x9 x11 H locs ls hc hz hl
        rw [hCd] at hc
        obtain ⟨μ', hlt, hc⟩ := hc
        exact ih μ' hlt I L A x3 x5 x7 x9 x11 H locs ls hc hz hl
      have hwp := hst μ C17 (fun μ' I L A x3 x5 x7 x9 x11 hlt hc => by rw [hCd]; exact ⟨μ', hlt, hc⟩) I L A x3 x5 x7 x9 x11 hi
      refine lv_iload hx hb dX3_inverse_17 (lv_at hl 5 rfl) ?_
      refine lv_bipush (v := 100) hx hb dX3_inverse_19 (by decide) ?_
      refine lv_icmp_ge (tgt := 77) hx hb dX3_inverse_21 (by decide) (fun q => ?_) (fun q => ?_)
      · have hwp := hwp.1 q
        exact wL77 _ _ _ _ _ _ _ hwp hz (lv_sub hl [0, 3] rfl)
      · have hwp := hwp.2 q
        refine lv_lload hx hb dX3_inverse_24 (lv_at hl 2 rfl) ?_
        refine lv_lconst (v := 0) hx hb dX3_inverse_26 (by decide) ?_
        refine W.lcmp hx hb dX3_inverse_27 ?_
        refine W.eq (g2 := F0 m 28 ls [.int (lg_cmp x5 0)]) rfl ?_
        refine lv_if_eq (tgt := 77) hx hb dX3_inverse_28 (by decide) (fun q => ?_) (fun q => ?_)
        · have hwp := hwp.1 ((lg_cmp_eq _ _).mp q)
          exact wL77 _ _ _ _ _ _ _ hwp hz (lv_sub hl [0, 3] rfl)
        · have hwp := hwp.2 (fun h => q ((lg_cmp_eq _ _).mpr h))
          refine lv_lload_n hx hb dX3_inverse_31 rfl (lv_at hl 1 rfl) ?_
          refine lv_lload hx hb dX3_inverse_32 (lv_at hl 2 rfl) ?_
          obtain ⟨hn2, hwp⟩ := hwp
          refine lv_ldiv hx hb dX3_inverse_34 hn2 ?_
          refine lv_topl (fun v3 q_v3 => ?_)
          have hwp := hwp v3 q_v3
          refine lv_lstore (lv' := [(12, .long v3), (0, .ref o0), (3, .long x3), (5, .long x5), (7, .long x7), (9, .long x9), (11, .int x11)]) hx hb dX3_inverse_35 hl (by decide) rfl (fun ls hl => ?_)
          refine lv_lload_n hx hb dX3_inverse_37 rfl (lv_at hl 2 rfl) ?_
          refine lv_lload hx hb dX3_inverse_38 (lv_at hl 0 rfl) ?_
          refine lv_lload hx hb dX3_inverse_40 (lv_at hl 3 rfl) ?_
          refine lv_lmul hx hb dX3_inverse_42 ?_
          refine lv_lsub hx hb dX3_inverse_43 ?_
          refine lv_topl (fun v4 q_v4 => ?_)
          have hwp := hwp v4 q_v4
          refine lv_lstore (lv' := [(14, .long v4), (12, .long v3), (0, .ref o0), (3, .long x3), (5, .long x5), (7, .long x7), (9, .long x9), (11, .int x11)]) hx hb dX3_inverse_44 hl (by decide) rfl (fun ls hl => ?_)
          refine lv_lload hx hb dX3_inverse_46 (lv_at hl 4 rfl) ?_
          refine lv_lstore_n (lv' := [(3, .long x5), (14, .long v4), (12, .long v3), (0, .ref o0), (5, .long x5), (7, .long x7), (9, .long x9), (11, .int x11)]) hx hb dX3_inverse_48 rfl hl (by decide) rfl (fun ls hl => ?_)
          refine lv_lload hx hb dX3_inverse_49 (lv_at hl 1 rfl) ?_
          refine lv_lstore (lv' := [(5, .long v4), (3, .long x5), (14, .long v4), (12, .long v3), (0, .ref o0), (7, .long x7), (9, .long x9), (11, .int x11)]) hx hb dX3_inverse_51 hl (by decide) rfl (fun ls hl => ?_)
          refine lv_lload hx hb dX3_inverse_53 (lv_at hl 5 rfl) ?_
          refine lv_lload hx hb dX3_inverse_55 (lv_at hl 3 rfl) ?_
          refine lv_lload hx hb dX3_inverse_57 (lv_at hl 6 rfl) ?_
          refine lv_lmul hx hb dX3_inverse_59 ?_
          refine lv_lsub hx hb dX3_inverse_60 ?_
          refine lv_topl (fun v5 q_v5 => ?_)
          have hwp := hwp v5 q_v5
          refine lv_lstore (lv' := [(16, .long v5), (5, .long v4), (3, .long x5), (14, .long v4), (12, .long v3), (0, .ref o0), (7, .long x7), (9, .long x9), (11, .int x11)]) hx hb dX3_inverse_61 hl (by decide) rfl (fun ls hl => ?_)
          refine lv_lload hx hb dX3_inverse_63 (lv_at hl 7 rfl) ?_
          refine lv_lstore (lv' := [(7, .long x9), (16, .long v5), (5, .long v4), (3, .long x5), (14, .long v4), (12, .long v3), (0, .ref o0), (9, .long x9), (11, .int x11)]) hx hb dX3_inverse_65 hl (by decide) rfl (fun ls hl => ?_)
          refine lv_lload hx hb dX3_inverse_67 (lv_at hl 1 rfl) ?_
          refine lv_lstore (lv' := [(9, .long v5), (7, .long x9), (16, .long v5), (5, .long v4), (3, .long x5), (14, .long v4), (12, .long v3), (0, .ref o0), (11, .int x11)]) hx hb dX3_inverse_69 hl (by decide) rfl (fun ls hl => ?_)
          obtain ⟨v6, q_v6⟩ : ∃ y : Int32, y = x11 + 1 := ⟨_, rfl⟩
          have hwp := hwp v6 q_v6
          refine lv_iinc (v := v6) (lv' := [(11, .int v6), (9, .long v5), (7, .long x9), (16, .long v5), (5, .long v4), (3, .long x5), (14, .long v4), (12, .long v3), (0, .ref o0)]) hx hb dX3_inverse_71 hl (k := 8) rfl (by rw [q_v6]; rfl) (by decide) rfl (fun ls hl => ?_)
          refine lv_goto (tgt := 17) hx hb dX3_inverse_74 (by decide) ?_
          exact hC17 _ _ _ _ _ _ _ _ _ _ _ hwp hz (lv_sub hl [8, 5, 4, 2, 1, 0] rfl)
    exact key μ I L A x3 x5 x7 x9 x11 H locs ls hi hz hl
  refine lv_aload_n hx hb dX3_inverse_0 rfl (lv_at hl 0 rfl) ?_
  obtain ⟨hs7, hwp⟩ := hwp
  refine sw_get (C := RX3) (T := TX3) (N := 4) (v := .long (L o0 0)) hx hb hts hw0 hown hK hz hs7 rfl 0 (by decide) hw1 (fun _ h9 => h9) rfl dX3_inverse_1 ?_
  refine lv_topl (fun v8 q_v8 => ?_)
  have hwp := hwp v8 q_v8
  refine lv_lstore_n (lv' := [(3, .long v8), (0, .ref o0), (1, .long j1)]) hx hb dX3_inverse_4 rfl hl (by decide) rfl (fun ls hl => ?_)
  refine lv_lload_n hx hb dX3_inverse_5 rfl (lv_at hl 2 rfl) ?_
  refine lv_lstore (lv' := [(5, .long j1), (3, .long v8), (0, .ref o0), (1, .long j1)]) hx hb dX3_inverse_6 hl (by decide) rfl (fun ls hl => ?_)
  refine lv_lconst (v := 0) hx hb dX3_inverse_8 (by decide) ?_
  refine lv_lstore (lv' := [(7, .long 0), (5, .long j1), (3, .long v8), (0, .ref o0), (1, .long j1)]) hx hb dX3_inverse_9 hl (by decide) rfl (fun ls hl => ?_)
  refine lv_lconst (v := 1) hx hb dX3_inverse_11 (by decide) ?_
  refine lv_lstore (lv' := [(9, .long 1), (7, .long 0), (5, .long j1), (3, .long v8), (0, .ref o0), (1, .long j1)]) hx hb dX3_inverse_12 hl (by decide) rfl (fun ls hl => ?_)
  refine lv_iconst (v := 0) hx hb dX3_inverse_14 (by decide) ?_
  refine lv_istore (lv' := [(11, .int 0), (9, .long 1), (7, .long 0), (5, .long j1), (3, .long v8), (0, .ref o0), (1, .long j1)]) hx hb dX3_inverse_15 hl (by decide) rfl (fun ls hl => ?_)
  exact wL17 _ _ _ _ _ _ _ _ _ _ _ hwp hz (lv_sub hl [5, 4, 3, 2, 1, 0] rfl)

def wp_X3_makeMonic_22 (K : Cx) (o0 : Nat) (o1 : Nat) (I : TI) (L : TL) (A : TA) (x2 : Int64) (x4 : Int32) (Q : TI → TL → TA → Prop) : Prop := ∃ (Inv : Nat → TI → TL → TA → Int64 → Int32 → Prop) (μ : Nat), Inv μ I L A x2 x4 ∧ ∀ (μ : Nat) (C22 : TI → TL → TA → Int64 → Int32 → Prop), (∀ (μ' : Nat) (I : TI) (L : TL) (A : TA) (x2 : Int64) (x4 : Int32) , μ' < μ → Inv μ' I L A x2 x4 → C22 I L A x2 x4) → ∀ (I : TI) (L : TL) (A : TA) (x2 : Int64) (x4 : Int32) , Inv μ I L A x2 x4 → cxS K o1 = shX4 o1 ∧ (((I o1 1) < x4 → Q I L A) ∧ (¬ (I o1 1) < x4 → aok (cxS K) (o1 + 1) 1 x4 ∧ cxS K o0 = shX3 o0 ∧ ¬ (L o0 0) = 0 ∧ aok (cxS K) (o1 + 1) 1 x4 ∧ ∀ L6 : TL, L6 = u2 L (o1 + 1) (ix x4) (((L (o1 + 1) (ix x4)) * x2) - ((L (o1 + 1) (ix x4)) * x2) / (L o0 0) * (L o0 0)) → ∀ v7 : Int32, v7 = x4 + 1 → C22 I L6 A x2 v7))
def wp_X3_makeMonic (K : Cx) (I : TI) (L : TL) (A : TA) (o0 : Nat) (o1 : Nat) (Q : TI → TL → TA → Prop) : Prop := cxS K o1 = shX4 o1 ∧ ∃ P9 : Int64 → TI → TL → TA → Prop, ConL K yX4_lead wsX4_lead 1 21 I L A [.ref o1] P9 ∧ ∀ (r14 : Int64) (I11 : TI) (L12 : TL) (A13 : TA), P9 r14 I11 L12 A13 → ((r14 = 1 → Q I11 L12 A13) ∧ (¬ r14 = 1 → ∃ P15 : Int64 → TI → TL → TA → Prop, ConL K yX4_lead wsX4_lead 1 21 I11 L12 A13 [.ref o1] P15 ∧ ∀ (r20 : Int64) (I17 : TI) (L18 : TL) (A19 : TA), P15 r20 I17 L18 A19 → cxS K o0 = shX3 o0 ∧ ∃ P22 : Int64 → TI → TL → TA → Prop, ConL K yX3_inverse wsX3_inverse 0 0 I17 L18 A19 [.ref o0, .long r20] P22 ∧ ∀ (r27 : Int64) (I24 : TI) (L25 : TL) (A26 : TA), P22 r27 I24 L25 A26 → wp_X3_makeMonic_22 K o0 o1 I24 L25 A26 r27 0 Q))
set_option maxHeartbeats 1000000 in
set_option maxRecDepth 100000 in
theorem w_X3_makeMonic (K : Cx) (I : TI) (L : TL) (A : TA) (o0 : Nat) (o1 : Nat) (Q : TI → TL → TA → Prop) (hwp : wp_X3_makeMonic K I L A o0 o1 Q) : ConV K yX3_makeMonic wsX3_makeMonic 2 41 I L A [.ref o0, .ref o1] Q := by
  intro hK sz
  refine Met.ofW (cc := cX3_makeMonic) (maxL := 5) (ret := none) (by decide) rfl ?_
  intro p e s m args below meth c s₁ B hml hv
  obtain ⟨rfl, hsz, hB⟩ := hv
  have hx := B.exec
  have hb := B.bytes
  have hret := B.returns
  have hts := atoms_spec (ws := wsX3_makeMonic) B.pre
  have hown : s.vm.findClass RX3 = some m.cls := findClass_of_methodNamed B.named
  have hlocks := B.notSynchronized
  subst hsz
  have hz : SS K s I L A s.heap [] := PS.start hB
  have hl := lv_entry ([.ref o0, .ref o1]) (n := 5) (Nat.le_of_ble_eq_true rfl)
  rw [lg_entry_eq]
  generalize (lg_sl ([.ref o0, .ref o1]) ++ List.replicate (5 - (lg_sl ([.ref o0, .ref o1])).length) Slot.unset).toArray = ls at hl ⊢
  have hl : lv_has ls 5 [(0, .ref o0), (1, .ref o1)] := hl
  have hw0 : ∀ w ∈ u_ws RX4 TX4 2, w ∈ wsX3_makeMonic := by decide +kernel
  have hw1 := hts (.fieldLink RX3 47 "GaloisDesk$Row" "top" "I") (by decide +kernel)
  have hw2 := hts (.fieldLink RX3 31 "GaloisDesk$Row" "c" "[J") (by decide +kernel)
  have hw3 : ∀ w ∈ u_ws RX3 TX3 4, w ∈ wsX3_makeMonic := by decide +kernel
  have hw4 := hts (.fieldLink RX3 11 "GaloisDesk$Residues" "modulus" "J") (by decide +kernel)
  clear hB B
  have wL22 : ∀ (I : TI) (L : TL) (A : TA) (x2 : Int64) (x4 : Int32) (H : Heap) (locs : List Loc) (ls : Array Slot), wp_X3_makeMonic_22 K o0 o1 I L A x2 x4 Q → SS K s I L A H locs → lv_has ls 5 [(0, .ref o0), (1, .ref o1), (2, .long x2), (4, .int x4)] → W p (cxl K) e (headSpec wsX3_makeMonic (rmF 2 41)).room s m ([.ref o0, .ref o1] : List Value).toArray below meth c H locs 0 0 (MQ below (cxQv K Q) ([.ref o0, .ref o1] : List Value).toArray s 0 0 (PA (cxb K))) (F0 m 22 ls []) := by
    intro I L A x2 x4 H locs ls hwp hz hl
    obtain ⟨Inv, μ, hi, hst⟩ := hwp
    have key : ∀ (μ : Nat) (I : TI) (L : TL) (A : TA) (x2 : Int64) (x4 : Int32) (H : Heap) (locs : List Loc) (ls : Array Slot), Inv μ I L A x2 x4 → SS K s I L A H locs → lv_has ls 5 [(0, .ref o0), (1, .ref o1), (2, .long x2), (4, .int x4)] → W p (cxl K) e (headSpec wsX3_makeMonic (rmF 2 41)).room s m ([.ref o0, .ref o1] : List Value).toArray below meth c H locs 0 0 (MQ below (cxQv K Q) ([.ref o0, .ref o1] : List Value).toArray s 0 0 (PA (cxb K))) (F0 m 22 ls []) := by
      clear hi hz hl
      intro μ
      induction μ using Nat.strongRecOn with | ind μ ih => ?_
      intro I L A x2 x4 H locs ls hi hz hl
      obtain ⟨C22, hCd⟩ : ∃ C : TI → TL → TA → Int64 → Int32 → Prop, C = fun I L A x2 x4 => ∃ μ', μ' < μ ∧ Inv μ' I L A x2 x4 := ⟨_, rfl⟩
      have hC22 : ∀ (I : TI) (L : TL) (A : TA) (x2 : Int64) (x4 : Int32) (H : Heap) (locs : List Loc) (ls : Array Slot), C22 I L A x2 x4 → SS K s I L A H locs → lv_has ls 5 [(0, .ref o0), (1, .ref o1), (2, .long x2), (4, .int x4)] → W p (cxl K) e (headSpec wsX3_makeMonic (rmF 2 41)).room s m ([.ref o0, .ref o1] : List Value).toArray below meth c H locs 0 0 (MQ below (cxQv K Q) ([.ref o0, .ref o1] : List Value).toArray s 0 0 (PA (cxb K))) (F0 m 22 ls []) := by
        intro I L A x2 x4 H locs ls hc hz hl
        rw [hCd] at hc
        obtain ⟨μ', hlt, hc⟩ := hc
        exact ih μ' hlt I L A x2 x4 H locs ls hc hz hl
      have hwp := hst μ C22 (fun μ' I L A x2 x4 hlt hc => by rw [hCd]; exact ⟨μ', hlt, hc⟩) I L A x2 x4 hi
      refine lv_iload hx hb dX3_makeMonic_22 (lv_at hl 3 rfl) ?_
      refine lv_aload_n hx hb dX3_makeMonic_24 rfl (lv_at hl 1 rfl) ?_
      obtain ⟨hs1, hwp⟩ := hwp
      refine sw_get (C := RX4) (T := TX4) (N := 2) (v := .int (I o1 1)) hx hb hts hw0 hown hK hz hs1 rfl 1 (by decide) hw1 (fun _ h9 => h9) rfl dX3_makeMonic_25 ?_
      refine lv_icmp_gt (tgt := 58) hx hb dX3_makeMonic_28 (by decide) (fun q => ?_) (fun q => ?_)
      · have hwp := hwp.1 q
        exact sw_vret hx hb hret hlocks hz hwp dX3_makeMonic_58
      · have hwp := hwp.2 q
        refine lv_aload_n hx hb dX3_makeMonic_31 rfl (lv_at hl 1 rfl) ?_
        refine sw_get (C := RX4) (T := TX4) (N := 2) (v := .ref (o1 + 1)) hx hb hts hw0 hown hK hz hs1 rfl 0 (by decide) hw2 (fun _ h9 => h9) rfl dX3_makeMonic_32 ?_
        refine lv_iload hx hb dX3_makeMonic_35 (lv_at hl 3 rfl) ?_
        refine lv_aload_n hx hb dX3_makeMonic_37 rfl (lv_at hl 1 rfl) ?_
        refine sw_get (C := RX4) (T := TX4) (N := 2) (v := .ref (o1 + 1)) hx hb hts hw0 hown hK hz hs1 rfl 0 (by decide) hw2 (fun _ h9 => h9) rfl dX3_makeMonic_38 ?_
        refine lv_iload hx hb dX3_makeMonic_41 (lv_at hl 3 rfl) ?_
        obtain ⟨ho2, hwp⟩ := hwp
        refine sw_lald hx hb hK hz ho2 dX3_makeMonic_43 ?_
        refine lv_lload_n hx hb dX3_makeMonic_44 rfl (lv_at hl 2 rfl) ?_
        refine lv_lmul hx hb dX3_makeMonic_45 ?_
        refine lv_aload_n hx hb dX3_makeMonic_46 rfl (lv_at hl 0 rfl) ?_
        obtain ⟨hs3, hwp⟩ := hwp
        refine sw_get (C := RX3) (T := TX3) (N := 4) (v := .long (L o0 0)) hx hb hts hw3 hown hK hz hs3 rfl 0 (by decide) hw4 (fun _ h9 => h9) rfl dX3_makeMonic_47 ?_
        obtain ⟨hn4, hwp⟩ := hwp
        refine lv_lrem hx hb dX3_makeMonic_50 hn4 ?_
        obtain ⟨ho5, hwp⟩ := hwp
        refine sw_last hx hb hK hz ho5 dX3_makeMonic_51 (fun H locs L6 e_L6 hz => ?_)
        have hwp := hwp L6 e_L6
        obtain ⟨v7, q_v7⟩ : ∃ y : Int32, y = x4 + 1 := ⟨_, rfl⟩
        have hwp := hwp v7 q_v7
        refine lv_iinc (v := v7) (lv' := [(4, .int v7), (0, .ref o0), (1, .ref o1), (2, .long x2)]) hx hb dX3_makeMonic_52 hl (k := 3) rfl (by rw [q_v7]; rfl) (by decide) rfl (fun ls hl => ?_)
        refine lv_goto (tgt := 22) hx hb dX3_makeMonic_55 (by decide) ?_
        exact hC22 _ _ _ _ _ _ _ _ hwp hz (lv_sub hl [1, 2, 3, 0] rfl)
    exact key μ I L A x2 x4 H locs ls hi hz hl
  refine lv_aload_n hx hb dX3_makeMonic_0 rfl (lv_at hl 1 rfl) ?_
  obtain ⟨hs8, hwp⟩ := hwp
  obtain ⟨P9, hc10, hwp⟩ := hwp
  refine sw_calll hz (va_runV (As := []) (rest := []) ⟨hx, hb, hml, hown, hts⟩ (hc10 hK _) (cwV 0 hts gX3_makeMonic_X4_lead rfl rfl rfl (by decide +kernel) ⟨Nat.le_of_ble_eq_true rfl, Nat.le_of_ble_eq_true rfl⟩) (hz.preV hK hs8 rfl) rfl rfl hl.1 rfl (lv_room (Nat.le_of_ble_eq_true rfl)) dX3_makeMonic_1 ⟨Nat.le_of_ble_eq_true rfl, Nat.le_of_ble_eq_true rfl⟩) (fun r14 I11 L12 A13 H locs hp hz => ?_)
  have hwp := hwp r14 I11 L12 A13 hp
  refine lv_lconst (v := 1) hx hb dX3_makeMonic_4 (by decide) ?_
  refine W.lcmp hx hb dX3_makeMonic_5 ?_
  refine W.eq (g2 := F0 m 6 ls [.int (lg_cmp r14 1)]) rfl ?_
  refine lv_if_ne (tgt := 10) hx hb dX3_makeMonic_6 (by decide) (fun q => ?_) (fun q => ?_)
  · have hwp := hwp.2 (fun h => q ((lg_cmp_eq _ _).mpr h))
    refine lv_aload_n hx hb dX3_makeMonic_10 rfl (lv_at hl 0 rfl) ?_
    refine lv_aload_n hx hb dX3_makeMonic_11 rfl (lv_at hl 1 rfl) ?_
    obtain ⟨P15, hc16, hwp⟩ := hwp
    refine sw_calll hz (va_runV (As := []) (rest := [.ref o0]) ⟨hx, hb, hml, hown, hts⟩ (hc16 hK _) (cwV 0 hts gX3_makeMonic_X4_lead rfl rfl rfl (by decide +kernel) ⟨Nat.le_of_ble_eq_true rfl, Nat.le_of_ble_eq_true rfl⟩) (hz.preV hK hs8 rfl) rfl rfl hl.1 rfl (lv_room (Nat.le_of_ble_eq_true rfl)) dX3_makeMonic_12 ⟨Nat.le_of_ble_eq_true rfl, Nat.le_of_ble_eq_true rfl⟩) (fun r20 I17 L18 A19 H locs hp hz => ?_)
    have hwp := hwp r20 I17 L18 A19 hp
    obtain ⟨hs21, hwp⟩ := hwp
    obtain ⟨P22, hc23, hwp⟩ := hwp
    refine sw_calll hz (va_runV (As := [.long r20]) (rest := []) ⟨hx, hb, hml, hown, hts⟩ (hc23 hK _) (cwV 1 hts gX3_makeMonic_X3_inverse rfl rfl rfl (by decide +kernel) ⟨Nat.le_of_ble_eq_true rfl, Nat.le_of_ble_eq_true rfl⟩) (hz.preV hK hs21 rfl) rfl rfl hl.1 rfl (lv_room (Nat.le_of_ble_eq_true rfl)) dX3_makeMonic_15 ⟨Nat.le_of_ble_eq_true rfl, Nat.le_of_ble_eq_true rfl⟩) (fun r27 I24 L25 A26 H locs hp hz => ?_)
    have hwp := hwp r27 I24 L25 A26 hp
    refine lv_lstore_n (lv' := [(2, .long r27), (0, .ref o0), (1, .ref o1)]) hx hb dX3_makeMonic_18 rfl hl (by decide) rfl (fun ls hl => ?_)
    refine lv_iconst (v := 0) hx hb dX3_makeMonic_19 (by decide) ?_
    refine lv_istore (lv' := [(4, .int 0), (2, .long r27), (0, .ref o0), (1, .ref o1)]) hx hb dX3_makeMonic_20 hl (by decide) rfl (fun ls hl => ?_)
    exact wL22 _ _ _ _ _ _ _ _ hwp hz (lv_sub hl [2, 3, 1, 0] rfl)
  · have hwp := hwp.1 ((lg_cmp_eq _ _).mp q)
    exact sw_vret hx hb hret hlocks hz hwp dX3_makeMonic_9

def wp_X3_subtractShifted_21 (K : Cx) (o0 : Nat) (o1 : Nat) (o2 : Nat) (i3 : Int32) (I : TI) (L : TL) (A : TA) (x4 : Int64) (x6 : Int32) (Q : TI → TL → TA → Prop) : Prop := ∃ (Inv : Nat → TI → TL → TA → Int64 → Int32 → Prop) (μ : Nat), Inv μ I L A x4 x6 ∧ ∀ (μ : Nat) (C21 : TI → TL → TA → Int64 → Int32 → Prop), (∀ (μ' : Nat) (I : TI) (L : TL) (A : TA) (x4 : Int64) (x6 : Int32) , μ' < μ → Inv μ' I L A x4 x6 → C21 I L A x4 x6) → ∀ (I : TI) (L : TL) (A : TA) (x4 : Int64) (x6 : Int32) , Inv μ I L A x4 x6 → cxS K o2 = shX4 o2 ∧ (((I o2 1) < x6 → Q I L A) ∧ (¬ (I o2 1) < x6 → cxS K o1 = shX4 o1 ∧ aok (cxS K) (o1 + 1) 1 (i3 + x6) ∧ aok (cxS K) (o2 + 1) 1 x6 ∧ cxS K o0 = shX3 o0 ∧ ¬ (L o0 0) = 0 ∧ aok (cxS K) (o1 + 1) 1 (i3 + x6) ∧ ∀ L8 : TL, L8 = u2 L (o1 + 1) (ix (i3 + x6)) (((L (o1 + 1) (ix (i3 + x6))) + (x4 * (L (o2 + 1) (ix x6)))) - ((L (o1 + 1) (ix (i3 + x6))) + (x4 * (L (o2 + 1) (ix x6)))) / (L o0 0) * (L o0 0)) → ∀ v9 : Int32, v9 = x6 + 1 → C21 I L8 A x4 v9))
def wp_X3_subtractShifted (K : Cx) (I : TI) (L : TL) (A : TA) (o0 : Nat) (o1 : Nat) (o2 : Nat) (i3 : Int32) (Q : TI → TL → TA → Prop) : Prop := cxS K o0 = shX3 o0 ∧ cxS K o1 = shX4 o1 ∧ cxS K o2 = shX4 o2 ∧ aok (cxS K) (o1 + 1) 1 (i3 + (I o2 1)) ∧ ∀ v14 : Int64, v14 = ((L o0 0) - (L (o1 + 1) (ix (i3 + (I o2 1))))) → wp_X3_subtractShifted_21 K o0 o1 o2 i3 I L A v14 0 Q
set_option maxHeartbeats 1000000 in
set_option maxRecDepth 100000 in
theorem w_X3_subtractShifted (K : Cx) (I : TI) (L : TL) (A : TA) (o0 : Nat) (o1 : Nat) (o2 : Nat) (i3 : Int32) (Q : TI → TL → TA → Prop) (hwp : wp_X3_subtractShifted K I L A o0 o1 o2 i3 Q) : ConV K yX3_subtractShifted wsX3_subtractShifted 0 0 I L A [.ref o0, .ref o1, .ref o2, .int i3] Q := by
  intro hK sz
  refine Met.ofW (cc := cX3_subtractShifted) (maxL := 7) (ret := none) (by decide) rfl ?_
  intro p e s m args below meth c s₁ B hml hv
  obtain ⟨rfl, hsz, hB⟩ := hv
  have hx := B.exec
  have hb := B.bytes
  have hret := B.returns
  have hts := atoms_spec (ws := wsX3_subtractShifted) B.pre
  have hown : s.vm.findClass RX3 = some m.cls := findClass_of_methodNamed B.named
  have hlocks := B.notSynchronized
  subst hsz
  have hz : SS K s I L A s.heap [] := PS.start hB
  have hl := lv_entry ([.ref o0, .ref o1, .ref o2, .int i3]) (n := 7) (Nat.le_of_ble_eq_true rfl)
  rw [lg_entry_eq]
  generalize (lg_sl ([.ref o0, .ref o1, .ref o2, .int i3]) ++ List.replicate (7 - (lg_sl ([.ref o0, .ref o1, .ref o2, .int i3])).length) Slot.unset).toArray = ls at hl ⊢
  have hl : lv_has ls 7 [(0, .ref o0), (1, .ref o1), (2, .ref o2), (3, .int i3)] := hl
  have hw0 : ∀ w ∈ u_ws RX4 TX4 2, w ∈ wsX3_subtractShifted := by decide +kernel
  have hw1 := hts (.fieldLink RX3 47 "GaloisDesk$Row" "top" "I") (by decide +kernel)
  have hw2 := hts (.fieldLink RX3 31 "GaloisDesk$Row" "c" "[J") (by decide +kernel)
  have hw3 : ∀ w ∈ u_ws RX3 TX3 4, w ∈ wsX3_subtractShifted := by decide +kernel
  have hw4 := hts (.fieldLink RX3 11 "GaloisDesk$Residues" "modulus" "J") (by decide +kernel)
  clear hB B
  have wL21 : ∀ (I : TI) (L : TL) (A : TA) (x4 : Int64) (x6 : Int32) (H : Heap) (locs : List Loc) (ls : Array Slot), wp_X3_subtractShifted_21 K o0 o1 o2 i3 I L A x4 x6 Q → SS K s I L A H locs → lv_has ls 7 [(0, .ref o0), (1, .ref o1), (2, .ref o2), (3, .int i3), (4, .long x4), (6, .int x6)] → W p (cxl K) e (headSpec wsX3_subtractShifted (rmF 0 0)).room s m ([.ref o0, .ref o1, .ref o2, .int i3] : List Value).toArray below meth c H locs 0 0 (MQ below (cxQv K Q) ([.ref o0, .ref o1, .ref o2, .int i3] : List Value).toArray s 0 0 (PA (cxb K))) (F0 m 21 ls []) := by
    intro I L A x4 x6 H locs ls hwp hz hl
    obtain ⟨Inv, μ, hi, hst⟩ := hwp
    have key : ∀ (μ : Nat) (I : TI) (L : TL) (A : TA) (x4 : Int64) (x6 : Int32) (H : Heap) (locs : List Loc) (ls : Array Slot), Inv μ I L A x4 x6 → SS K s I L A H locs → lv_has ls 7 [(0, .ref o0), (1, .ref o1), (2, .ref o2), (3, .int i3), (4, .long x4), (6, .int x6)] → W p (cxl K) e (headSpec wsX3_subtractShifted (rmF 0 0)).room s m ([.ref o0, .ref o1, .ref o2, .int i3] : List Value).toArray below meth c H locs 0 0 (MQ below (cxQv K Q) ([.ref o0, .ref o1, .ref o2, .int i3] : List Value).toArray s 0 0 (PA (cxb K))) (F0 m 21 ls []) := by
      clear hi hz hl
      intro μ
      induction μ using Nat.strongRecOn with | ind μ ih => ?_
      intro I L A x4 x6 H locs ls hi hz hl
      obtain ⟨C21, hCd⟩ : ∃ C : TI → TL → TA → Int64 → Int32 → Prop, C = fun I L A x4 x6 => ∃ μ', μ' < μ ∧ Inv μ' I L A x4 x6 := ⟨_, rfl⟩
      have hC21 : ∀ (I : TI) (L : TL) (A : TA) (x4 : Int64) (x6 : Int32) (H : Heap) (locs : List Loc) (ls : Array Slot), C21 I L A x4 x6 → SS K s I L A H locs → lv_has ls 7 [(0, .ref o0), (1, .ref o1), (2, .ref o2), (3, .int i3), (4, .long x4), (6, .int x6)] → W p (cxl K) e (headSpec wsX3_subtractShifted (rmF 0 0)).room s m ([.ref o0, .ref o1, .ref o2, .int i3] : List Value).toArray below meth c H locs 0 0 (MQ below (cxQv K Q) ([.ref o0, .ref o1, .ref o2, .int i3] : List Value).toArray s 0 0 (PA (cxb K))) (F0 m 21 ls []) := by
        intro I L A x4 x6 H locs ls hc hz hl
        rw [hCd] at hc
        obtain ⟨μ', hlt, hc⟩ := hc
        exact ih μ' hlt I L A x4 x6 H locs ls hc hz hl
      have hwp := hst μ C21 (fun μ' I L A x4 x6 hlt hc => by rw [hCd]; exact ⟨μ', hlt, hc⟩) I L A x4 x6 hi
      refine lv_iload hx hb dX3_subtractShifted_21 (lv_at hl 5 rfl) ?_
      refine lv_aload_n hx hb dX3_subtractShifted_23 rfl (lv_at hl 2 rfl) ?_
      obtain ⟨hs1, hwp⟩ := hwp
      refine sw_get (C := RX4) (T := TX4) (N := 2) (v := .int (I o2 1)) hx hb hts hw0 hown hK hz hs1 rfl 1 (by decide) hw1 (fun _ h9 => h9) rfl dX3_subtractShifted_24 ?_
      refine lv_icmp_gt (tgt := 70) hx hb dX3_subtractShifted_27 (by decide) (fun q => ?_) (fun q => ?_)
      · have hwp := hwp.1 q
        exact sw_vret hx hb hret hlocks hz hwp dX3_subtractShifted_70
      · have hwp := hwp.2 q
        refine lv_aload_n hx hb dX3_subtractShifted_30 rfl (lv_at hl 1 rfl) ?_
        obtain ⟨hs2, hwp⟩ := hwp
        refine sw_get (C := RX4) (T := TX4) (N := 2) (v := .ref (o1 + 1)) hx hb hts hw0 hown hK hz hs2 rfl 0 (by decide) hw2 (fun _ h9 => h9) rfl dX3_subtractShifted_31 ?_
        refine lv_iload_n hx hb dX3_subtractShifted_34 rfl (lv_at hl 3 rfl) ?_
        refine lv_iload hx hb dX3_subtractShifted_35 (lv_at hl 5 rfl) ?_
        refine lv_iadd hx hb dX3_subtractShifted_37 ?_
        refine lv_aload_n hx hb dX3_subtractShifted_38 rfl (lv_at hl 1 rfl) ?_
        refine sw_get (C := RX4) (T := TX4) (N := 2) (v := .ref (o1 + 1)) hx hb hts hw0 hown hK hz hs2 rfl 0 (by decide) hw2 (fun _ h9 => h9) rfl dX3_subtractShifted_39 ?_
        refine lv_iload_n hx hb dX3_subtractShifted_42 rfl (lv_at hl 3 rfl) ?_
        refine lv_iload hx hb dX3_subtractShifted_43 (lv_at hl 5 rfl) ?_
        refine lv_iadd hx hb dX3_subtractShifted_45 ?_
        obtain ⟨ho3, hwp⟩ := hwp
        refine sw_lald hx hb hK hz ho3 dX3_subtractShifted_46 ?_
        refine lv_lload hx hb dX3_subtractShifted_47 (lv_at hl 4 rfl) ?_
        refine lv_aload_n hx hb dX3_subtractShifted_49 rfl (lv_at hl 2 rfl) ?_
        refine sw_get (C := RX4) (T := TX4) (N := 2) (v := .ref (o2 + 1)) hx hb hts hw0 hown hK hz hs1 rfl 0 (by decide) hw2 (fun _ h9 => h9) rfl dX3_subtractShifted_50 ?_
        refine lv_iload hx hb dX3_subtractShifted_53 (lv_at hl 5 rfl) ?_
        obtain ⟨ho4, hwp⟩ := hwp
        refine sw_lald hx hb hK hz ho4 dX3_subtractShifted_55 ?_
        refine lv_lmul hx hb dX3_subtractShifted_56 ?_
        refine lv_ladd hx hb dX3_subtractShifted_57 ?_
        refine lv_aload_n hx hb dX3_subtractShifted_58 rfl (lv_at hl 0 rfl) ?_
        obtain ⟨hs5, hwp⟩ := hwp
        refine sw_get (C := RX3) (T := TX3) (N := 4) (v := .long (L o0 0)) hx hb hts hw3 hown hK hz hs5 rfl 0 (by decide) hw4 (fun _ h9 => h9) rfl dX3_subtractShifted_59 ?_
        obtain ⟨hn6, hwp⟩ := hwp
        refine lv_lrem hx hb dX3_subtractShifted_62 hn6 ?_
        obtain ⟨ho7, hwp⟩ := hwp
        refine sw_last hx hb hK hz ho7 dX3_subtractShifted_63 (fun H locs L8 e_L8 hz => ?_)
        have hwp := hwp L8 e_L8
        obtain ⟨v9, q_v9⟩ : ∃ y : Int32, y = x6 + 1 := ⟨_, rfl⟩
        have hwp := hwp v9 q_v9
        refine lv_iinc (v := v9) (lv' := [(6, .int v9), (0, .ref o0), (1, .ref o1), (2, .ref o2), (3, .int i3), (4, .long x4)]) hx hb dX3_subtractShifted_64 hl (k := 5) rfl (by rw [q_v9]; rfl) (by decide) rfl (fun ls hl => ?_)
        refine lv_goto (tgt := 21) hx hb dX3_subtractShifted_67 (by decide) ?_
        exact hC21 _ _ _ _ _ _ _ _ hwp hz (lv_sub hl [1, 2, 3, 4, 5, 0] rfl)
    exact key μ I L A x4 x6 H locs ls hi hz hl
  refine lv_aload_n hx hb dX3_subtractShifted_0 rfl (lv_at hl 0 rfl) ?_
  obtain ⟨hs10, hwp⟩ := hwp
  refine sw_get (C := RX3) (T := TX3) (N := 4) (v := .long (L o0 0)) hx hb hts hw3 hown hK hz hs10 rfl 0 (by decide) hw4 (fun _ h9 => h9) rfl dX3_subtractShifted_1 ?_
  refine lv_aload_n hx hb dX3_subtractShifted_4 rfl (lv_at hl 1 rfl) ?_
  obtain ⟨hs11, hwp⟩ := hwp
  refine sw_get (C := RX4) (T := TX4) (N := 2) (v := .ref (o1 + 1)) hx hb hts hw0 hown hK hz hs11 rfl 0 (by decide) hw2 (fun _ h9 => h9) rfl dX3_subtractShifted_5 ?_
  refine lv_iload_n hx hb dX3_subtractShifted_8 rfl (lv_at hl 3 rfl) ?_
  refine lv_aload_n hx hb dX3_subtractShifted_9 rfl (lv_at hl 2 rfl) ?_
  obtain ⟨hs12, hwp⟩ := hwp
  refine sw_get (C := RX4) (T := TX4) (N := 2) (v := .int (I o2 1)) hx hb hts hw0 hown hK hz hs12 rfl 1 (by decide) hw1 (fun _ h9 => h9) rfl dX3_subtractShifted_10 ?_
  refine lv_iadd hx hb dX3_subtractShifted_13 ?_
  obtain ⟨ho13, hwp⟩ := hwp
  refine sw_lald hx hb hK hz ho13 dX3_subtractShifted_14 ?_
  refine lv_lsub hx hb dX3_subtractShifted_15 ?_
  refine lv_topl (fun v14 q_v14 => ?_)
  have hwp := hwp v14 q_v14
  refine lv_lstore (lv' := [(4, .long v14), (0, .ref o0), (1, .ref o1), (2, .ref o2), (3, .int i3)]) hx hb dX3_subtractShifted_16 hl (by decide) rfl (fun ls hl => ?_)
  refine lv_iconst (v := 0) hx hb dX3_subtractShifted_18 (by decide) ?_
  refine lv_istore (lv' := [(6, .int 0), (4, .long v14), (0, .ref o0), (1, .ref o1), (2, .ref o2), (3, .int i3)]) hx hb dX3_subtractShifted_19 hl (by decide) rfl (fun ls hl => ?_)
  exact wL21 _ _ _ _ _ _ _ _ hwp hz (lv_sub hl [2, 3, 4, 5, 1, 0] rfl)

def wp_X3_takeRest_10 (K : Cx) (o0 : Nat) (o1 : Nat) (o2 : Nat) (I : TI) (L : TL) (A : TA) (x3 : Int32) (Q : TI → TL → TA → Prop) : Prop := ∃ (Inv : Nat → TI → TL → TA → Int32 → Prop) (μ : Nat), Inv μ I L A x3 ∧ ∀ (μ : Nat) (C10 : TI → TL → TA → Int32 → Prop), (∀ (μ' : Nat) (I : TI) (L : TL) (A : TA) (x3 : Int32) , μ' < μ → Inv μ' I L A x3 → C10 I L A x3) → ∀ (I : TI) (L : TL) (A : TA) (x3 : Int32) , Inv μ I L A x3 → ((x3 < 0 → cxS K o1 = shX4 o1 ∧ ∃ P2 : TI → TL → TA → Prop, ConV K yX4_settle wsX4_settle 0 0 I L A [.ref o1] P2 ∧ ∀ (I4 : TI) (L5 : TL) (A6 : TA), P2 I4 L5 A6 → Q I4 L5 A6) ∧ (¬ x3 < 0 → cxS K o0 = shX3 o0 ∧ ∃ P8 : TI → TL → TA → Prop, ConV K yX3_subtractShifted wsX3_subtractShifted 0 0 I L A [.ref o0, .ref o1, .ref o2, .int x3] P8 ∧ ∀ (I10 : TI) (L11 : TL) (A12 : TA), P8 I10 L11 A12 → ∀ v13 : Int32, v13 = x3 + (-1) → C10 I10 L11 A12 v13))
def wp_X3_takeRest (K : Cx) (I : TI) (L : TL) (A : TA) (o0 : Nat) (o1 : Nat) (o2 : Nat) (Q : TI → TL → TA → Prop) : Prop := cxS K o1 = shX4 o1 ∧ cxS K o2 = shX4 o2 ∧ ∀ v16 : Int32, v16 = ((I o1 1) - (I o2 1)) → wp_X3_takeRest_10 K o0 o1 o2 I L A v16 Q
set_option maxHeartbeats 1000000 in
set_option maxRecDepth 100000 in
theorem w_X3_takeRest (K : Cx) (I : TI) (L : TL) (A : TA) (o0 : Nat) (o1 : Nat) (o2 : Nat) (Q : TI → TL → TA → Prop) (hwp : wp_X3_takeRest K I L A o0 o1 o2 Q) : ConV K yX3_takeRest wsX3_takeRest 1 26 I L A [.ref o0, .ref o1, .ref o2] Q := by
  intro hK sz
  refine Met.ofW (cc := cX3_takeRest) (maxL := 4) (ret := none) (by decide) rfl ?_
  intro p e s m args below meth c s₁ B hml hv
  obtain ⟨rfl, hsz, hB⟩ := hv
  have hx := B.exec
  have hb := B.bytes
  have hret := B.returns
  have hts := atoms_spec (ws := wsX3_takeRest) B.pre
  have hown : s.vm.findClass RX3 = some m.cls := findClass_of_methodNamed B.named
  have hlocks := B.notSynchronized
  subst hsz
  have hz : SS K s I L A s.heap [] := PS.start hB
  have hl := lv_entry ([.ref o0, .ref o1, .ref o2]) (n := 4) (Nat.le_of_ble_eq_true rfl)
  rw [lg_entry_eq]
  generalize (lg_sl ([.ref o0, .ref o1, .ref o2]) ++ List.replicate (4 - (lg_sl ([.ref o0, .ref o1, .ref o2])).length) Slot.unset).toArray = ls at hl ⊢
  have hl : lv_has ls 4 [(0, .ref o0), (1, .ref o1), (2, .ref o2)] := hl
  have hw0 : ∀ w ∈ u_ws RX4 TX4 2, w ∈ wsX3_takeRest := by decide +kernel
  have hw1 := hts (.fieldLink RX3 47 "GaloisDesk$Row" "top" "I") (by decide +kernel)
  clear hB B
  have wL10 : ∀ (I : TI) (L : TL) (A : TA) (x3 : Int32) (H : Heap) (locs : List Loc) (ls : Array Slot), wp_X3_takeRest_10 K o0 o1 o2 I L A x3 Q → SS K s I L A H locs → lv_has ls 4 [(0, .ref o0), (1, .ref o1), (2, .ref o2), (3, .int x3)] → W p (cxl K) e (headSpec wsX3_takeRest (rmF 1 26)).room s m ([.ref o0, .ref o1, .ref o2] : List Value).toArray below meth c H locs 0 0 (MQ below (cxQv K Q) ([.ref o0, .ref o1, .ref o2] : List Value).toArray s 0 0 (PA (cxb K))) (F0 m 10 ls []) := by
    intro I L A x3 H locs ls hwp hz hl
    obtain ⟨Inv, μ, hi, hst⟩ := hwp
    have key : ∀ (μ : Nat) (I : TI) (L : TL) (A : TA) (x3 : Int32) (H : Heap) (locs : List Loc) (ls : Array Slot), Inv μ I L A x3 → SS K s I L A H locs → lv_has ls 4 [(0, .ref o0), (1, .ref o1), (2, .ref o2), (3, .int x3)] → W p (cxl K) e (headSpec wsX3_takeRest (rmF 1 26)).room s m ([.ref o0, .ref o1, .ref o2] : List Value).toArray below meth c H locs 0 0 (MQ below (cxQv K Q) ([.ref o0, .ref o1, .ref o2] : List Value).toArray s 0 0 (PA (cxb K))) (F0 m 10 ls []) := by
      clear hi hz hl
      intro μ
      induction μ using Nat.strongRecOn with | ind μ ih => ?_
      intro I L A x3 H locs ls hi hz hl
      obtain ⟨C10, hCd⟩ : ∃ C : TI → TL → TA → Int32 → Prop, C = fun I L A x3 => ∃ μ', μ' < μ ∧ Inv μ' I L A x3 := ⟨_, rfl⟩
      have hC10 : ∀ (I : TI) (L : TL) (A : TA) (x3 : Int32) (H : Heap) (locs : List Loc) (ls : Array Slot), C10 I L A x3 → SS K s I L A H locs → lv_has ls 4 [(0, .ref o0), (1, .ref o1), (2, .ref o2), (3, .int x3)] → W p (cxl K) e (headSpec wsX3_takeRest (rmF 1 26)).room s m ([.ref o0, .ref o1, .ref o2] : List Value).toArray below meth c H locs 0 0 (MQ below (cxQv K Q) ([.ref o0, .ref o1, .ref o2] : List Value).toArray s 0 0 (PA (cxb K))) (F0 m 10 ls []) := by
        intro I L A x3 H locs ls hc hz hl
        rw [hCd] at hc
        obtain ⟨μ', hlt, hc⟩ := hc
        exact ih μ' hlt I L A x3 H locs ls hc hz hl
      have hwp := hst μ C10 (fun μ' I L A x3 hlt hc => by rw [hCd]; exact ⟨μ', hlt, hc⟩) I L A x3 hi
      refine lv_iload_n hx hb dX3_takeRest_10 rfl (lv_at hl 3 rfl) ?_
      refine lv_if_lt (tgt := 27) hx hb dX3_takeRest_11 (by decide) (fun q => ?_) (fun q => ?_)
      · have hwp := hwp.1 q
        refine lv_aload_n hx hb dX3_takeRest_27 rfl (lv_at hl 1 rfl) ?_
        obtain ⟨hs1, hwp⟩ := hwp
        obtain ⟨P2, hc3, hwp⟩ := hwp
        refine sw_callv hz (va_runV (As := []) (rest := []) ⟨hx, hb, hml, hown, hts⟩ (hc3 hK _) (cwV 0 hts gX3_takeRest_X4_settle rfl rfl rfl (by decide +kernel) ⟨Nat.le_of_ble_eq_true rfl, Nat.le_of_ble_eq_true rfl⟩) (hz.preV hK hs1 rfl) rfl rfl hl.1 rfl (lv_room (Nat.le_of_ble_eq_true rfl)) dX3_takeRest_28 ⟨Nat.le_of_ble_eq_true rfl, Nat.le_of_ble_eq_true rfl⟩) (fun I4 L5 A6 H locs hp hz => ?_)
        have hwp := hwp I4 L5 A6 hp
        exact sw_vret hx hb hret hlocks hz hwp dX3_takeRest_31
      · have hwp := hwp.2 q
        refine lv_aload_n hx hb dX3_takeRest_14 rfl (lv_at hl 0 rfl) ?_
        refine lv_aload_n hx hb dX3_takeRest_15 rfl (lv_at hl 1 rfl) ?_
        refine lv_aload_n hx hb dX3_takeRest_16 rfl (lv_at hl 2 rfl) ?_
        refine lv_iload_n hx hb dX3_takeRest_17 rfl (lv_at hl 3 rfl) ?_
        obtain ⟨hs7, hwp⟩ := hwp
        obtain ⟨P8, hc9, hwp⟩ := hwp
        refine sw_callv hz (va_runV (As := [.ref o1, .ref o2, .int x3]) (rest := []) ⟨hx, hb, hml, hown, hts⟩ (hc9 hK _) (cwV 3 hts gX3_takeRest_X3_subtractShifted rfl rfl rfl (by decide +kernel) ⟨Nat.le_of_ble_eq_true rfl, Nat.le_of_ble_eq_true rfl⟩) (hz.preV hK hs7 rfl) rfl rfl hl.1 rfl (lv_room (Nat.le_of_ble_eq_true rfl)) dX3_takeRest_18 ⟨Nat.le_of_ble_eq_true rfl, Nat.le_of_ble_eq_true rfl⟩) (fun I10 L11 A12 H locs hp hz => ?_)
        have hwp := hwp I10 L11 A12 hp
        obtain ⟨v13, q_v13⟩ : ∃ y : Int32, y = x3 + (-1) := ⟨_, rfl⟩
        have hwp := hwp v13 q_v13
        refine lv_iinc (v := v13) (lv' := [(3, .int v13), (0, .ref o0), (1, .ref o1), (2, .ref o2)]) hx hb dX3_takeRest_21 hl (k := 3) rfl (by rw [q_v13]; rfl) (by decide) rfl (fun ls hl => ?_)
        refine lv_goto (tgt := 10) hx hb dX3_takeRest_24 (by decide) ?_
        exact hC10 _ _ _ _ _ _ _ hwp hz (lv_sub hl [1, 2, 3, 0] rfl)
    exact key μ I L A x3 H locs ls hi hz hl
  refine lv_aload_n hx hb dX3_takeRest_0 rfl (lv_at hl 1 rfl) ?_
  obtain ⟨hs14, hwp⟩ := hwp
  refine sw_get (C := RX4) (T := TX4) (N := 2) (v := .int (I o1 1)) hx hb hts hw0 hown hK hz hs14 rfl 1 (by decide) hw1 (fun _ h9 => h9) rfl dX3_takeRest_1 ?_
  refine lv_aload_n hx hb dX3_takeRest_4 rfl (lv_at hl 2 rfl) ?_
  obtain ⟨hs15, hwp⟩ := hwp
  refine sw_get (C := RX4) (T := TX4) (N := 2) (v := .int (I o2 1)) hx hb hts hw0 hown hK hz hs15 rfl 1 (by decide) hw1 (fun _ h9 => h9) rfl dX3_takeRest_5 ?_
  refine lv_isub hx hb dX3_takeRest_8 ?_
  refine lv_topi (fun v16 q_v16 => ?_)
  have hwp := hwp v16 q_v16
  refine lv_istore_n (lv' := [(3, .int v16), (0, .ref o0), (1, .ref o1), (2, .ref o2)]) hx hb dX3_takeRest_9 rfl hl (by decide) rfl (fun ls hl => ?_)
  exact wL10 _ _ _ _ _ _ _ hwp hz (lv_sub hl [1, 2, 3, 0] rfl)

def wp_X3_findCommon_74 (K : Cx) (o0 : Nat) (o1 : Nat) (o2 : Nat) (o3 : Nat) (I : TI) (L : TL) (A : TA) (x4 : Nat) (Q : TI → TL → TA → Prop) : Prop := cxS K o0 = shX3 o0 ∧ ∃ P2 : TI → TL → TA → Prop, ConV K yX3_makeMonic wsX3_makeMonic 2 41 I L A [.ref o0, .ref x4] P2 ∧ ∀ (I4 : TI) (L5 : TL) (A6 : TA), P2 I4 L5 A6 → cxS K o1 = shX4 o1 ∧ ∃ P8 : TI → TL → TA → Prop, ConV K yX4_become wsX4_become 1 40 I4 L5 A6 [.ref o1, .ref x4] P8 ∧ ∀ (I10 : TI) (L11 : TL) (A12 : TA), P8 I10 L11 A12 → Q I10 L11 A12
def wp_X3_findCommon_27 (K : Cx) (o0 : Nat) (o1 : Nat) (o2 : Nat) (o3 : Nat) (I : TI) (L : TL) (A : TA) (x4 : Nat) (x5 : Nat) (x6 : Int32) (Q : TI → TL → TA → Prop) : Prop := ∃ (Inv : Nat → TI → TL → TA → Nat → Nat → Int32 → Prop) (μ : Nat), Inv μ I L A x4 x5 x6 ∧ ∀ (μ : Nat) (C27 : TI → TL → TA → Nat → Nat → Int32 → Prop), (∀ (μ' : Nat) (I : TI) (L : TL) (A : TA) (x4 : Nat) (x5 : Nat) (x6 : Int32) , μ' < μ → Inv μ' I L A x4 x5 x6 → C27 I L A x4 x5 x6) → ∀ (I : TI) (L : TL) (A : TA) (x4 : Nat) (x5 : Nat) (x6 : Int32) , Inv μ I L A x4 x5 x6 → ((13 < x6 → wp_X3_findCommon_74 K o0 o1 o2 o3 I L A x4 Q) ∧ (¬ 13 < x6 → cxS K x5 = shX4 x5 ∧ (((I x5 1) < 0 → wp_X3_findCommon_74 K o0 o1 o2 o3 I L A x4 Q) ∧ (¬ (I x5 1) < 0 → cxS K o0 = shX3 o0 ∧ ∃ P15 : TI → TL → TA → Prop, ConV K yX3_makeMonic wsX3_makeMonic 2 41 I L A [.ref o0, .ref x5] P15 ∧ ∀ (I17 : TI) (L18 : TL) (A19 : TA), P15 I17 L18 A19 → ∃ P20 : TI → TL → TA → Prop, ConV K yX3_takeRest wsX3_takeRest 1 26 I17 L18 A19 [.ref o0, .ref x4, .ref x5] P20 ∧ ∀ (I22 : TI) (L23 : TL) (A24 : TA), P20 I22 L23 A24 → ∀ v25 : Int32, v25 = x6 + 1 → C27 I22 L23 A24 x5 x4 v25))))
def wp_X3_findCommon (K : Cx) (I : TI) (L : TL) (A : TA) (o0 : Nat) (o1 : Nat) (o2 : Nat) (o3 : Nat) (Q : TI → TL → TA → Prop) : Prop := cxS K o0 = shX3 o0 ∧ cxS K (o0 + 2) = shX4 (o0 + 2) ∧ ∃ P28 : TI → TL → TA → Prop, ConV K yX4_become wsX4_become 1 40 I L A [.ref (o0 + 2), .ref o2] P28 ∧ ∀ (I30 : TI) (L31 : TL) (A32 : TA), P28 I30 L31 A32 → cxS K (o0 + 4) = shX4 (o0 + 4) ∧ ∃ P34 : TI → TL → TA → Prop, ConV K yX4_become wsX4_become 1 40 I30 L31 A32 [.ref (o0 + 4), .ref o3] P34 ∧ ∀ (I36 : TI) (L37 : TL) (A38 : TA), P34 I36 L37 A38 → wp_X3_findCommon_27 K o0 o1 o2 o3 I36 L37 A38 (o0 + 2) (o0 + 4) 0 Q
set_option maxHeartbeats 1000000 in
set_option maxRecDepth 100000 in
theorem w_X3_findCommon (K : Cx) (I : TI) (L : TL) (A : TA) (o0 : Nat) (o1 : Nat) (o2 : Nat) (o3 : Nat) (Q : TI → TL → TA → Prop) (hwp : wp_X3_findCommon K I L A o0 o1 o2 o3 Q) : ConV K yX3_findCommon wsX3_findCommon 3 65 I L A [.ref o0, .ref o1, .ref o2, .ref o3] Q := by
  intro hK sz
  refine Met.ofW (cc := cX3_findCommon) (maxL := 8) (ret := none) (by decide) rfl ?_
  intro p e s m args below meth c s₁ B hml hv
  obtain ⟨rfl, hsz, hB⟩ := hv
  have hx := B.exec
  have hb := B.bytes
  have hret := B.returns
  have hts := atoms_spec (ws := wsX3_findCommon) B.pre
  have hown : s.vm.findClass RX3 = some m.cls := findClass_of_methodNamed B.named
  have hlocks := B.notSynchronized
  subst hsz
  have hz : SS K s I L A s.heap [] := PS.start hB
  have hl := lv_entry ([.ref o0, .ref o1, .ref o2, .ref o3]) (n := 8) (Nat.le_of_ble_eq_true rfl)
  rw [lg_entry_eq]
  generalize (lg_sl ([.ref o0, .ref o1, .ref o2, .ref o3]) ++ List.replicate (8 - (lg_sl ([.ref o0, .ref o1, .ref o2, .ref o3])).length) Slot.unset).toArray = ls at hl ⊢
  have hl : lv_has ls 8 [(0, .ref o0), (1, .ref o1), (2, .ref o2), (3, .ref o3)] := hl
  have hw0 : ∀ w ∈ u_ws RX4 TX4 2, w ∈ wsX3_findCommon := by decide +kernel
  have hw1 := hts (.fieldLink RX3 47 "GaloisDesk$Row" "top" "I") (by decide +kernel)
  have hw2 : ∀ w ∈ u_ws RX3 TX3 4, w ∈ wsX3_findCommon := by decide +kernel
  have hw3 := hts (.fieldLink RX3 24 "GaloisDesk$Residues" "first" "LGaloisDesk$Row;") (by decide +kernel)
  have hw4 := hts (.fieldLink RX3 28 "GaloisDesk$Residues" "second" "LGaloisDesk$Row;") (by decide +kernel)
  clear hB B
  have wL74 : ∀ (I : TI) (L : TL) (A : TA) (x4 : Nat) (H : Heap) (locs : List Loc) (ls : Array Slot), wp_X3_findCommon_74 K o0 o1 o2 o3 I L A x4 Q → SS K s I L A H locs → lv_has ls 8 [(0, .ref o0), (1, .ref o1), (4, .ref x4)] → W p (cxl K) e (headSpec wsX3_findCommon (rmF 3 65)).room s m ([.ref o0, .ref o1, .ref o2, .ref o3] : List Value).toArray below meth c H locs 0 0 (MQ below (cxQv K Q) ([.ref o0, .ref o1, .ref o2, .ref o3] : List Value).toArray s 0 0 (PA (cxb K))) (F0 m 74 ls []) := by
    intro I L A x4 H locs ls hwp hz hl
    refine lv_aload_n hx hb dX3_findCommon_74 rfl (lv_at hl 0 rfl) ?_
    refine lv_aload hx hb dX3_findCommon_75 (lv_at hl 2 rfl) ?_
    obtain ⟨hs1, hwp⟩ := hwp
    obtain ⟨P2, hc3, hwp⟩ := hwp
    refine sw_callv hz (va_runV (As := [.ref x4]) (rest := []) ⟨hx, hb, hml, hown, hts⟩ (hc3 hK _) (cwV 1 hts gX3_findCommon_X3_makeMonic rfl rfl rfl (by decide +kernel) ⟨Nat.le_of_ble_eq_true rfl, Nat.le_of_ble_eq_true rfl⟩) (hz.preV hK hs1 rfl) rfl rfl hl.1 rfl (lv_room (Nat.le_of_ble_eq_true rfl)) dX3_findCommon_77 ⟨Nat.le_of_ble_eq_true rfl, Nat.le_of_ble_eq_true rfl⟩) (fun I4 L5 A6 H locs hp hz => ?_)
    have hwp := hwp I4 L5 A6 hp
    refine lv_aload_n hx hb dX3_findCommon_80 rfl (lv_at hl 1 rfl) ?_
    refine lv_aload hx hb dX3_findCommon_81 (lv_at hl 2 rfl) ?_
    obtain ⟨hs7, hwp⟩ := hwp
    obtain ⟨P8, hc9, hwp⟩ := hwp
    refine sw_callv hz (va_runV (As := [.ref x4]) (rest := []) ⟨hx, hb, hml, hown, hts⟩ (hc9 hK _) (cwV 1 hts gX3_findCommon_X4_become rfl rfl rfl (by decide +kernel) ⟨Nat.le_of_ble_eq_true rfl, Nat.le_of_ble_eq_true rfl⟩) (hz.preV hK hs7 rfl) rfl rfl hl.1 rfl (lv_room (Nat.le_of_ble_eq_true rfl)) dX3_findCommon_83 ⟨Nat.le_of_ble_eq_true rfl, Nat.le_of_ble_eq_true rfl⟩) (fun I10 L11 A12 H locs hp hz => ?_)
    have hwp := hwp I10 L11 A12 hp
    exact sw_vret hx hb hret hlocks hz hwp dX3_findCommon_86
  have wL27 : ∀ (I : TI) (L : TL) (A : TA) (x4 : Nat) (x5 : Nat) (x6 : Int32) (H : Heap) (locs : List Loc) (ls : Array Slot), wp_X3_findCommon_27 K o0 o1 o2 o3 I L A x4 x5 x6 Q → SS K s I L A H locs → lv_has ls 8 [(0, .ref o0), (1, .ref o1), (4, .ref x4), (5, .ref x5), (6, .int x6)] → W p (cxl K) e (headSpec wsX3_findCommon (rmF 3 65)).room s m ([.ref o0, .ref o1, .ref o2, .ref o3] : List Value).toArray below meth c H locs 0 0 (MQ below (cxQv K Q) ([.ref o0, .ref o1, .ref o2, .ref o3] : List Value).toArray s 0 0 (PA (cxb K))) (F0 m 27 ls []) := by
    intro I L A x4 x5 x6 H locs ls hwp hz hl
    obtain ⟨Inv, μ, hi, hst⟩ := hwp
    have key : ∀ (μ : Nat) (I : TI) (L : TL) (A : TA) (x4 : Nat) (x5 : Nat) (x6 : Int32) (H : Heap) (locs : List Loc) (ls : Array Slot), Inv μ I L A x4 x5 x6 → SS K s I L A H locs → lv_has ls 8 [(0, .ref o0), (1, .ref o1), (4, .ref x4), (5, .ref x5), (6, .int x6)] → W p (cxl K) e (headSpec wsX3_findCommon (rmF 3 65)).room s m ([.ref o0, .ref o1, .ref o2, .ref o3] : List Value).toArray below meth c H locs 0 0 (MQ below (cxQv K Q) ([.ref o0, .ref o1, .ref o2, .ref o3] : List Value).toArray s 0 0 (PA (cxb K))) (F0 m 27 ls []) := by
      clear hi hz hl
      intro μ
      induction μ using Nat.strongRecOn with | ind μ ih => ?_
      intro I L A x4 x5 x6 H locs ls hi hz hl
      obtain ⟨C27, hCd⟩ : ∃ C : TI → TL → TA → Nat → Nat → Int32 → Prop, C = fun I L A x4 x5 x6 => ∃ μ', μ' < μ ∧ Inv μ' I L A x4 x5 x6 := ⟨_, rfl⟩
      have hC27 : ∀ (I : TI) (L : TL) (A : TA) (x4 : Nat) (x5 : Nat) (x6 : Int32) (H : Heap) (locs : List Loc) (ls : Array Slot), C27 I L A x4 x5 x6 → SS K s I L A H locs → lv_has ls 8 [(0, .ref o0), (1, .ref o1), (4, .ref x4), (5, .ref x5), (6, .int x6)] → W p (cxl K) e (headSpec wsX3_findCommon (rmF 3 65)).room s m ([.ref o0, .ref o1, .ref o2, .ref o3] : List Value).toArray below meth c H locs 0 0 (MQ below (cxQv K Q) ([.ref o0, .ref o1, .ref o2, .ref o3] : List Value).toArray s 0 0 (PA (cxb K))) (F0 m 27 ls []) := by
        intro I L A x4 x5 x6 H locs ls hc hz hl
        rw [hCd] at hc
        obtain ⟨μ', hlt, hc⟩ := hc
        exact ih μ' hlt I L A x4 x5 x6 H locs ls hc hz hl
      have hwp := hst μ C27 (fun μ' I L A x4 x5 x6 hlt hc => by rw [hCd]; exact ⟨μ', hlt, hc⟩) I L A x4 x5 x6 hi
      refine lv_iload hx hb dX3_findCommon_27 (lv_at hl 4 rfl) ?_
      refine lv_bipush (v := 13) hx hb dX3_findCommon_29 (by decide) ?_
      refine lv_icmp_gt (tgt := 74) hx hb dX3_findCommon_31 (by decide) (fun q => ?_) (fun q => ?_)
      · have hwp := hwp.1 q
        exact wL74 _ _ _ _ _ _ _ hwp hz (lv_sub hl [0, 1, 2] rfl)
      · have hwp := hwp.2 q
        refine lv_aload hx hb dX3_findCommon_34 (lv_at hl 3 rfl) ?_
        obtain ⟨hs13, hwp⟩ := hwp
        refine sw_get (C := RX4) (T := TX4) (N := 2) (v := .int (I x5 1)) hx hb hts hw0 hown hK hz hs13 rfl 1 (by decide) hw1 (fun _ h9 => h9) rfl dX3_findCommon_36 ?_
        refine lv_if_lt (tgt := 74) hx hb dX3_findCommon_39 (by decide) (fun q => ?_) (fun q => ?_)
        · have hwp := hwp.1 q
          exact wL74 _ _ _ _ _ _ _ hwp hz (lv_sub hl [0, 1, 2] rfl)
        · have hwp := hwp.2 q
          refine lv_aload_n hx hb dX3_findCommon_42 rfl (lv_at hl 0 rfl) ?_
          refine lv_aload hx hb dX3_findCommon_43 (lv_at hl 3 rfl) ?_
          obtain ⟨hs14, hwp⟩ := hwp
          obtain ⟨P15, hc16, hwp⟩ := hwp
          refine sw_callv hz (va_runV (As := [.ref x5]) (rest := []) ⟨hx, hb, hml, hown, hts⟩ (hc16 hK _) (cwV 1 hts gX3_findCommon_X3_makeMonic rfl rfl rfl (by decide +kernel) ⟨Nat.le_of_ble_eq_true rfl, Nat.le_of_ble_eq_true rfl⟩) (hz.preV hK hs14 rfl) rfl rfl hl.1 rfl (lv_room (Nat.le_of_ble_eq_true rfl)) dX3_findCommon_45 ⟨Nat.le_of_ble_eq_true rfl, Nat.le_of_ble_eq_true rfl⟩) (fun I17 L18 A19 H locs hp hz => ?_)
          have hwp := hwp I17 L18 A19 hp
          refine lv_aload_n hx hb dX3_findCommon_48 rfl (lv_at hl 0 rfl) ?_
          refine lv_aload hx hb dX3_findCommon_49 (lv_at hl 2 rfl) ?_
          refine lv_aload hx hb dX3_findCommon_51 (lv_at hl 3 rfl) ?_
          obtain ⟨P20, hc21, hwp⟩ := hwp
          refine sw_callv hz (va_runV (As := [.ref x4, .ref x5]) (rest := []) ⟨hx, hb, hml, hown, hts⟩ (hc21 hK _) (cwV 2 hts gX3_findCommon_X3_takeRest rfl rfl rfl (by decide +kernel) ⟨Nat.le_of_ble_eq_true rfl, Nat.le_of_ble_eq_true rfl⟩) (hz.preV hK hs14 rfl) rfl rfl hl.1 rfl (lv_room (Nat.le_of_ble_eq_true rfl)) dX3_findCommon_53 ⟨Nat.le_of_ble_eq_true rfl, Nat.le_of_ble_eq_true rfl⟩) (fun I22 L23 A24 H locs hp hz => ?_)
          have hwp := hwp I22 L23 A24 hp
          refine lv_aload hx hb dX3_findCommon_56 (lv_at hl 2 rfl) ?_
          refine lv_astore (lv' := [(7, .ref x4), (0, .ref o0), (1, .ref o1), (4, .ref x4), (5, .ref x5), (6, .int x6)]) hx hb dX3_findCommon_58 hl (by decide) rfl (fun ls hl => ?_)
          refine lv_aload hx hb dX3_findCommon_60 (lv_at hl 4 rfl) ?_
          refine lv_astore (lv' := [(4, .ref x5), (7, .ref x4), (0, .ref o0), (1, .ref o1), (5, .ref x5), (6, .int x6)]) hx hb dX3_findCommon_62 hl (by decide) rfl (fun ls hl => ?_)
          refine lv_aload hx hb dX3_findCommon_64 (lv_at hl 1 rfl) ?_
          refine lv_astore (lv' := [(5, .ref x4), (4, .ref x5), (7, .ref x4), (0, .ref o0), (1, .ref o1), (6, .int x6)]) hx hb dX3_findCommon_66 hl (by decide) rfl (fun ls hl => ?_)
          obtain ⟨v25, q_v25⟩ : ∃ y : Int32, y = x6 + 1 := ⟨_, rfl⟩
          have hwp := hwp v25 q_v25
          refine lv_iinc (v := v25) (lv' := [(6, .int v25), (5, .ref x4), (4, .ref x5), (7, .ref x4), (0, .ref o0), (1, .ref o1)]) hx hb dX3_findCommon_68 hl (k := 5) rfl (by rw [q_v25]; rfl) (by decide) rfl (fun ls hl => ?_)
          refine lv_goto (tgt := 27) hx hb dX3_findCommon_71 (by decide) ?_
          exact hC27 _ _ _ _ _ _ _ _ _ hwp hz (lv_sub hl [4, 5, 2, 1, 0] rfl)
    exact key μ I L A x4 x5 x6 H locs ls hi hz hl
  refine lv_aload_n hx hb dX3_findCommon_0 rfl (lv_at hl 0 rfl) ?_
  obtain ⟨hs26, hwp⟩ := hwp
  refine sw_get (C := RX3) (T := TX3) (N := 4) (v := .ref (o0 + 2)) hx hb hts hw2 hown hK hz hs26 rfl 2 (by decide) hw3 (fun _ h9 => h9) rfl dX3_findCommon_1 ?_
  refine lv_astore (lv' := [(4, .ref (o0 + 2)), (0, .ref o0), (1, .ref o1), (2, .ref o2), (3, .ref o3)]) hx hb dX3_findCommon_4 hl (by decide) rfl (fun ls hl => ?_)
  refine lv_aload_n hx hb dX3_findCommon_6 rfl (lv_at hl 1 rfl) ?_
  refine sw_get (C := RX3) (T := TX3) (N := 4) (v := .ref (o0 + 4)) hx hb hts hw2 hown hK hz hs26 rfl 3 (by decide) hw4 (fun _ h9 => h9) rfl dX3_findCommon_7 ?_
  refine lv_astore (lv' := [(5, .ref (o0 + 4)), (4, .ref (o0 + 2)), (0, .ref o0), (1, .ref o1), (2, .ref o2), (3, .ref o3)]) hx hb dX3_findCommon_10 hl (by decide) rfl (fun ls hl => ?_)
  refine lv_aload hx hb dX3_findCommon_12 (lv_at hl 1 rfl) ?_
  refine lv_aload_n hx hb dX3_findCommon_14 rfl (lv_at hl 4 rfl) ?_
  obtain ⟨hs27, hwp⟩ := hwp
  obtain ⟨P28, hc29, hwp⟩ := hwp
  refine sw_callv hz (va_runV (As := [.ref o2]) (rest := []) ⟨hx, hb, hml, hown, hts⟩ (hc29 hK _) (cwV 1 hts gX3_findCommon_X4_become rfl rfl rfl (by decide +kernel) ⟨Nat.le_of_ble_eq_true rfl, Nat.le_of_ble_eq_true rfl⟩) (hz.preV hK hs27 rfl) rfl rfl hl.1 rfl (lv_room (Nat.le_of_ble_eq_true rfl)) dX3_findCommon_15 ⟨Nat.le_of_ble_eq_true rfl, Nat.le_of_ble_eq_true rfl⟩) (fun I30 L31 A32 H locs hp hz => ?_)
  have hwp := hwp I30 L31 A32 hp
  refine lv_aload hx hb dX3_findCommon_18 (lv_at hl 0 rfl) ?_
  refine lv_aload_n hx hb dX3_findCommon_20 rfl (lv_at hl 5 rfl) ?_
  obtain ⟨hs33, hwp⟩ := hwp
  obtain ⟨P34, hc35, hwp⟩ := hwp
  refine sw_callv hz (va_runV (As := [.ref o3]) (rest := []) ⟨hx, hb, hml, hown, hts⟩ (hc35 hK _) (cwV 1 hts gX3_findCommon_X4_become rfl rfl rfl (by decide +kernel) ⟨Nat.le_of_ble_eq_true rfl, Nat.le_of_ble_eq_true rfl⟩) (hz.preV hK hs33 rfl) rfl rfl hl.1 rfl (lv_room (Nat.le_of_ble_eq_true rfl)) dX3_findCommon_21 ⟨Nat.le_of_ble_eq_true rfl, Nat.le_of_ble_eq_true rfl⟩) (fun I36 L37 A38 H locs hp hz => ?_)
  have hwp := hwp I36 L37 A38 hp
  refine lv_iconst (v := 0) hx hb dX3_findCommon_24 (by decide) ?_
  refine lv_istore (lv' := [(6, .int 0), (5, .ref (o0 + 4)), (4, .ref (o0 + 2)), (0, .ref o0), (1, .ref o1), (2, .ref o2), (3, .ref o3)]) hx hb dX3_findCommon_25 hl (by decide) rfl (fun ls hl => ?_)
  exact wL27 _ _ _ _ _ _ _ _ _ hwp hz (lv_sub hl [3, 4, 2, 1, 0] rfl)

def wp_X3_findQuotient_23 (K : Cx) (o0 : Nat) (o1 : Nat) (o2 : Nat) (o3 : Nat) (I : TI) (L : TL) (A : TA) (x4 : Int32) (Q : TI → TL → TA → Prop) : Prop := ∃ (Inv : Nat → TI → TL → TA → Int32 → Prop) (μ : Nat), Inv μ I L A x4 ∧ ∀ (μ : Nat) (C23 : TI → TL → TA → Int32 → Prop), (∀ (μ' : Nat) (I : TI) (L : TL) (A : TA) (x4 : Int32) , μ' < μ → Inv μ' I L A x4 → C23 I L A x4) → ∀ (I : TI) (L : TL) (A : TA) (x4 : Int32) , Inv μ I L A x4 → ((x4 < 0 → cxS K o1 = shX4 o1 ∧ ∃ P2 : TI → TL → TA → Prop, ConV K yX4_settle wsX4_settle 0 0 I L A [.ref o1] P2 ∧ ∀ (I4 : TI) (L5 : TL) (A6 : TA), P2 I4 L5 A6 → Q I4 L5 A6) ∧ (¬ x4 < 0 → cxS K o1 = shX4 o1 ∧ cxS K o0 = shX3 o0 ∧ cxS K (o0 + 2) = shX4 (o0 + 2) ∧ cxS K o3 = shX4 o3 ∧ aok (cxS K) ((o0 + 2) + 1) 1 (x4 + (I o3 1)) ∧ aok (cxS K) (o1 + 1) 1 x4 ∧ ∀ L13 : TL, L13 = u2 L (o1 + 1) (ix x4) (L ((o0 + 2) + 1) (ix (x4 + (I o3 1)))) → ∃ P14 : TI → TL → TA → Prop, ConV K yX3_subtractShifted wsX3_subtractShifted 0 0 I L13 A [.ref o0, .ref (o0 + 2), .ref o3, .int x4] P14 ∧ ∀ (I16 : TI) (L17 : TL) (A18 : TA), P14 I16 L17 A18 → ∀ v19 : Int32, v19 = x4 + (-1) → C23 I16 L17 A18 v19))
def wp_X3_findQuotient (K : Cx) (I : TI) (L : TL) (A : TA) (o0 : Nat) (o1 : Nat) (o2 : Nat) (o3 : Nat) (Q : TI → TL → TA → Prop) : Prop := cxS K o1 = shX4 o1 ∧ ∃ P21 : TI → TL → TA → Prop, ConV K yX4_clear wsX4_clear 0 0 I L A [.ref o1] P21 ∧ ∀ (I23 : TI) (L24 : TL) (A25 : TA), P21 I23 L24 A25 → cxS K o0 = shX3 o0 ∧ cxS K (o0 + 2) = shX4 (o0 + 2) ∧ ∃ P28 : TI → TL → TA → Prop, ConV K yX4_become wsX4_become 1 40 I23 L24 A25 [.ref (o0 + 2), .ref o2] P28 ∧ ∀ (I30 : TI) (L31 : TL) (A32 : TA), P28 I30 L31 A32 → cxS K o2 = shX4 o2 ∧ cxS K o3 = shX4 o3 ∧ ∀ v35 : Int32, v35 = ((I30 o2 1) - (I30 o3 1)) → wp_X3_findQuotient_23 K o0 o1 o2 o3 I30 L31 A32 v35 Q
set_option maxHeartbeats 1000000 in
set_option maxRecDepth 100000 in
theorem w_X3_findQuotient (K : Cx) (I : TI) (L : TL) (A : TA) (o0 : Nat) (o1 : Nat) (o2 : Nat) (o3 : Nat) (Q : TI → TL → TA → Prop) (hwp : wp_X3_findQuotient K I L A o0 o1 o2 o3 Q) : ConV K yX3_findQuotient wsX3_findQuotient 2 61 I L A [.ref o0, .ref o1, .ref o2, .ref o3] Q := by
  intro hK sz
  refine Met.ofW (cc := cX3_findQuotient) (maxL := 5) (ret := none) (by decide) rfl ?_
  intro p e s m args below meth c s₁ B hml hv
  obtain ⟨rfl, hsz, hB⟩ := hv
  have hx := B.exec
  have hb := B.bytes
  have hret := B.returns
  have hts := atoms_spec (ws := wsX3_findQuotient) B.pre
  have hown : s.vm.findClass RX3 = some m.cls := findClass_of_methodNamed B.named
  have hlocks := B.notSynchronized
  subst hsz
  have hz : SS K s I L A s.heap [] := PS.start hB
  have hl := lv_entry ([.ref o0, .ref o1, .ref o2, .ref o3]) (n := 5) (Nat.le_of_ble_eq_true rfl)
  rw [lg_entry_eq]
  generalize (lg_sl ([.ref o0, .ref o1, .ref o2, .ref o3]) ++ List.replicate (5 - (lg_sl ([.ref o0, .ref o1, .ref o2, .ref o3])).length) Slot.unset).toArray = ls at hl ⊢
  have hl : lv_has ls 5 [(0, .ref o0), (1, .ref o1), (2, .ref o2), (3, .ref o3)] := hl
  have hw0 : ∀ w ∈ u_ws RX4 TX4 2, w ∈ wsX3_findQuotient := by decide +kernel
  have hw1 := hts (.fieldLink RX3 31 "GaloisDesk$Row" "c" "[J") (by decide +kernel)
  have hw2 : ∀ w ∈ u_ws RX3 TX3 4, w ∈ wsX3_findQuotient := by decide +kernel
  have hw3 := hts (.fieldLink RX3 24 "GaloisDesk$Residues" "first" "LGaloisDesk$Row;") (by decide +kernel)
  have hw4 := hts (.fieldLink RX3 47 "GaloisDesk$Row" "top" "I") (by decide +kernel)
  clear hB B
  have wL23 : ∀ (I : TI) (L : TL) (A : TA) (x4 : Int32) (H : Heap) (locs : List Loc) (ls : Array Slot), wp_X3_findQuotient_23 K o0 o1 o2 o3 I L A x4 Q → SS K s I L A H locs → lv_has ls 5 [(0, .ref o0), (1, .ref o1), (3, .ref o3), (4, .int x4)] → W p (cxl K) e (headSpec wsX3_findQuotient (rmF 2 61)).room s m ([.ref o0, .ref o1, .ref o2, .ref o3] : List Value).toArray below meth c H locs 0 0 (MQ below (cxQv K Q) ([.ref o0, .ref o1, .ref o2, .ref o3] : List Value).toArray s 0 0 (PA (cxb K))) (F0 m 23 ls []) := by
    intro I L A x4 H locs ls hwp hz hl
    obtain ⟨Inv, μ, hi, hst⟩ := hwp
    have key : ∀ (μ : Nat) (I : TI) (L : TL) (A : TA) (x4 : Int32) (H : Heap) (locs : List Loc) (ls : Array Slot), Inv μ I L A x4 → SS K s I L A H locs → lv_has ls 5 [(0, .ref o0), (1, .ref o1), (3, .ref o3), (4, .int x4)] → W p (cxl K) e (headSpec wsX3_findQuotient (rmF 2 61)).room s m ([.ref o0, .ref o1, .ref o2, .ref o3] : List Value).toArray below meth c H locs 0 0 (MQ below (cxQv K Q) ([.ref o0, .ref o1, .ref o2, .ref o3] : List Value).toArray s 0 0 (PA (cxb K))) (F0 m 23 ls []) := by
      clear hi hz hl
      intro μ
      induction μ using Nat.strongRecOn with | ind μ ih => ?_
      intro I L A x4 H locs ls hi hz hl
      obtain ⟨C23, hCd⟩ : ∃ C : TI → TL → TA → Int32 → Prop, C = fun I L A x4 => ∃ μ', μ' < μ ∧ Inv μ' I L A x4 := ⟨_, rfl⟩
      have hC23 : ∀ (I : TI) (L : TL) (A : TA) (x4 : Int32) (H : Heap) (locs : List Loc) (ls : Array Slot), C23 I L A x4 → SS K s I L A H locs → lv_has ls 5 [(0, .ref o0), (1, .ref o1), (3, .ref o3), (4, .int x4)] → W p (cxl K) e (headSpec wsX3_findQuotient (rmF 2 61)).room s m ([.ref o0, .ref o1, .ref o2, .ref o3] : List Value).toArray below meth c H locs 0 0 (MQ below (cxQv K Q) ([.ref o0, .ref o1, .ref o2, .ref o3] : List Value).toArray s 0 0 (PA (cxb K))) (F0 m 23 ls []) := by
        intro I L A x4 H locs ls hc hz hl
        rw [hCd] at hc
        obtain ⟨μ', hlt, hc⟩ := hc
        exact ih μ' hlt I L A x4 H locs ls hc hz hl
      have hwp := hst μ C23 (fun μ' I L A x4 hlt hc => by rw [hCd]; exact ⟨μ', hlt, hc⟩) I L A x4 hi
      refine lv_iload hx hb dX3_findQuotient_23 (lv_at hl 3 rfl) ?_
      refine lv_if_lt (tgt := 67) hx hb dX3_findQuotient_25 (by decide) (fun q => ?_) (fun q => ?_)
      · have hwp := hwp.1 q
        refine lv_aload_n hx hb dX3_findQuotient_67 rfl (lv_at hl 1 rfl) ?_
        obtain ⟨hs1, hwp⟩ := hwp
        obtain ⟨P2, hc3, hwp⟩ := hwp
        refine sw_callv hz (va_runV (As := []) (rest := []) ⟨hx, hb, hml, hown, hts⟩ (hc3 hK _) (cwV 0 hts gX3_findQuotient_X4_settle rfl rfl rfl (by decide +kernel) ⟨Nat.le_of_ble_eq_true rfl, Nat.le_of_ble_eq_true rfl⟩) (hz.preV hK hs1 rfl) rfl rfl hl.1 rfl (lv_room (Nat.le_of_ble_eq_true rfl)) dX3_findQuotient_68 ⟨Nat.le_of_ble_eq_true rfl, Nat.le_of_ble_eq_true rfl⟩) (fun I4 L5 A6 H locs hp hz => ?_)
        have hwp := hwp I4 L5 A6 hp
        exact sw_vret hx hb hret hlocks hz hwp dX3_findQuotient_71
      · have hwp := hwp.2 q
        refine lv_aload_n hx hb dX3_findQuotient_28 rfl (lv_at hl 1 rfl) ?_
        obtain ⟨hs7, hwp⟩ := hwp
        refine sw_get (C := RX4) (T := TX4) (N := 2) (v := .ref (o1 + 1)) hx hb hts hw0 hown hK hz hs7 rfl 0 (by decide) hw1 (fun _ h9 => h9) rfl dX3_findQuotient_29 ?_
        refine lv_iload hx hb dX3_findQuotient_32 (lv_at hl 3 rfl) ?_
        refine lv_aload_n hx hb dX3_findQuotient_34 rfl (lv_at hl 0 rfl) ?_
        obtain ⟨hs8, hwp⟩ := hwp
        refine sw_get (C := RX3) (T := TX3) (N := 4) (v := .ref (o0 + 2)) hx hb hts hw2 hown hK hz hs8 rfl 2 (by decide) hw3 (fun _ h9 => h9) rfl dX3_findQuotient_35 ?_
        obtain ⟨hs9, hwp⟩ := hwp
        refine sw_get (C := RX4) (T := TX4) (N := 2) (v := .ref ((o0 + 2) + 1)) hx hb hts hw0 hown hK hz hs9 rfl 0 (by decide) hw1 (fun _ h9 => h9) rfl dX3_findQuotient_38 ?_
        refine lv_iload hx hb dX3_findQuotient_41 (lv_at hl 3 rfl) ?_
        refine lv_aload_n hx hb dX3_findQuotient_43 rfl (lv_at hl 2 rfl) ?_
        obtain ⟨hs10, hwp⟩ := hwp
        refine sw_get (C := RX4) (T := TX4) (N := 2) (v := .int (I o3 1)) hx hb hts hw0 hown hK hz hs10 rfl 1 (by decide) hw4 (fun _ h9 => h9) rfl dX3_findQuotient_44 ?_
        refine lv_iadd hx hb dX3_findQuotient_47 ?_
        obtain ⟨ho11, hwp⟩ := hwp
        refine sw_lald hx hb hK hz ho11 dX3_findQuotient_48 ?_
        obtain ⟨ho12, hwp⟩ := hwp
        refine sw_last hx hb hK hz ho12 dX3_findQuotient_49 (fun H locs L13 e_L13 hz => ?_)
        have hwp := hwp L13 e_L13
        refine lv_aload_n hx hb dX3_findQuotient_50 rfl (lv_at hl 0 rfl) ?_
        refine lv_aload_n hx hb dX3_findQuotient_51 rfl (lv_at hl 0 rfl) ?_
        refine sw_get (C := RX3) (T := TX3) (N := 4) (v := .ref (o0 + 2)) hx hb hts hw2 hown hK hz hs8 rfl 2 (by decide) hw3 (fun _ h9 => h9) rfl dX3_findQuotient_52 ?_
        refine lv_aload_n hx hb dX3_findQuotient_55 rfl (lv_at hl 2 rfl) ?_
        refine lv_iload hx hb dX3_findQuotient_56 (lv_at hl 3 rfl) ?_
        obtain ⟨P14, hc15, hwp⟩ := hwp
        refine sw_callv hz (va_runV (As := [.ref (o0 + 2), .ref o3, .int x4]) (rest := []) ⟨hx, hb, hml, hown, hts⟩ (hc15 hK _) (cwV 3 hts gX3_findQuotient_X3_subtractShifted rfl rfl rfl (by decide +kernel) ⟨Nat.le_of_ble_eq_true rfl, Nat.le_of_ble_eq_true rfl⟩) (hz.preV hK hs8 rfl) rfl rfl hl.1 rfl (lv_room (Nat.le_of_ble_eq_true rfl)) dX3_findQuotient_58 ⟨Nat.le_of_ble_eq_true rfl, Nat.le_of_ble_eq_true rfl⟩) (fun I16 L17 A18 H locs hp hz => ?_)
        have hwp := hwp I16 L17 A18 hp
        obtain ⟨v19, q_v19⟩ : ∃ y : Int32, y = x4 + (-1) := ⟨_, rfl⟩
        have hwp := hwp v19 q_v19
        refine lv_iinc (v := v19) (lv' := [(4, .int v19), (0, .ref o0), (1, .ref o1), (3, .ref o3)]) hx hb dX3_findQuotient_61 hl (k := 3) rfl (by rw [q_v19]; rfl) (by decide) rfl (fun ls hl => ?_)
        refine lv_goto (tgt := 23) hx hb dX3_findQuotient_64 (by decide) ?_
        exact hC23 _ _ _ _ _ _ _ hwp hz (lv_sub hl [1, 2, 3, 0] rfl)
    exact key μ I L A x4 H locs ls hi hz hl
  refine lv_aload_n hx hb dX3_findQuotient_0 rfl (lv_at hl 1 rfl) ?_
  obtain ⟨hs20, hwp⟩ := hwp
  obtain ⟨P21, hc22, hwp⟩ := hwp
  refine sw_callv hz (va_runV (As := []) (rest := []) ⟨hx, hb, hml, hown, hts⟩ (hc22 hK _) (cwV 0 hts gX3_findQuotient_X4_clear rfl rfl rfl (by decide +kernel) ⟨Nat.le_of_ble_eq_true rfl, Nat.le_of_ble_eq_true rfl⟩) (hz.preV hK hs20 rfl) rfl rfl hl.1 rfl (lv_room (Nat.le_of_ble_eq_true rfl)) dX3_findQuotient_1 ⟨Nat.le_of_ble_eq_true rfl, Nat.le_of_ble_eq_true rfl⟩) (fun I23 L24 A25 H locs hp hz => ?_)
  have hwp := hwp I23 L24 A25 hp
  refine lv_aload_n hx hb dX3_findQuotient_4 rfl (lv_at hl 0 rfl) ?_
  obtain ⟨hs26, hwp⟩ := hwp
  refine sw_get (C := RX3) (T := TX3) (N := 4) (v := .ref (o0 + 2)) hx hb hts hw2 hown hK hz hs26 rfl 2 (by decide) hw3 (fun _ h9 => h9) rfl dX3_findQuotient_5 ?_
  refine lv_aload_n hx hb dX3_findQuotient_8 rfl (lv_at hl 2 rfl) ?_
  obtain ⟨hs27, hwp⟩ := hwp
  obtain ⟨P28, hc29, hwp⟩ := hwp
  refine sw_callv hz (va_runV (As := [.ref o2]) (rest := []) ⟨hx, hb, hml, hown, hts⟩ (hc29 hK _) (cwV 1 hts gX3_findQuotient_X4_become rfl rfl rfl (by decide +kernel) ⟨Nat.le_of_ble_eq_true rfl, Nat.le_of_ble_eq_true rfl⟩) (hz.preV hK hs27 rfl) rfl rfl hl.1 rfl (lv_room (Nat.le_of_ble_eq_true rfl)) dX3_findQuotient_9 ⟨Nat.le_of_ble_eq_true rfl, Nat.le_of_ble_eq_true rfl⟩) (fun I30 L31 A32 H locs hp hz => ?_)
  have hwp := hwp I30 L31 A32 hp
  refine lv_aload_n hx hb dX3_findQuotient_12 rfl (lv_at hl 2 rfl) ?_
  obtain ⟨hs33, hwp⟩ := hwp
  refine sw_get (C := RX4) (T := TX4) (N := 2) (v := .int (I30 o2 1)) hx hb hts hw0 hown hK hz hs33 rfl 1 (by decide) hw4 (fun _ h9 => h9) rfl dX3_findQuotient_13 ?_
  refine lv_aload_n hx hb dX3_findQuotient_16 rfl (lv_at hl 3 rfl) ?_
  obtain ⟨hs34, hwp⟩ := hwp
  refine sw_get (C := RX4) (T := TX4) (N := 2) (v := .int (I30 o3 1)) hx hb hts hw0 hown hK hz hs34 rfl 1 (by decide) hw4 (fun _ h9 => h9) rfl dX3_findQuotient_17 ?_
  refine lv_isub hx hb dX3_findQuotient_20 ?_
  refine lv_topi (fun v35 q_v35 => ?_)
  have hwp := hwp v35 q_v35
  refine lv_istore (lv' := [(4, .int v35), (0, .ref o0), (1, .ref o1), (2, .ref o2), (3, .ref o3)]) hx hb dX3_findQuotient_21 hl (by decide) rfl (fun ls hl => ?_)
  exact wL23 _ _ _ _ _ _ _ hwp hz (lv_sub hl [1, 2, 4, 0] rfl)

def wp_X3_reduce_2 (K : Cx) (o0 : Nat) (o1 : Nat) (o2 : Nat) (I : TI) (L : TL) (A : TA) (x3 : Int32) (Q : TI → TL → TA → Prop) : Prop := ∃ (Inv : Nat → TI → TL → TA → Int32 → Prop) (μ : Nat), Inv μ I L A x3 ∧ ∀ (μ : Nat) (C2 : TI → TL → TA → Int32 → Prop), (∀ (μ' : Nat) (I : TI) (L : TL) (A : TA) (x3 : Int32) , μ' < μ → Inv μ' I L A x3 → C2 I L A x3) → ∀ (I : TI) (L : TL) (A : TA) (x3 : Int32) , Inv μ I L A x3 → ((13 ≤ x3 → cxS K o1 = shX4 o1 ∧ ∃ P2 : TI → TL → TA → Prop, ConV K yX4_settle wsX4_settle 0 0 I L A [.ref o1] P2 ∧ ∀ (I4 : TI) (L5 : TL) (A6 : TA), P2 I4 L5 A6 → Q I4 L5 A6) ∧ (¬ 13 ≤ x3 → cxS K o1 = shX4 o1 ∧ cxS K o2 = shX4 o2 ∧ aok (cxS K) (o2 + 1) 1 x3 ∧ cxS K o0 = shX3 o0 ∧ ¬ (L o0 0) = 0 ∧ aok (cxS K) (o1 + 1) 1 x3 ∧ ∀ L13 : TL, L13 = u2 L (o1 + 1) (ix x3) (fmJ (L (o2 + 1) (ix x3)) (L o0 0)) → ∀ v14 : Int32, v14 = x3 + 1 → C2 I L13 A v14))
def wp_X3_reduce (K : Cx) (I : TI) (L : TL) (A : TA) (o0 : Nat) (o1 : Nat) (o2 : Nat) (Q : TI → TL → TA → Prop) : Prop := wp_X3_reduce_2 K o0 o1 o2 I L A 0 Q
set_option maxHeartbeats 1000000 in
set_option maxRecDepth 100000 in
theorem w_X3_reduce (K : Cx) (I : TI) (L : TL) (A : TA) (o0 : Nat) (o1 : Nat) (o2 : Nat) (Q : TI → TL → TA → Prop) (hwp : wp_X3_reduce K I L A o0 o1 o2 Q) : ConV K yX3_reduce wsX3_reduce 1 40 I L A [.ref o0, .ref o1, .ref o2] Q := by
  intro hK sz
  refine Met.ofW (cc := cX3_reduce) (maxL := 4) (ret := none) (by decide) rfl ?_
  intro p e s m args below meth c s₁ B hml hv
  obtain ⟨rfl, hsz, hB⟩ := hv
  have hx := B.exec
  have hb := B.bytes
  have hret := B.returns
  have hts := atoms_spec (ws := wsX3_reduce) B.pre
  have hown : s.vm.findClass RX3 = some m.cls := findClass_of_methodNamed B.named
  have hlocks := B.notSynchronized
  subst hsz
  have hz : SS K s I L A s.heap [] := PS.start hB
  have hl := lv_entry ([.ref o0, .ref o1, .ref o2]) (n := 4) (Nat.le_of_ble_eq_true rfl)
  rw [lg_entry_eq]
  generalize (lg_sl ([.ref o0, .ref o1, .ref o2]) ++ List.replicate (4 - (lg_sl ([.ref o0, .ref o1, .ref o2])).length) Slot.unset).toArray = ls at hl ⊢
  have hl : lv_has ls 4 [(0, .ref o0), (1, .ref o1), (2, .ref o2)] := hl
  have hw0 : ∀ w ∈ u_ws RX4 TX4 2, w ∈ wsX3_reduce := by decide +kernel
  have hw1 := hts (.fieldLink RX3 31 "GaloisDesk$Row" "c" "[J") (by decide +kernel)
  have hw2 : ∀ w ∈ u_ws RX3 TX3 4, w ∈ wsX3_reduce := by decide +kernel
  have hw3 := hts (.fieldLink RX3 11 "GaloisDesk$Residues" "modulus" "J") (by decide +kernel)
  have hw4 := hts (.methodLink RX3 34 yJ9_floorMod_f86c9) (by decide +kernel)
  have hw5 := hts (.static yJ9_floorMod_f86c9) (by decide +kernel)
  have hw6 := hts (.initialized RJ9) (by decide +kernel)
  have hw7 := hts (.code yJ9_floorMod_f86c9 cJ9_floorMod_f86c9 6 (some .long)) (by decide +kernel)
  clear hB B
  have wL2 : ∀ (I : TI) (L : TL) (A : TA) (x3 : Int32) (H : Heap) (locs : List Loc) (ls : Array Slot), wp_X3_reduce_2 K o0 o1 o2 I L A x3 Q → SS K s I L A H locs → lv_has ls 4 [(0, .ref o0), (1, .ref o1), (2, .ref o2), (3, .int x3)] → W p (cxl K) e (headSpec wsX3_reduce (rmF 1 40)).room s m ([.ref o0, .ref o1, .ref o2] : List Value).toArray below meth c H locs 0 0 (MQ below (cxQv K Q) ([.ref o0, .ref o1, .ref o2] : List Value).toArray s 0 0 (PA (cxb K))) (F0 m 2 ls []) := by
    intro I L A x3 H locs ls hwp hz hl
    obtain ⟨Inv, μ, hi, hst⟩ := hwp
    have key : ∀ (μ : Nat) (I : TI) (L : TL) (A : TA) (x3 : Int32) (H : Heap) (locs : List Loc) (ls : Array Slot), Inv μ I L A x3 → SS K s I L A H locs → lv_has ls 4 [(0, .ref o0), (1, .ref o1), (2, .ref o2), (3, .int x3)] → W p (cxl K) e (headSpec wsX3_reduce (rmF 1 40)).room s m ([.ref o0, .ref o1, .ref o2] : List Value).toArray below meth c H locs 0 0 (MQ below (cxQv K Q) ([.ref o0, .ref o1, .ref o2] : List Value).toArray s 0 0 (PA (cxb K))) (F0 m 2 ls []) := by
      clear hi hz hl
      intro μ
      induction μ using Nat.strongRecOn with | ind μ ih => ?_
      intro I L A x3 H locs ls hi hz hl
      obtain ⟨C2, hCd⟩ : ∃ C : TI → TL → TA → Int32 → Prop, C = fun I L A x3 => ∃ μ', μ' < μ ∧ Inv μ' I L A x3 := ⟨_, rfl⟩
      have hC2 : ∀ (I : TI) (L : TL) (A : TA) (x3 : Int32) (H : Heap) (locs : List Loc) (ls : Array Slot), C2 I L A x3 → SS K s I L A H locs → lv_has ls 4 [(0, .ref o0), (1, .ref o1), (2, .ref o2), (3, .int x3)] → W p (cxl K) e (headSpec wsX3_reduce (rmF 1 40)).room s m ([.ref o0, .ref o1, .ref o2] : List Value).toArray below meth c H locs 0 0 (MQ below (cxQv K Q) ([.ref o0, .ref o1, .ref o2] : List Value).toArray s 0 0 (PA (cxb K))) (F0 m 2 ls []) := by
        intro I L A x3 H locs ls hc hz hl
        rw [hCd] at hc
        obtain ⟨μ', hlt, hc⟩ := hc
        exact ih μ' hlt I L A x3 H locs ls hc hz hl
      have hwp := hst μ C2 (fun μ' I L A x3 hlt hc => by rw [hCd]; exact ⟨μ', hlt, hc⟩) I L A x3 hi
      refine lv_iload_n hx hb dX3_reduce_2 rfl (lv_at hl 3 rfl) ?_
      refine lv_bipush (v := 13) hx hb dX3_reduce_3 (by decide) ?_
      refine lv_icmp_ge (tgt := 33) hx hb dX3_reduce_5 (by decide) (fun q => ?_) (fun q => ?_)
      · have hwp := hwp.1 q
        refine lv_aload_n hx hb dX3_reduce_33 rfl (lv_at hl 1 rfl) ?_
        obtain ⟨hs1, hwp⟩ := hwp
        obtain ⟨P2, hc3, hwp⟩ := hwp
        refine sw_callv hz (va_runV (As := []) (rest := []) ⟨hx, hb, hml, hown, hts⟩ (hc3 hK _) (cwV 0 hts gX3_reduce_X4_settle rfl rfl rfl (by decide +kernel) ⟨Nat.le_of_ble_eq_true rfl, Nat.le_of_ble_eq_true rfl⟩) (hz.preV hK hs1 rfl) rfl rfl hl.1 rfl (lv_room (Nat.le_of_ble_eq_true rfl)) dX3_reduce_34 ⟨Nat.le_of_ble_eq_true rfl, Nat.le_of_ble_eq_true rfl⟩) (fun I4 L5 A6 H locs hp hz => ?_)
        have hwp := hwp I4 L5 A6 hp
        exact sw_vret hx hb hret hlocks hz hwp dX3_reduce_37
      · have hwp := hwp.2 q
        refine lv_aload_n hx hb dX3_reduce_8 rfl (lv_at hl 1 rfl) ?_
        obtain ⟨hs7, hwp⟩ := hwp
        refine sw_get (C := RX4) (T := TX4) (N := 2) (v := .ref (o1 + 1)) hx hb hts hw0 hown hK hz hs7 rfl 0 (by decide) hw1 (fun _ h9 => h9) rfl dX3_reduce_9 ?_
        refine lv_iload_n hx hb dX3_reduce_12 rfl (lv_at hl 3 rfl) ?_
        refine lv_aload_n hx hb dX3_reduce_13 rfl (lv_at hl 2 rfl) ?_
        obtain ⟨hs8, hwp⟩ := hwp
        refine sw_get (C := RX4) (T := TX4) (N := 2) (v := .ref (o2 + 1)) hx hb hts hw0 hown hK hz hs8 rfl 0 (by decide) hw1 (fun _ h9 => h9) rfl dX3_reduce_14 ?_
        refine lv_iload_n hx hb dX3_reduce_17 rfl (lv_at hl 3 rfl) ?_
        obtain ⟨ho9, hwp⟩ := hwp
        refine sw_lald hx hb hK hz ho9 dX3_reduce_18 ?_
        refine lv_aload_n hx hb dX3_reduce_19 rfl (lv_at hl 0 rfl) ?_
        obtain ⟨hs10, hwp⟩ := hwp
        refine sw_get (C := RX3) (T := TX3) (N := 4) (v := .long (L o0 0)) hx hb hts hw2 hown hK hz hs10 rfl 0 (by decide) hw3 (fun _ h9 => h9) rfl dX3_reduce_20 ?_
        obtain ⟨hn11, hwp⟩ := hwp
        refine sw_floor hx hb (by rw [hml]; exact hl.1.symm) hown hw4 hw5 hw6 hw7 (Nat.le_of_ble_eq_true rfl) (Nat.le_of_ble_eq_true rfl) (Nat.le_of_ble_eq_true rfl) (Nat.le_of_ble_eq_true rfl) hn11 dX3_reduce_23 ?_
        refine W.eq (g2 := F0 m 26 ls [.long (fmJ (L (o2 + 1) (ix x3)) (L o0 0)), .int x3, .ref (o1 + 1)]) rfl ?_
        obtain ⟨ho12, hwp⟩ := hwp
        refine sw_last hx hb hK hz ho12 dX3_reduce_26 (fun H locs L13 e_L13 hz => ?_)
        have hwp := hwp L13 e_L13
        obtain ⟨v14, q_v14⟩ : ∃ y : Int32, y = x3 + 1 := ⟨_, rfl⟩
        have hwp := hwp v14 q_v14
        refine lv_iinc (v := v14) (lv' := [(3, .int v14), (0, .ref o0), (1, .ref o1), (2, .ref o2)]) hx hb dX3_reduce_27 hl (k := 3) rfl (by rw [q_v14]; rfl) (by decide) rfl (fun ls hl => ?_)
        refine lv_goto (tgt := 2) hx hb dX3_reduce_30 (by decide) ?_
        exact hC2 _ _ _ _ _ _ _ hwp hz (lv_sub hl [1, 2, 3, 0] rfl)
    exact key μ I L A x3 H locs ls hi hz hl
  refine lv_iconst (v := 0) hx hb dX3_reduce_0 (by decide) ?_
  refine lv_istore_n (lv' := [(3, .int 0), (0, .ref o0), (1, .ref o1), (2, .ref o2)]) hx hb dX3_reduce_1 rfl hl (by decide) rfl (fun ls hl => ?_)
  exact wL2 _ _ _ _ _ _ _ hwp hz (lv_sub hl [1, 2, 3, 0] rfl)

def wp_X3_lift_8 (K : Cx) (o0 : Nat) (o1 : Nat) (o2 : Nat) (I : TI) (L : TL) (A : TA) (x3 : Int32) (Q : TI → TL → TA → Prop) : Prop := ∃ (Inv : Nat → TI → TL → TA → Int32 → Prop) (μ : Nat), Inv μ I L A x3 ∧ ∀ (μ : Nat) (C8 : TI → TL → TA → Int32 → Prop), (∀ (μ' : Nat) (I : TI) (L : TL) (A : TA) (x3 : Int32) , μ' < μ → Inv μ' I L A x3 → C8 I L A x3) → ∀ (I : TI) (L : TL) (A : TA) (x3 : Int32) , Inv μ I L A x3 → cxS K o1 = shX4 o1 ∧ (((I o1 1) < x3 → Q I L A) ∧ (¬ (I o1 1) < x3 → aok (cxS K) (o1 + 1) 1 x3 ∧ cxS K o0 = shX3 o0 ∧ (((L (o1 + 1) (ix x3)) ≤ ((L o0 0) / 2) → ∀ v4 : Int32, v4 = x3 + 1 → C8 I L A v4) ∧ (¬ (L (o1 + 1) (ix x3)) ≤ ((L o0 0) / 2) → aok (cxS K) (o1 + 1) 1 x3 ∧ aok (cxS K) (o1 + 1) 1 x3 ∧ ∀ L7 : TL, L7 = u2 L (o1 + 1) (ix x3) ((L (o1 + 1) (ix x3)) - (L o0 0)) → ∀ v8 : Int32, v8 = x3 + 1 → C8 I L7 A v8))))
def wp_X3_lift (K : Cx) (I : TI) (L : TL) (A : TA) (o0 : Nat) (o1 : Nat) (o2 : Nat) (Q : TI → TL → TA → Prop) : Prop := cxS K o0 = shX3 o0 ∧ ∃ P10 : TI → TL → TA → Prop, ConV K yX3_reduce wsX3_reduce 1 40 I L A [.ref o0, .ref o1, .ref o2] P10 ∧ ∀ (I12 : TI) (L13 : TL) (A14 : TA), P10 I12 L13 A14 → wp_X3_lift_8 K o0 o1 o2 I12 L13 A14 0 Q
set_option maxHeartbeats 1000000 in
set_option maxRecDepth 100000 in
theorem w_X3_lift (K : Cx) (I : TI) (L : TL) (A : TA) (o0 : Nat) (o1 : Nat) (o2 : Nat) (Q : TI → TL → TA → Prop) (hwp : wp_X3_lift K I L A o0 o1 o2 Q) : ConV K yX3_lift wsX3_lift 2 63 I L A [.ref o0, .ref o1, .ref o2] Q := by
  intro hK sz
  refine Met.ofW (cc := cX3_lift) (maxL := 4) (ret := none) (by decide) rfl ?_
  intro p e s m args below meth c s₁ B hml hv
  obtain ⟨rfl, hsz, hB⟩ := hv
  have hx := B.exec
  have hb := B.bytes
  have hret := B.returns
  have hts := atoms_spec (ws := wsX3_lift) B.pre
  have hown : s.vm.findClass RX3 = some m.cls := findClass_of_methodNamed B.named
  have hlocks := B.notSynchronized
  subst hsz
  have hz : SS K s I L A s.heap [] := PS.start hB
  have hl := lv_entry ([.ref o0, .ref o1, .ref o2]) (n := 4) (Nat.le_of_ble_eq_true rfl)
  rw [lg_entry_eq]
  generalize (lg_sl ([.ref o0, .ref o1, .ref o2]) ++ List.replicate (4 - (lg_sl ([.ref o0, .ref o1, .ref o2])).length) Slot.unset).toArray = ls at hl ⊢
  have hl : lv_has ls 4 [(0, .ref o0), (1, .ref o1), (2, .ref o2)] := hl
  have hw0 : ∀ w ∈ u_ws RX4 TX4 2, w ∈ wsX3_lift := by decide +kernel
  have hw1 := hts (.fieldLink RX3 47 "GaloisDesk$Row" "top" "I") (by decide +kernel)
  have hw2 := hts (.fieldLink RX3 31 "GaloisDesk$Row" "c" "[J") (by decide +kernel)
  have hw3 : ∀ w ∈ u_ws RX3 TX3 4, w ∈ wsX3_lift := by decide +kernel
  have hw4 := hts (.fieldLink RX3 11 "GaloisDesk$Residues" "modulus" "J") (by decide +kernel)
  have hw5 := hts (.constantLong RX3 9 (2)) (by decide +kernel)
  clear hB B
  have wL8 : ∀ (I : TI) (L : TL) (A : TA) (x3 : Int32) (H : Heap) (locs : List Loc) (ls : Array Slot), wp_X3_lift_8 K o0 o1 o2 I L A x3 Q → SS K s I L A H locs → lv_has ls 4 [(0, .ref o0), (1, .ref o1), (3, .int x3)] → W p (cxl K) e (headSpec wsX3_lift (rmF 2 63)).room s m ([.ref o0, .ref o1, .ref o2] : List Value).toArray below meth c H locs 0 0 (MQ below (cxQv K Q) ([.ref o0, .ref o1, .ref o2] : List Value).toArray s 0 0 (PA (cxb K))) (F0 m 8 ls []) := by
    intro I L A x3 H locs ls hwp hz hl
    obtain ⟨Inv, μ, hi, hst⟩ := hwp
    have key : ∀ (μ : Nat) (I : TI) (L : TL) (A : TA) (x3 : Int32) (H : Heap) (locs : List Loc) (ls : Array Slot), Inv μ I L A x3 → SS K s I L A H locs → lv_has ls 4 [(0, .ref o0), (1, .ref o1), (3, .int x3)] → W p (cxl K) e (headSpec wsX3_lift (rmF 2 63)).room s m ([.ref o0, .ref o1, .ref o2] : List Value).toArray below meth c H locs 0 0 (MQ below (cxQv K Q) ([.ref o0, .ref o1, .ref o2] : List Value).toArray s 0 0 (PA (cxb K))) (F0 m 8 ls []) := by
      clear hi hz hl
      intro μ
      induction μ using Nat.strongRecOn with | ind μ ih => ?_
      intro I L A x3 H locs ls hi hz hl
      obtain ⟨C8, hCd⟩ : ∃ C : TI → TL → TA → Int32 → Prop, C = fun I L A x3 => ∃ μ', μ' < μ ∧ Inv μ' I L A x3 := ⟨_, rfl⟩
      have hC8 : ∀ (I : TI) (L : TL) (A : TA) (x3 : Int32) (H : Heap) (locs : List Loc) (ls : Array Slot), C8 I L A x3 → SS K s I L A H locs → lv_has ls 4 [(0, .ref o0), (1, .ref o1), (3, .int x3)] → W p (cxl K) e (headSpec wsX3_lift (rmF 2 63)).room s m ([.ref o0, .ref o1, .ref o2] : List Value).toArray below meth c H locs 0 0 (MQ below (cxQv K Q) ([.ref o0, .ref o1, .ref o2] : List Value).toArray s 0 0 (PA (cxb K))) (F0 m 8 ls []) := by
        intro I L A x3 H locs ls hc hz hl
        rw [hCd] at hc
        obtain ⟨μ', hlt, hc⟩ := hc
        exact ih μ' hlt I L A x3 H locs ls hc hz hl
      have hwp := hst μ C8 (fun μ' I L A x3 hlt hc => by rw [hCd]; exact ⟨μ', hlt, hc⟩) I L A x3 hi
      refine lv_iload_n hx hb dX3_lift_8 rfl (lv_at hl 2 rfl) ?_
      refine lv_aload_n hx hb dX3_lift_9 rfl (lv_at hl 1 rfl) ?_
      obtain ⟨hs1, hwp⟩ := hwp
      refine sw_get (C := RX4) (T := TX4) (N := 2) (v := .int (I o1 1)) hx hb hts hw0 hown hK hz hs1 rfl 1 (by decide) hw1 (fun _ h9 => h9) rfl dX3_lift_10 ?_
      refine lv_icmp_gt (tgt := 53) hx hb dX3_lift_13 (by decide) (fun q => ?_) (fun q => ?_)
      · have hwp := hwp.1 q
        exact sw_vret hx hb hret hlocks hz hwp dX3_lift_53
      · have hwp := hwp.2 q
        refine lv_aload_n hx hb dX3_lift_16 rfl (lv_at hl 1 rfl) ?_
        refine sw_get (C := RX4) (T := TX4) (N := 2) (v := .ref (o1 + 1)) hx hb hts hw0 hown hK hz hs1 rfl 0 (by decide) hw2 (fun _ h9 => h9) rfl dX3_lift_17 ?_
        refine lv_iload_n hx hb dX3_lift_20 rfl (lv_at hl 2 rfl) ?_
        obtain ⟨ho2, hwp⟩ := hwp
        refine sw_lald hx hb hK hz ho2 dX3_lift_21 ?_
        refine lv_aload_n hx hb dX3_lift_22 rfl (lv_at hl 0 rfl) ?_
        obtain ⟨hs3, hwp⟩ := hwp
        refine sw_get (C := RX3) (T := TX3) (N := 4) (v := .long (L o0 0)) hx hb hts hw3 hown hK hz hs3 rfl 0 (by decide) hw4 (fun _ h9 => h9) rfl dX3_lift_23 ?_
        refine lv_ldc2 hx hb hown hw5 dX3_lift_26 ?_
        refine lv_ldiv hx hb dX3_lift_29 (by decide) ?_
        refine W.lcmp hx hb dX3_lift_30 ?_
        refine W.eq (g2 := F0 m 31 ls [.int (lg_cmp (L (o1 + 1) (ix x3)) ((L o0 0) / 2))]) rfl ?_
        refine lv_if_le (tgt := 47) hx hb dX3_lift_31 (by decide) (fun q => ?_) (fun q => ?_)
        · have hwp := hwp.1 ((lg_cmp_le _ _).mp q)
          obtain ⟨v4, q_v4⟩ : ∃ y : Int32, y = x3 + 1 := ⟨_, rfl⟩
          have hwp := hwp v4 q_v4
          refine lv_iinc (v := v4) (lv' := [(3, .int v4), (0, .ref o0), (1, .ref o1)]) hx hb dX3_lift_47 hl (k := 2) rfl (by rw [q_v4]; rfl) (by decide) rfl (fun ls hl => ?_)
          refine lv_goto (tgt := 8) hx hb dX3_lift_50 (by decide) ?_
          exact hC8 _ _ _ _ _ _ _ hwp hz (lv_sub hl [1, 2, 0] rfl)
        · have hwp := hwp.2 (fun h => q ((lg_cmp_le _ _).mpr h))
          refine lv_aload_n hx hb dX3_lift_34 rfl (lv_at hl 1 rfl) ?_
          refine sw_get (C := RX4) (T := TX4) (N := 2) (v := .ref (o1 + 1)) hx hb hts hw0 hown hK hz hs1 rfl 0 (by decide) hw2 (fun _ h9 => h9) rfl dX3_lift_35 ?_
          refine lv_iload_n hx hb dX3_lift_38 rfl (lv_at hl 2 rfl) ?_
          refine lv_dup2_11 hx hb dX3_lift_39 rfl rfl ?_
          obtain ⟨ho5, hwp⟩ := hwp
          refine sw_lald hx hb hK hz ho5 dX3_lift_40 ?_
          refine lv_aload_n hx hb dX3_lift_41 rfl (lv_at hl 0 rfl) ?_
          refine sw_get (C := RX3) (T := TX3) (N := 4) (v := .long (L o0 0)) hx hb hts hw3 hown hK hz hs3 rfl 0 (by decide) hw4 (fun _ h9 => h9) rfl dX3_lift_42 ?_
          refine lv_lsub hx hb dX3_lift_45 ?_
          obtain ⟨ho6, hwp⟩ := hwp
          refine sw_last hx hb hK hz ho6 dX3_lift_46 (fun H locs L7 e_L7 hz => ?_)
          have hwp := hwp L7 e_L7
          obtain ⟨v8, q_v8⟩ : ∃ y : Int32, y = x3 + 1 := ⟨_, rfl⟩
          have hwp := hwp v8 q_v8
          refine lv_iinc (v := v8) (lv' := [(3, .int v8), (0, .ref o0), (1, .ref o1)]) hx hb dX3_lift_47 hl (k := 2) rfl (by rw [q_v8]; rfl) (by decide) rfl (fun ls hl => ?_)
          refine lv_goto (tgt := 8) hx hb dX3_lift_50 (by decide) ?_
          exact hC8 _ _ _ _ _ _ _ hwp hz (lv_sub hl [1, 2, 0] rfl)
    exact key μ I L A x3 H locs ls hi hz hl
  refine lv_aload_n hx hb dX3_lift_0 rfl (lv_at hl 0 rfl) ?_
  refine lv_aload_n hx hb dX3_lift_1 rfl (lv_at hl 1 rfl) ?_
  refine lv_aload_n hx hb dX3_lift_2 rfl (lv_at hl 2 rfl) ?_
  obtain ⟨hs9, hwp⟩ := hwp
  obtain ⟨P10, hc11, hwp⟩ := hwp
  refine sw_callv hz (va_runV (As := [.ref o1, .ref o2]) (rest := []) ⟨hx, hb, hml, hown, hts⟩ (hc11 hK _) (cwV 2 hts gX3_lift_X3_reduce rfl rfl rfl (by decide +kernel) ⟨Nat.le_of_ble_eq_true rfl, Nat.le_of_ble_eq_true rfl⟩) (hz.preV hK hs9 rfl) rfl rfl hl.1 rfl (lv_room (Nat.le_of_ble_eq_true rfl)) dX3_lift_3 ⟨Nat.le_of_ble_eq_true rfl, Nat.le_of_ble_eq_true rfl⟩) (fun I12 L13 A14 H locs hp hz => ?_)
  have hwp := hwp I12 L13 A14 hp
  refine lv_iconst (v := 0) hx hb dX3_lift_6 (by decide) ?_
  refine lv_istore_n (lv' := [(3, .int 0), (0, .ref o0), (1, .ref o1), (2, .ref o2)]) hx hb dX3_lift_7 rfl hl (by decide) rfl (fun ls hl => ?_)
  exact wL8 _ _ _ _ _ _ _ hwp hz (lv_sub hl [1, 2, 0] rfl)

def wp_X3_raise_9 (K : Cx) (o0 : Nat) (o1 : Nat) (o2 : Nat) (j3 : Int64) (o5 : Nat) (I : TI) (L : TL) (A : TA) (x6 : Int32) (Q : TI → TL → TA → Prop) : Prop := ∃ (Inv : Nat → TI → TL → TA → Int32 → Prop) (μ : Nat), Inv μ I L A x6 ∧ ∀ (μ : Nat) (C9 : TI → TL → TA → Int32 → Prop), (∀ (μ' : Nat) (I : TI) (L : TL) (A : TA) (x6 : Int32) , μ' < μ → Inv μ' I L A x6 → C9 I L A x6) → ∀ (I : TI) (L : TL) (A : TA) (x6 : Int32) , Inv μ I L A x6 → ((x6 < 0 → Q I L A) ∧ (¬ x6 < 0 → cxS K o0 = shX3 o0 ∧ ∃ P2 : TI → TL → TA → Prop, ConV K yX3_multiplyModulo wsX3_multiplyModulo 1 40 I L A [.ref o0, .ref o1, .ref o1, .ref o1, .ref o5] P2 ∧ ∀ (I4 : TI) (L5 : TL) (A6 : TA), P2 I4 L5 A6 → ((((j3 >>> (Int32.toInt64 x6 &&& 63)) &&& 1) = 1 → ∃ P8 : TI → TL → TA → Prop, ConV K yX3_multiplyModulo wsX3_multiplyModulo 1 40 I4 L5 A6 [.ref o0, .ref o1, .ref o1, .ref o2, .ref o5] P8 ∧ ∀ (I10 : TI) (L11 : TL) (A12 : TA), P8 I10 L11 A12 → ∀ v13 : Int32, v13 = x6 + (-1) → C9 I10 L11 A12 v13) ∧ (¬ ((j3 >>> (Int32.toInt64 x6 &&& 63)) &&& 1) = 1 → ∀ v7 : Int32, v7 = x6 + (-1) → C9 I4 L5 A6 v7))))
def wp_X3_raise (K : Cx) (I : TI) (L : TL) (A : TA) (o0 : Nat) (o1 : Nat) (o2 : Nat) (j3 : Int64) (o5 : Nat) (Q : TI → TL → TA → Prop) : Prop := cxS K o1 = shX4 o1 ∧ ∃ P15 : TI → TL → TA → Prop, ConV K yX4_becomeNumber wsX4_becomeNumber 1 21 I L A [.ref o1, .long 1] P15 ∧ ∀ (I17 : TI) (L18 : TL) (A19 : TA), P15 I17 L18 A19 → wp_X3_raise_9 K o0 o1 o2 j3 o5 I17 L18 A19 30 Q
set_option maxHeartbeats 1000000 in
set_option maxRecDepth 100000 in
theorem w_X3_raise (K : Cx) (I : TI) (L : TL) (A : TA) (o0 : Nat) (o1 : Nat) (o2 : Nat) (j3 : Int64) (o5 : Nat) (Q : TI → TL → TA → Prop) (hwp : wp_X3_raise K I L A o0 o1 o2 j3 o5 Q) : ConV K yX3_raise wsX3_raise 2 68 I L A [.ref o0, .ref o1, .ref o2, .long j3, .ref o5] Q := by
  intro hK sz
  refine Met.ofW (cc := cX3_raise) (maxL := 7) (ret := none) (by decide) rfl ?_
  intro p e s m args below meth c s₁ B hml hv
  obtain ⟨rfl, hsz, hB⟩ := hv
  have hx := B.exec
  have hb := B.bytes
  have hret := B.returns
  have hts := atoms_spec (ws := wsX3_raise) B.pre
  have hown : s.vm.findClass RX3 = some m.cls := findClass_of_methodNamed B.named
  have hlocks := B.notSynchronized
  subst hsz
  have hz : SS K s I L A s.heap [] := PS.start hB
  have hl := lv_entry ([.ref o0, .ref o1, .ref o2, .long j3, .ref o5]) (n := 7) (Nat.le_of_ble_eq_true rfl)
  rw [lg_entry_eq]
  generalize (lg_sl ([.ref o0, .ref o1, .ref o2, .long j3, .ref o5]) ++ List.replicate (7 - (lg_sl ([.ref o0, .ref o1, .ref o2, .long j3, .ref o5])).length) Slot.unset).toArray = ls at hl ⊢
  have hl : lv_has ls 7 [(0, .ref o0), (1, .ref o1), (2, .ref o2), (3, .long j3), (5, .ref o5)] := hl
  clear hB B
  have wL9 : ∀ (I : TI) (L : TL) (A : TA) (x6 : Int32) (H : Heap) (locs : List Loc) (ls : Array Slot), wp_X3_raise_9 K o0 o1 o2 j3 o5 I L A x6 Q → SS K s I L A H locs → lv_has ls 7 [(0, .ref o0), (1, .ref o1), (2, .ref o2), (3, .long j3), (5, .ref o5), (6, .int x6)] → W p (cxl K) e (headSpec wsX3_raise (rmF 2 68)).room s m ([.ref o0, .ref o1, .ref o2, .long j3, .ref o5] : List Value).toArray below meth c H locs 0 0 (MQ below (cxQv K Q) ([.ref o0, .ref o1, .ref o2, .long j3, .ref o5] : List Value).toArray s 0 0 (PA (cxb K))) (F0 m 9 ls []) := by
    intro I L A x6 H locs ls hwp hz hl
    obtain ⟨Inv, μ, hi, hst⟩ := hwp
    have key : ∀ (μ : Nat) (I : TI) (L : TL) (A : TA) (x6 : Int32) (H : Heap) (locs : List Loc) (ls : Array Slot), Inv μ I L A x6 → SS K s I L A H locs → lv_has ls 7 [(0, .ref o0), (1, .ref o1), (2, .ref o2), (3, .long j3), (5, .ref o5), (6, .int x6)] → W p (cxl K) e (headSpec wsX3_raise (rmF 2 68)).room s m ([.ref o0, .ref o1, .ref o2, .long j3, .ref o5] : List Value).toArray below meth c H locs 0 0 (MQ below (cxQv K Q) ([.ref o0, .ref o1, .ref o2, .long j3, .ref o5] : List Value).toArray s 0 0 (PA (cxb K))) (F0 m 9 ls []) := by
      clear hi hz hl
      intro μ
      induction μ using Nat.strongRecOn with | ind μ ih => ?_
      intro I L A x6 H locs ls hi hz hl
      obtain ⟨C9, hCd⟩ : ∃ C : TI → TL → TA → Int32 → Prop, C = fun I L A x6 => ∃ μ', μ' < μ ∧ Inv μ' I L A x6 := ⟨_, rfl⟩
      have hC9 : ∀ (I : TI) (L : TL) (A : TA) (x6 : Int32) (H : Heap) (locs : List Loc) (ls : Array Slot), C9 I L A x6 → SS K s I L A H locs → lv_has ls 7 [(0, .ref o0), (1, .ref o1), (2, .ref o2), (3, .long j3), (5, .ref o5), (6, .int x6)] → W p (cxl K) e (headSpec wsX3_raise (rmF 2 68)).room s m ([.ref o0, .ref o1, .ref o2, .long j3, .ref o5] : List Value).toArray below meth c H locs 0 0 (MQ below (cxQv K Q) ([.ref o0, .ref o1, .ref o2, .long j3, .ref o5] : List Value).toArray s 0 0 (PA (cxb K))) (F0 m 9 ls []) := by
        intro I L A x6 H locs ls hc hz hl
        rw [hCd] at hc
        obtain ⟨μ', hlt, hc⟩ := hc
        exact ih μ' hlt I L A x6 H locs ls hc hz hl
      have hwp := hst μ C9 (fun μ' I L A x6 hlt hc => by rw [hCd]; exact ⟨μ', hlt, hc⟩) I L A x6 hi
      refine lv_iload hx hb dX3_raise_9 (lv_at hl 5 rfl) ?_
      refine lv_if_lt (tgt := 49) hx hb dX3_raise_11 (by decide) (fun q => ?_) (fun q => ?_)
      · have hwp := hwp.1 q
        exact sw_vret hx hb hret hlocks hz hwp dX3_raise_49
      · have hwp := hwp.2 q
        refine lv_aload_n hx hb dX3_raise_14 rfl (lv_at hl 0 rfl) ?_
        refine lv_aload_n hx hb dX3_raise_15 rfl (lv_at hl 1 rfl) ?_
        refine lv_aload_n hx hb dX3_raise_16 rfl (lv_at hl 1 rfl) ?_
        refine lv_aload_n hx hb dX3_raise_17 rfl (lv_at hl 1 rfl) ?_
        refine lv_aload hx hb dX3_raise_18 (lv_at hl 4 rfl) ?_
        obtain ⟨hs1, hwp⟩ := hwp
        obtain ⟨P2, hc3, hwp⟩ := hwp
        refine sw_callv hz (va_runV (As := [.ref o1, .ref o1, .ref o1, .ref o5]) (rest := []) ⟨hx, hb, hml, hown, hts⟩ (hc3 hK _) (cwV 4 hts gX3_raise_X3_multiplyModulo rfl rfl rfl (by decide +kernel) ⟨Nat.le_of_ble_eq_true rfl, Nat.le_of_ble_eq_true rfl⟩) (hz.preV hK hs1 rfl) rfl rfl hl.1 rfl (lv_room (Nat.le_of_ble_eq_true rfl)) dX3_raise_20 ⟨Nat.le_of_ble_eq_true rfl, Nat.le_of_ble_eq_true rfl⟩) (fun I4 L5 A6 H locs hp hz => ?_)
        have hwp := hwp I4 L5 A6 hp
        refine lv_lload_n hx hb dX3_raise_23 rfl (lv_at hl 3 rfl) ?_
        refine lv_iload hx hb dX3_raise_24 (lv_at hl 5 rfl) ?_
        refine lv_lshr hx hb dX3_raise_26 rfl ?_
        refine lv_lconst (v := 1) hx hb dX3_raise_27 (by decide) ?_
        refine lv_land hx hb dX3_raise_28 ?_
        refine lv_lconst (v := 1) hx hb dX3_raise_29 (by decide) ?_
        refine W.lcmp hx hb dX3_raise_30 ?_
        refine W.eq (g2 := F0 m 31 ls [.int (lg_cmp ((j3 >>> (Int32.toInt64 x6 &&& 63)) &&& 1) 1)]) rfl ?_
        refine lv_if_ne (tgt := 43) hx hb dX3_raise_31 (by decide) (fun q => ?_) (fun q => ?_)
        · have hwp := hwp.2 (fun h => q ((lg_cmp_eq _ _).mpr h))
          obtain ⟨v7, q_v7⟩ : ∃ y : Int32, y = x6 + (-1) := ⟨_, rfl⟩
          have hwp := hwp v7 q_v7
          refine lv_iinc (v := v7) (lv' := [(6, .int v7), (0, .ref o0), (1, .ref o1), (2, .ref o2), (3, .long j3), (5, .ref o5)]) hx hb dX3_raise_43 hl (k := 5) rfl (by rw [q_v7]; rfl) (by decide) rfl (fun ls hl => ?_)
          refine lv_goto (tgt := 9) hx hb dX3_raise_46 (by decide) ?_
          exact hC9 _ _ _ _ _ _ _ hwp hz (lv_sub hl [1, 2, 3, 4, 5, 0] rfl)
        · have hwp := hwp.1 ((lg_cmp_eq _ _).mp q)
          refine lv_aload_n hx hb dX3_raise_34 rfl (lv_at hl 0 rfl) ?_
          refine lv_aload_n hx hb dX3_raise_35 rfl (lv_at hl 1 rfl) ?_
          refine lv_aload_n hx hb dX3_raise_36 rfl (lv_at hl 1 rfl) ?_
          refine lv_aload_n hx hb dX3_raise_37 rfl (lv_at hl 2 rfl) ?_
          refine lv_aload hx hb dX3_raise_38 (lv_at hl 4 rfl) ?_
          obtain ⟨P8, hc9, hwp⟩ := hwp
          refine sw_callv hz (va_runV (As := [.ref o1, .ref o1, .ref o2, .ref o5]) (rest := []) ⟨hx, hb, hml, hown, hts⟩ (hc9 hK _) (cwV 4 hts gX3_raise_X3_multiplyModulo rfl rfl rfl (by decide +kernel) ⟨Nat.le_of_ble_eq_true rfl, Nat.le_of_ble_eq_true rfl⟩) (hz.preV hK hs1 rfl) rfl rfl hl.1 rfl (lv_room (Nat.le_of_ble_eq_true rfl)) dX3_raise_40 ⟨Nat.le_of_ble_eq_true rfl, Nat.le_of_ble_eq_true rfl⟩) (fun I10 L11 A12 H locs hp hz => ?_)
          have hwp := hwp I10 L11 A12 hp
          obtain ⟨v13, q_v13⟩ : ∃ y : Int32, y = x6 + (-1) := ⟨_, rfl⟩
          have hwp := hwp v13 q_v13
          refine lv_iinc (v := v13) (lv' := [(6, .int v13), (0, .ref o0), (1, .ref o1), (2, .ref o2), (3, .long j3), (5, .ref o5)]) hx hb dX3_raise_43 hl (k := 5) rfl (by rw [q_v13]; rfl) (by decide) rfl (fun ls hl => ?_)
          refine lv_goto (tgt := 9) hx hb dX3_raise_46 (by decide) ?_
          exact hC9 _ _ _ _ _ _ _ hwp hz (lv_sub hl [1, 2, 3, 4, 5, 0] rfl)
    exact key μ I L A x6 H locs ls hi hz hl
  refine lv_aload_n hx hb dX3_raise_0 rfl (lv_at hl 1 rfl) ?_
  refine lv_lconst (v := 1) hx hb dX3_raise_1 (by decide) ?_
  obtain ⟨hs14, hwp⟩ := hwp
  obtain ⟨P15, hc16, hwp⟩ := hwp
  refine sw_callv hz (va_runV (As := [.long 1]) (rest := []) ⟨hx, hb, hml, hown, hts⟩ (hc16 hK _) (cwV 1 hts gX3_raise_X4_becomeNumber rfl rfl rfl (by decide +kernel) ⟨Nat.le_of_ble_eq_true rfl, Nat.le_of_ble_eq_true rfl⟩) (hz.preV hK hs14 rfl) rfl rfl hl.1 rfl (lv_room (Nat.le_of_ble_eq_true rfl)) dX3_raise_2 ⟨Nat.le_of_ble_eq_true rfl, Nat.le_of_ble_eq_true rfl⟩) (fun I17 L18 A19 H locs hp hz => ?_)
  have hwp := hwp I17 L18 A19 hp
  refine lv_bipush (v := 30) hx hb dX3_raise_5 (by decide) ?_
  refine lv_istore (lv' := [(6, .int 30), (0, .ref o0), (1, .ref o1), (2, .ref o2), (3, .long j3), (5, .ref o5)]) hx hb dX3_raise_7 hl (by decide) rfl (fun ls hl => ?_)
  exact wL9 _ _ _ _ _ _ _ hwp hz (lv_sub hl [1, 2, 3, 4, 5, 0] rfl)

