def wp_X2_append (K : Cx) (I : TI) (L : TL) (A : TA) (o0 : Nat) (o1 : Nat) (Q : TI → TL → TA → Prop) : Prop := cxS K o0 = shX2 o0 ∧ ((6 ≤ (I o0 2) → Q I L A) ∧ (¬ 6 ≤ (I o0 2) → aok (cxS K) (o0 + 1) 2 (I o0 2) ∧ cxS K (A (o0 + 1) (ix (I o0 2))) = shX4 (A (o0 + 1) (ix (I o0 2))) ∧ ∃ P4 : TI → TL → TA → Prop, ConV K yX4_become wsX4_become 1 40 I L A [.ref (A (o0 + 1) (ix (I o0 2))), .ref o1] P4 ∧ ∀ (I6 : TI) (L7 : TL) (A8 : TA), P4 I6 L7 A8 → aok (cxS K) (o0 + 14) 0 (I6 o0 2) ∧ ∀ I10 : TI, I10 = u2 I6 (o0 + 14) (ix (I6 o0 2)) 0 → ∀ I11 : TI, I11 = u2 I10 o0 2 ((I10 o0 2) + 1) → Q I11 L7 A8))
set_option maxHeartbeats 1000000 in
set_option maxRecDepth 100000 in
theorem w_X2_append (K : Cx) (I : TI) (L : TL) (A : TA) (o0 : Nat) (o1 : Nat) (Q : TI → TL → TA → Prop) (hwp : wp_X2_append K I L A o0 o1 Q) : ConV K yX2_append wsX2_append 2 61 I L A [.ref o0, .ref o1] Q := by
  intro hK sz
  refine Met.ofW (cc := cX2_append) (maxL := 2) (ret := none) (by decide) rfl ?_
  intro p e s m args below meth c s₁ B hml hv
  obtain ⟨rfl, hsz, hB⟩ := hv
  have hx := B.exec
  have hb := B.bytes
  have hret := B.returns
  have hts := atoms_spec (ws := wsX2_append) B.pre
  have hown : s.vm.findClass RX2 = some m.cls := findClass_of_methodNamed B.named
  have hlocks := B.notSynchronized
  subst hsz
  have hz : SS K s I L A s.heap [] := PS.start hB
  have hl := lv_entry ([.ref o0, .ref o1]) (n := 2) (Nat.le_of_ble_eq_true rfl)
  rw [lg_entry_eq]
  generalize (lg_sl ([.ref o0, .ref o1]) ++ List.replicate (2 - (lg_sl ([.ref o0, .ref o1])).length) Slot.unset).toArray = ls at hl ⊢
  have hl : lv_has ls 2 [(0, .ref o0), (1, .ref o1)] := hl
  have hw0 : ∀ w ∈ u_ws RX2 TX2 4, w ∈ wsX2_append := by decide +kernel
  have hw1 := hts (.fieldLink RX2 23 "GaloisDesk$PartList" "count" "I") (by decide +kernel)
  have hw2 := hts (.fieldLink RX2 13 "GaloisDesk$PartList" "rows" "[LGaloisDesk$Row;") (by decide +kernel)
  have hw3 := hts (.fieldLink RX2 19 "GaloisDesk$PartList" "often" "[I") (by decide +kernel)
  clear hB B
  refine lv_aload_n hx hb dX2_append_0 rfl (lv_at hl 0 rfl) ?_
  obtain ⟨hs1, hwp⟩ := hwp
  refine sw_get (C := RX2) (T := TX2) (N := 4) (v := .int (I o0 2)) hx hb hts hw0 hown hK hz hs1 rfl 2 (by decide) hw1 (fun _ h9 => h9) rfl dX2_append_1 ?_
  refine lv_bipush (v := 6) hx hb dX2_append_4 (by decide) ?_
  refine lv_icmp_ge (tgt := 42) hx hb dX2_append_6 (by decide) (fun q => ?_) (fun q => ?_)
  · have hwp := hwp.1 q
    exact sw_vret hx hb hret hlocks hz hwp dX2_append_42
  · have hwp := hwp.2 q
    refine lv_aload_n hx hb dX2_append_9 rfl (lv_at hl 0 rfl) ?_
    refine sw_get (C := RX2) (T := TX2) (N := 4) (v := .ref (o0 + 1)) hx hb hts hw0 hown hK hz hs1 rfl 0 (by decide) hw2 (fun _ h9 => h9) rfl dX2_append_10 ?_
    refine lv_aload_n hx hb dX2_append_13 rfl (lv_at hl 0 rfl) ?_
    refine sw_get (C := RX2) (T := TX2) (N := 4) (v := .int (I o0 2)) hx hb hts hw0 hown hK hz hs1 rfl 2 (by decide) hw1 (fun _ h9 => h9) rfl dX2_append_14 ?_
    obtain ⟨ho2, hwp⟩ := hwp
    refine sw_aald hx hb hK hz ho2 dX2_append_17 ?_
    refine lv_aload_n hx hb dX2_append_18 rfl (lv_at hl 1 rfl) ?_
    obtain ⟨hs3, hwp⟩ := hwp
    obtain ⟨P4, hc5, hwp⟩ := hwp
    refine sw_callv hz (va_runV (As := [.ref o1]) (rest := []) ⟨hx, hb, hml, hown, hts⟩ (hc5 hK _) (cwV 1 hts gX2_append_X4_become rfl rfl rfl (by decide +kernel) ⟨Nat.le_of_ble_eq_true rfl, Nat.le_of_ble_eq_true rfl⟩) (hz.preV hK hs3 rfl) rfl rfl hl.1 rfl (lv_room (Nat.le_of_ble_eq_true rfl)) dX2_append_19 ⟨Nat.le_of_ble_eq_true rfl, Nat.le_of_ble_eq_true rfl⟩) (fun I6 L7 A8 H locs hp hz => ?_)
    have hwp := hwp I6 L7 A8 hp
    refine lv_aload_n hx hb dX2_append_22 rfl (lv_at hl 0 rfl) ?_
    refine sw_get (C := RX2) (T := TX2) (N := 4) (v := .ref (o0 + 14)) hx hb hts hw0 hown hK hz hs1 rfl 1 (by decide) hw3 (fun _ h9 => h9) rfl dX2_append_23 ?_
    refine lv_aload_n hx hb dX2_append_26 rfl (lv_at hl 0 rfl) ?_
    refine sw_get (C := RX2) (T := TX2) (N := 4) (v := .int (I6 o0 2)) hx hb hts hw0 hown hK hz hs1 rfl 2 (by decide) hw1 (fun _ h9 => h9) rfl dX2_append_27 ?_
    refine lv_iconst (v := 0) hx hb dX2_append_30 (by decide) ?_
    obtain ⟨ho9, hwp⟩ := hwp
    refine sw_iast hx hb hK hz ho9 dX2_append_31 (fun H locs I10 e_I10 hz => ?_)
    have hwp := hwp I10 e_I10
    refine lv_aload_n hx hb dX2_append_32 rfl (lv_at hl 0 rfl) ?_
    refine lv_dup hx hb dX2_append_33 rfl ?_
    refine sw_get (C := RX2) (T := TX2) (N := 4) (v := .int (I10 o0 2)) hx hb hts hw0 hown hK hz hs1 rfl 2 (by decide) hw1 (fun _ h9 => h9) rfl dX2_append_34 ?_
    refine lv_iconst (v := 1) hx hb dX2_append_37 (by decide) ?_
    refine lv_iadd hx hb dX2_append_38 ?_
    refine sw_putI (C := RX2) (T := TX2) (N := 4) hx hb hts hw0 tyX2 tyX2_ok nmX2 hown hK hz hs1 rfl 2 (by decide) hw1 (fun _ h9 => h9) rfl (by decide +kernel) rfl dX2_append_39 (fun H locs I11 e_I11 hz => ?_)
    have hwp := hwp I11 e_I11
    exact sw_vret hx hb hret hlocks hz hwp dX2_append_42

def wp_X2_become_18 (K : Cx) (o0 : Nat) (o1 : Nat) (I : TI) (L : TL) (A : TA) (x2 : Int32) (Q : TI → TL → TA → Prop) : Prop := ∃ (Inv : Nat → TI → TL → TA → Int32 → Prop) (μ : Nat), Inv μ I L A x2 ∧ ∀ (μ : Nat) (C18 : TI → TL → TA → Int32 → Prop), (∀ (μ' : Nat) (I : TI) (L : TL) (A : TA) (x2 : Int32) , μ' < μ → Inv μ' I L A x2 → C18 I L A x2) → ∀ (I : TI) (L : TL) (A : TA) (x2 : Int32) , Inv μ I L A x2 → cxS K o0 = shX2 o0 ∧ (((I o0 2) ≤ x2 → Q I L A) ∧ (¬ (I o0 2) ≤ x2 → aok (cxS K) (o0 + 1) 2 x2 ∧ cxS K o1 = shX2 o1 ∧ aok (cxS K) (o1 + 1) 2 x2 ∧ cxS K (A (o0 + 1) (ix x2)) = shX4 (A (o0 + 1) (ix x2)) ∧ ∃ P6 : TI → TL → TA → Prop, ConV K yX4_become wsX4_become 1 40 I L A [.ref (A (o0 + 1) (ix x2)), .ref (A (o1 + 1) (ix x2))] P6 ∧ ∀ (I8 : TI) (L9 : TL) (A10 : TA), P6 I8 L9 A10 → aok (cxS K) (o1 + 14) 0 x2 ∧ aok (cxS K) (o0 + 14) 0 x2 ∧ ∀ I13 : TI, I13 = u2 I8 (o0 + 14) (ix x2) (I8 (o1 + 14) (ix x2)) → ∀ v14 : Int32, v14 = x2 + 1 → C18 I13 L9 A10 v14))
def wp_X2_become (K : Cx) (I : TI) (L : TL) (A : TA) (o0 : Nat) (o1 : Nat) (Q : TI → TL → TA → Prop) : Prop := cxS K o1 = shX2 o1 ∧ cxS K o0 = shX2 o0 ∧ ∀ I17 : TI, I17 = u2 I o0 2 (I o1 2) → ∀ I18 : TI, I18 = u2 I17 o0 3 (I17 o1 3) → wp_X2_become_18 K o0 o1 I18 L A 0 Q
set_option maxHeartbeats 1000000 in
set_option maxRecDepth 100000 in
theorem w_X2_become (K : Cx) (I : TI) (L : TL) (A : TA) (o0 : Nat) (o1 : Nat) (Q : TI → TL → TA → Prop) (hwp : wp_X2_become K I L A o0 o1 Q) : ConV K yX2_become wsX2_become 2 61 I L A [.ref o0, .ref o1] Q := by
  intro hK sz
  refine Met.ofW (cc := cX2_become) (maxL := 3) (ret := none) (by decide) rfl ?_
  intro p e s m args below meth c s₁ B hml hv
  obtain ⟨rfl, hsz, hB⟩ := hv
  have hx := B.exec
  have hb := B.bytes
  have hret := B.returns
  have hts := atoms_spec (ws := wsX2_become) B.pre
  have hown : s.vm.findClass RX2 = some m.cls := findClass_of_methodNamed B.named
  have hlocks := B.notSynchronized
  subst hsz
  have hz : SS K s I L A s.heap [] := PS.start hB
  have hl := lv_entry ([.ref o0, .ref o1]) (n := 3) (Nat.le_of_ble_eq_true rfl)
  rw [lg_entry_eq]
  generalize (lg_sl ([.ref o0, .ref o1]) ++ List.replicate (3 - (lg_sl ([.ref o0, .ref o1])).length) Slot.unset).toArray = ls at hl ⊢
  have hl : lv_has ls 3 [(0, .ref o0), (1, .ref o1)] := hl
  have hw0 : ∀ w ∈ u_ws RX2 TX2 4, w ∈ wsX2_become := by decide +kernel
  have hw1 := hts (.fieldLink RX2 23 "GaloisDesk$PartList" "count" "I") (by decide +kernel)
  have hw2 := hts (.fieldLink RX2 13 "GaloisDesk$PartList" "rows" "[LGaloisDesk$Row;") (by decide +kernel)
  have hw3 := hts (.fieldLink RX2 19 "GaloisDesk$PartList" "often" "[I") (by decide +kernel)
  have hw4 := hts (.fieldLink RX2 27 "GaloisDesk$PartList" "number" "I") (by decide +kernel)
  clear hB B
  have wL18 : ∀ (I : TI) (L : TL) (A : TA) (x2 : Int32) (H : Heap) (locs : List Loc) (ls : Array Slot), wp_X2_become_18 K o0 o1 I L A x2 Q → SS K s I L A H locs → lv_has ls 3 [(0, .ref o0), (1, .ref o1), (2, .int x2)] → W p (cxl K) e (headSpec wsX2_become (rmF 2 61)).room s m ([.ref o0, .ref o1] : List Value).toArray below meth c H locs 0 0 (MQ below (cxQv K Q) ([.ref o0, .ref o1] : List Value).toArray s 0 0 (PA (cxb K))) (F0 m 18 ls []) := by
    intro I L A x2 H locs ls hwp hz hl
    obtain ⟨Inv, μ, hi, hst⟩ := hwp
    have key : ∀ (μ : Nat) (I : TI) (L : TL) (A : TA) (x2 : Int32) (H : Heap) (locs : List Loc) (ls : Array Slot), Inv μ I L A x2 → SS K s I L A H locs → lv_has ls 3 [(0, .ref o0), (1, .ref o1), (2, .int x2)] → W p (cxl K) e (headSpec wsX2_become (rmF 2 61)).room s m ([.ref o0, .ref o1] : List Value).toArray below meth c H locs 0 0 (MQ below (cxQv K Q) ([.ref o0, .ref o1] : List Value).toArray s 0 0 (PA (cxb K))) (F0 m 18 ls []) := by
      clear hi hz hl
      intro μ
      induction μ using Nat.strongRecOn with | ind μ ih => ?_
      intro I L A x2 H locs ls hi hz hl
      obtain ⟨C18, hCd⟩ : ∃ C : TI → TL → TA → Int32 → Prop, C = fun I L A x2 => ∃ μ', μ' < μ ∧ Inv μ' I L A x2 := ⟨_, rfl⟩
      have hC18 : ∀ (I : TI) (L : TL) (A : TA) (x2 : Int32) (H : Heap) (locs : List Loc) (ls : Array Slot), C18 I L A x2 → SS K s I L A H locs → lv_has ls 3 [(0, .ref o0), (1, .ref o1), (2, .int x2)] → W p (cxl K) e (headSpec wsX2_become (rmF 2 61)).room s m ([.ref o0, .ref o1] : List Value).toArray below meth c H locs 0 0 (MQ below (cxQv K Q) ([.ref o0, .ref o1] : List Value).toArray s 0 0 (PA (cxb K))) (F0 m 18 ls []) := by
        intro I L A x2 H locs ls hc hz hl
        rw [hCd] at hc
        obtain ⟨μ', hlt, hc⟩ := hc
        exact ih μ' hlt I L A x2 H locs ls hc hz hl
      have hwp := hst μ C18 (fun μ' I L A x2 hlt hc => by rw [hCd]; exact ⟨μ', hlt, hc⟩) I L A x2 hi
      refine lv_iload_n hx hb dX2_become_18 rfl (lv_at hl 2 rfl) ?_
      refine lv_aload_n hx hb dX2_become_19 rfl (lv_at hl 0 rfl) ?_
      obtain ⟨hs1, hwp⟩ := hwp
      refine sw_get (C := RX2) (T := TX2) (N := 4) (v := .int (I o0 2)) hx hb hts hw0 hown hK hz hs1 rfl 2 (by decide) hw1 (fun _ h9 => h9) rfl dX2_become_20 ?_
      refine lv_icmp_ge (tgt := 59) hx hb dX2_become_23 (by decide) (fun q => ?_) (fun q => ?_)
      · have hwp := hwp.1 q
        exact sw_vret hx hb hret hlocks hz hwp dX2_become_59
      · have hwp := hwp.2 q
        refine lv_aload_n hx hb dX2_become_26 rfl (lv_at hl 0 rfl) ?_
        refine sw_get (C := RX2) (T := TX2) (N := 4) (v := .ref (o0 + 1)) hx hb hts hw0 hown hK hz hs1 rfl 0 (by decide) hw2 (fun _ h9 => h9) rfl dX2_become_27 ?_
        refine lv_iload_n hx hb dX2_become_30 rfl (lv_at hl 2 rfl) ?_
        obtain ⟨ho2, hwp⟩ := hwp
        refine sw_aald hx hb hK hz ho2 dX2_become_31 ?_
        refine lv_aload_n hx hb dX2_become_32 rfl (lv_at hl 1 rfl) ?_
        obtain ⟨hs3, hwp⟩ := hwp
        refine sw_get (C := RX2) (T := TX2) (N := 4) (v := .ref (o1 + 1)) hx hb hts hw0 hown hK hz hs3 rfl 0 (by decide) hw2 (fun _ h9 => h9) rfl dX2_become_33 ?_
        refine lv_iload_n hx hb dX2_become_36 rfl (lv_at hl 2 rfl) ?_
        obtain ⟨ho4, hwp⟩ := hwp
        refine sw_aald hx hb hK hz ho4 dX2_become_37 ?_
        obtain ⟨hs5, hwp⟩ := hwp
        obtain ⟨P6, hc7, hwp⟩ := hwp
        refine sw_callv hz (va_runV (As := [.ref (A (o1 + 1) (ix x2))]) (rest := []) ⟨hx, hb, hml, hown, hts⟩ (hc7 hK _) (cwV 1 hts gX2_become_X4_become rfl rfl rfl (by decide +kernel) ⟨Nat.le_of_ble_eq_true rfl, Nat.le_of_ble_eq_true rfl⟩) (hz.preV hK hs5 rfl) rfl rfl hl.1 rfl (lv_room (Nat.le_of_ble_eq_true rfl)) dX2_become_38 ⟨Nat.le_of_ble_eq_true rfl, Nat.le_of_ble_eq_true rfl⟩) (fun I8 L9 A10 H locs hp hz => ?_)
        have hwp := hwp I8 L9 A10 hp
        refine lv_aload_n hx hb dX2_become_41 rfl (lv_at hl 0 rfl) ?_
        refine sw_get (C := RX2) (T := TX2) (N := 4) (v := .ref (o0 + 14)) hx hb hts hw0 hown hK hz hs1 rfl 1 (by decide) hw3 (fun _ h9 => h9) rfl dX2_become_42 ?_
        refine lv_iload_n hx hb dX2_become_45 rfl (lv_at hl 2 rfl) ?_
        refine lv_aload_n hx hb dX2_become_46 rfl (lv_at hl 1 rfl) ?_
        refine sw_get (C := RX2) (T := TX2) (N := 4) (v := .ref (o1 + 14)) hx hb hts hw0 hown hK hz hs3 rfl 1 (by decide) hw3 (fun _ h9 => h9) rfl dX2_become_47 ?_
        refine lv_iload_n hx hb dX2_become_50 rfl (lv_at hl 2 rfl) ?_
        obtain ⟨ho11, hwp⟩ := hwp
        refine sw_iald hx hb hK hz ho11 dX2_become_51 ?_
        obtain ⟨ho12, hwp⟩ := hwp
        refine sw_iast hx hb hK hz ho12 dX2_become_52 (fun H locs I13 e_I13 hz => ?_)
        have hwp := hwp I13 e_I13
        obtain ⟨v14, q_v14⟩ : ∃ y : Int32, y = x2 + 1 := ⟨_, rfl⟩
        have hwp := hwp v14 q_v14
        refine lv_iinc (v := v14) (lv' := [(2, .int v14), (0, .ref o0), (1, .ref o1)]) hx hb dX2_become_53 hl (k := 2) rfl (by rw [q_v14]; rfl) (by decide) rfl (fun ls hl => ?_)
        refine lv_goto (tgt := 18) hx hb dX2_become_56 (by decide) ?_
        exact hC18 _ _ _ _ _ _ _ hwp hz (lv_sub hl [1, 2, 0] rfl)
    exact key μ I L A x2 H locs ls hi hz hl
  refine lv_aload_n hx hb dX2_become_0 rfl (lv_at hl 0 rfl) ?_
  refine lv_aload_n hx hb dX2_become_1 rfl (lv_at hl 1 rfl) ?_
  obtain ⟨hs15, hwp⟩ := hwp
  refine sw_get (C := RX2) (T := TX2) (N := 4) (v := .int (I o1 2)) hx hb hts hw0 hown hK hz hs15 rfl 2 (by decide) hw1 (fun _ h9 => h9) rfl dX2_become_2 ?_
  obtain ⟨hs16, hwp⟩ := hwp
  refine sw_putI (C := RX2) (T := TX2) (N := 4) hx hb hts hw0 tyX2 tyX2_ok nmX2 hown hK hz hs16 rfl 2 (by decide) hw1 (fun _ h9 => h9) rfl (by decide +kernel) rfl dX2_become_5 (fun H locs I17 e_I17 hz => ?_)
  have hwp := hwp I17 e_I17
  refine lv_aload_n hx hb dX2_become_8 rfl (lv_at hl 0 rfl) ?_
  refine lv_aload_n hx hb dX2_become_9 rfl (lv_at hl 1 rfl) ?_
  refine sw_get (C := RX2) (T := TX2) (N := 4) (v := .int (I17 o1 3)) hx hb hts hw0 hown hK hz hs15 rfl 3 (by decide) hw4 (fun _ h9 => h9) rfl dX2_become_10 ?_
  refine sw_putI (C := RX2) (T := TX2) (N := 4) hx hb hts hw0 tyX2 tyX2_ok nmX2 hown hK hz hs16 rfl 3 (by decide) hw4 (fun _ h9 => h9) rfl (by decide +kernel) rfl dX2_become_13 (fun H locs I18 e_I18 hz => ?_)
  have hwp := hwp I18 e_I18
  refine lv_iconst (v := 0) hx hb dX2_become_16 (by decide) ?_
  refine lv_istore_n (lv' := [(2, .int 0), (0, .ref o0), (1, .ref o1)]) hx hb dX2_become_17 rfl hl (by decide) rfl (fun ls hl => ?_)
  exact wL18 _ _ _ _ _ _ _ hwp hz (lv_sub hl [1, 2, 0] rfl)

def wp_X2_begin (K : Cx) (I : TI) (L : TL) (A : TA) (o0 : Nat) (i1 : Int32) (Q : TI → TL → TA → Prop) : Prop := cxS K o0 = shX2 o0 ∧ ∀ I2 : TI, I2 = u2 I o0 2 0 → ∀ I3 : TI, I3 = u2 I2 o0 3 i1 → Q I3 L A
set_option maxHeartbeats 1000000 in
set_option maxRecDepth 100000 in
theorem w_X2_begin (K : Cx) (I : TI) (L : TL) (A : TA) (o0 : Nat) (i1 : Int32) (Q : TI → TL → TA → Prop) (hwp : wp_X2_begin K I L A o0 i1 Q) : ConV K yX2_begin wsX2_begin 0 0 I L A [.ref o0, .int i1] Q := by
  intro hK sz
  refine Met.ofW (cc := cX2_begin) (maxL := 2) (ret := none) (by decide) rfl ?_
  intro p e s m args below meth c s₁ B hml hv
  obtain ⟨rfl, hsz, hB⟩ := hv
  have hx := B.exec
  have hb := B.bytes
  have hret := B.returns
  have hts := atoms_spec (ws := wsX2_begin) B.pre
  have hown : s.vm.findClass RX2 = some m.cls := findClass_of_methodNamed B.named
  have hlocks := B.notSynchronized
  subst hsz
  have hz : SS K s I L A s.heap [] := PS.start hB
  have hl := lv_entry ([.ref o0, .int i1]) (n := 2) (Nat.le_of_ble_eq_true rfl)
  rw [lg_entry_eq]
  generalize (lg_sl ([.ref o0, .int i1]) ++ List.replicate (2 - (lg_sl ([.ref o0, .int i1])).length) Slot.unset).toArray = ls at hl ⊢
  have hl : lv_has ls 2 [(0, .ref o0), (1, .int i1)] := hl
  have hw0 : ∀ w ∈ u_ws RX2 TX2 4, w ∈ wsX2_begin := by decide +kernel
  have hw1 := hts (.fieldLink RX2 23 "GaloisDesk$PartList" "count" "I") (by decide +kernel)
  have hw2 := hts (.fieldLink RX2 27 "GaloisDesk$PartList" "number" "I") (by decide +kernel)
  clear hB B
  refine lv_aload_n hx hb dX2_begin_0 rfl (lv_at hl 0 rfl) ?_
  refine lv_iconst (v := 0) hx hb dX2_begin_1 (by decide) ?_
  obtain ⟨hs1, hwp⟩ := hwp
  refine sw_putI (C := RX2) (T := TX2) (N := 4) hx hb hts hw0 tyX2 tyX2_ok nmX2 hown hK hz hs1 rfl 2 (by decide) hw1 (fun _ h9 => h9) rfl (by decide +kernel) rfl dX2_begin_2 (fun H locs I2 e_I2 hz => ?_)
  have hwp := hwp I2 e_I2
  refine lv_aload_n hx hb dX2_begin_5 rfl (lv_at hl 0 rfl) ?_
  refine lv_iload_n hx hb dX2_begin_6 rfl (lv_at hl 1 rfl) ?_
  refine sw_putI (C := RX2) (T := TX2) (N := 4) hx hb hts hw0 tyX2 tyX2_ok nmX2 hown hK hz hs1 rfl 3 (by decide) hw2 (fun _ h9 => h9) rfl (by decide +kernel) rfl dX2_begin_7 (fun H locs I3 e_I3 hz => ?_)
  have hwp := hwp I3 e_I3
  exact sw_vret hx hb hret hlocks hz hwp dX2_begin_10

def wp_X2_holds (K : Cx) (I : TI) (L : TL) (A : TA) (o0 : Nat) (i1 : Int32) (Q : Int32 → TI → TL → TA → Prop) : Prop := ((i1 < 0 → Q 0 I L A) ∧ (¬ i1 < 0 → cxS K o0 = shX2 o0 ∧ (((I o0 2) ≤ i1 → Q 0 I L A) ∧ (¬ (I o0 2) ≤ i1 → Q 1 I L A))))
set_option maxHeartbeats 1000000 in
set_option maxRecDepth 100000 in
theorem w_X2_holds (K : Cx) (I : TI) (L : TL) (A : TA) (o0 : Nat) (i1 : Int32) (Q : Int32 → TI → TL → TA → Prop) (hwp : wp_X2_holds K I L A o0 i1 Q) : ConI K yX2_holds wsX2_holds 0 0 I L A [.ref o0, .int i1] Q := by
  intro hK sz
  refine Met.ofW (cc := cX2_holds) (maxL := 2) (ret := (some .boolean)) (by decide) rfl ?_
  intro p e s m args below meth c s₁ B hml hv
  obtain ⟨rfl, hsz, hB⟩ := hv
  have hx := B.exec
  have hb := B.bytes
  have hret := B.returns
  have hts := atoms_spec (ws := wsX2_holds) B.pre
  have hown : s.vm.findClass RX2 = some m.cls := findClass_of_methodNamed B.named
  have hlocks := B.notSynchronized
  subst hsz
  have hz : SS K s I L A s.heap [] := PS.start hB
  have hl := lv_entry ([.ref o0, .int i1]) (n := 2) (Nat.le_of_ble_eq_true rfl)
  rw [lg_entry_eq]
  generalize (lg_sl ([.ref o0, .int i1]) ++ List.replicate (2 - (lg_sl ([.ref o0, .int i1])).length) Slot.unset).toArray = ls at hl ⊢
  have hl : lv_has ls 2 [(0, .ref o0), (1, .int i1)] := hl
  have hw0 : ∀ w ∈ u_ws RX2 TX2 4, w ∈ wsX2_holds := by decide +kernel
  have hw1 := hts (.fieldLink RX2 23 "GaloisDesk$PartList" "count" "I") (by decide +kernel)
  clear hB B
  refine lv_iload_n hx hb dX2_holds_0 rfl (lv_at hl 1 rfl) ?_
  refine lv_if_lt (tgt := 16) hx hb dX2_holds_1 (by decide) (fun q => ?_) (fun q => ?_)
  · have hwp := hwp.1 q
    refine lv_iconst (v := 0) hx hb dX2_holds_16 (by decide) ?_
    exact sw_zret hx hb hret hlocks hz (Or.inl rfl) hwp dX2_holds_17
  · have hwp := hwp.2 q
    refine lv_iload_n hx hb dX2_holds_4 rfl (lv_at hl 1 rfl) ?_
    refine lv_aload_n hx hb dX2_holds_5 rfl (lv_at hl 0 rfl) ?_
    obtain ⟨hs1, hwp⟩ := hwp
    refine sw_get (C := RX2) (T := TX2) (N := 4) (v := .int (I o0 2)) hx hb hts hw0 hown hK hz hs1 rfl 2 (by decide) hw1 (fun _ h9 => h9) rfl dX2_holds_6 ?_
    refine lv_icmp_ge (tgt := 16) hx hb dX2_holds_9 (by decide) (fun q => ?_) (fun q => ?_)
    · have hwp := hwp.1 q
      refine lv_iconst (v := 0) hx hb dX2_holds_16 (by decide) ?_
      exact sw_zret hx hb hret hlocks hz (Or.inl rfl) hwp dX2_holds_17
    · have hwp := hwp.2 q
      refine lv_iconst (v := 1) hx hb dX2_holds_12 (by decide) ?_
      refine lv_goto (tgt := 17) hx hb dX2_holds_13 (by decide) ?_
      exact sw_zret hx hb hret hlocks hz (Or.inr rfl) hwp dX2_holds_17

def wp_X2_isSingle (K : Cx) (I : TI) (L : TL) (A : TA) (o0 : Nat) (Q : Int32 → TI → TL → TA → Prop) : Prop := cxS K o0 = shX2 o0 ∧ (((I o0 2) = 1 → aok (cxS K) (o0 + 14) 0 0 ∧ (((I (o0 + 14) (ix 0)) = 1 → Q 1 I L A) ∧ (¬ (I (o0 + 14) (ix 0)) = 1 → Q 0 I L A))) ∧ (¬ (I o0 2) = 1 → Q 0 I L A))
set_option maxHeartbeats 1000000 in
set_option maxRecDepth 100000 in
theorem w_X2_isSingle (K : Cx) (I : TI) (L : TL) (A : TA) (o0 : Nat) (Q : Int32 → TI → TL → TA → Prop) (hwp : wp_X2_isSingle K I L A o0 Q) : ConI K yX2_isSingle wsX2_isSingle 0 0 I L A [.ref o0] Q := by
  intro hK sz
  refine Met.ofW (cc := cX2_isSingle) (maxL := 1) (ret := (some .boolean)) (by decide) rfl ?_
  intro p e s m args below meth c s₁ B hml hv
  obtain ⟨rfl, hsz, hB⟩ := hv
  have hx := B.exec
  have hb := B.bytes
  have hret := B.returns
  have hts := atoms_spec (ws := wsX2_isSingle) B.pre
  have hown : s.vm.findClass RX2 = some m.cls := findClass_of_methodNamed B.named
  have hlocks := B.notSynchronized
  subst hsz
  have hz : SS K s I L A s.heap [] := PS.start hB
  have hl := lv_entry ([.ref o0]) (n := 1) (Nat.le_of_ble_eq_true rfl)
  rw [lg_entry_eq]
  generalize (lg_sl ([.ref o0]) ++ List.replicate (1 - (lg_sl ([.ref o0])).length) Slot.unset).toArray = ls at hl ⊢
  have hl : lv_has ls 1 [(0, .ref o0)] := hl
  have hw0 : ∀ w ∈ u_ws RX2 TX2 4, w ∈ wsX2_isSingle := by decide +kernel
  have hw1 := hts (.fieldLink RX2 23 "GaloisDesk$PartList" "count" "I") (by decide +kernel)
  have hw2 := hts (.fieldLink RX2 19 "GaloisDesk$PartList" "often" "[I") (by decide +kernel)
  clear hB B
  refine lv_aload_n hx hb dX2_isSingle_0 rfl (lv_at hl 0 rfl) ?_
  obtain ⟨hs1, hwp⟩ := hwp
  refine sw_get (C := RX2) (T := TX2) (N := 4) (v := .int (I o0 2)) hx hb hts hw0 hown hK hz hs1 rfl 2 (by decide) hw1 (fun _ h9 => h9) rfl dX2_isSingle_1 ?_
  refine lv_iconst (v := 1) hx hb dX2_isSingle_4 (by decide) ?_
  refine lv_icmp_ne (tgt := 22) hx hb dX2_isSingle_5 (by decide) (fun q => ?_) (fun q => ?_)
  · have hwp := hwp.2 q
    refine lv_iconst (v := 0) hx hb dX2_isSingle_22 (by decide) ?_
    exact sw_zret hx hb hret hlocks hz (Or.inl rfl) hwp dX2_isSingle_23
  · have hwp := hwp.1 q
    refine lv_aload_n hx hb dX2_isSingle_8 rfl (lv_at hl 0 rfl) ?_
    refine sw_get (C := RX2) (T := TX2) (N := 4) (v := .ref (o0 + 14)) hx hb hts hw0 hown hK hz hs1 rfl 1 (by decide) hw2 (fun _ h9 => h9) rfl dX2_isSingle_9 ?_
    refine lv_iconst (v := 0) hx hb dX2_isSingle_12 (by decide) ?_
    obtain ⟨ho2, hwp⟩ := hwp
    refine sw_iald hx hb hK hz ho2 dX2_isSingle_13 ?_
    refine lv_iconst (v := 1) hx hb dX2_isSingle_14 (by decide) ?_
    refine lv_icmp_ne (tgt := 22) hx hb dX2_isSingle_15 (by decide) (fun q => ?_) (fun q => ?_)
    · have hwp := hwp.2 q
      refine lv_iconst (v := 0) hx hb dX2_isSingle_22 (by decide) ?_
      exact sw_zret hx hb hret hlocks hz (Or.inl rfl) hwp dX2_isSingle_23
    · have hwp := hwp.1 q
      refine lv_iconst (v := 1) hx hb dX2_isSingle_18 (by decide) ?_
      refine lv_goto (tgt := 23) hx hb dX2_isSingle_19 (by decide) ?_
      exact sw_zret hx hb hret hlocks hz (Or.inr rfl) hwp dX2_isSingle_23

def wp_X2_swapWithPrevious (K : Cx) (I : TI) (L : TL) (A : TA) (o0 : Nat) (i1 : Int32) (Q : TI → TL → TA → Prop) : Prop := cxS K o0 = shX2 o0 ∧ aok (cxS K) (o0 + 1) 2 i1 ∧ aok (cxS K) (o0 + 1) 2 (i1 - 1) ∧ cxS K (A (o0 + 1) (ix (i1 - 1))) = shX4 (A (o0 + 1) (ix (i1 - 1))) ∧ aok (cxS K) (o0 + 1) 2 i1 ∧ ∀ A5 : TA, A5 = u2 A (o0 + 1) (ix i1) (A (o0 + 1) (ix (i1 - 1))) → cxS K (A (o0 + 1) (ix i1)) = shX4 (A (o0 + 1) (ix i1)) ∧ aok (cxS K) (o0 + 1) 2 (i1 - 1) ∧ ∀ A8 : TA, A8 = u2 A5 (o0 + 1) (ix (i1 - 1)) (A (o0 + 1) (ix i1)) → aok (cxS K) (o0 + 14) 0 i1 ∧ ∀ v11 : Int32, v11 = (I (o0 + 14) (ix i1)) → aok (cxS K) (o0 + 14) 0 (i1 - 1) ∧ aok (cxS K) (o0 + 14) 0 i1 ∧ ∀ I14 : TI, I14 = u2 I (o0 + 14) (ix i1) (I (o0 + 14) (ix (i1 - 1))) → aok (cxS K) (o0 + 14) 0 (i1 - 1) ∧ ∀ I16 : TI, I16 = u2 I14 (o0 + 14) (ix (i1 - 1)) v11 → Q I16 L A8
set_option maxHeartbeats 1000000 in
set_option maxRecDepth 100000 in
theorem w_X2_swapWithPrevious (K : Cx) (I : TI) (L : TL) (A : TA) (o0 : Nat) (i1 : Int32) (Q : TI → TL → TA → Prop) (hwp : wp_X2_swapWithPrevious K I L A o0 i1 Q) : ConV K yX2_swapWithPrevious wsX2_swapWithPrevious 0 0 I L A [.ref o0, .int i1] Q := by
  intro hK sz
  refine Met.ofW (cc := cX2_swapWithPrevious) (maxL := 4) (ret := none) (by decide) rfl ?_
  intro p e s m args below meth c s₁ B hml hv
  obtain ⟨rfl, hsz, hB⟩ := hv
  have hx := B.exec
  have hb := B.bytes
  have hret := B.returns
  have hts := atoms_spec (ws := wsX2_swapWithPrevious) B.pre
  have hown : s.vm.findClass RX2 = some m.cls := findClass_of_methodNamed B.named
  have hlocks := B.notSynchronized
  subst hsz
  have hz : SS K s I L A s.heap [] := PS.start hB
  have hl := lv_entry ([.ref o0, .int i1]) (n := 4) (Nat.le_of_ble_eq_true rfl)
  rw [lg_entry_eq]
  generalize (lg_sl ([.ref o0, .int i1]) ++ List.replicate (4 - (lg_sl ([.ref o0, .int i1])).length) Slot.unset).toArray = ls at hl ⊢
  have hl : lv_has ls 4 [(0, .ref o0), (1, .int i1)] := hl
  have hw0 : ∀ w ∈ u_ws RX2 TX2 4, w ∈ wsX2_swapWithPrevious := by decide +kernel
  have hw1 := hts (.fieldLink RX2 13 "GaloisDesk$PartList" "rows" "[LGaloisDesk$Row;") (by decide +kernel)
  have hw2 := hts (.fieldLink RX2 19 "GaloisDesk$PartList" "often" "[I") (by decide +kernel)
  clear hB B
  refine lv_aload_n hx hb dX2_swapWithPrevious_0 rfl (lv_at hl 0 rfl) ?_
  obtain ⟨hs1, hwp⟩ := hwp
  refine sw_get (C := RX2) (T := TX2) (N := 4) (v := .ref (o0 + 1)) hx hb hts hw0 hown hK hz hs1 rfl 0 (by decide) hw1 (fun _ h9 => h9) rfl dX2_swapWithPrevious_1 ?_
  refine lv_iload_n hx hb dX2_swapWithPrevious_4 rfl (lv_at hl 1 rfl) ?_
  obtain ⟨ho2, hwp⟩ := hwp
  refine sw_aald hx hb hK hz ho2 dX2_swapWithPrevious_5 ?_
  refine lv_astore_n (lv' := [(2, .ref (A (o0 + 1) (ix i1))), (0, .ref o0), (1, .int i1)]) hx hb dX2_swapWithPrevious_6 rfl hl (by decide) rfl (fun ls hl => ?_)
  refine lv_aload_n hx hb dX2_swapWithPrevious_7 rfl (lv_at hl 1 rfl) ?_
  refine sw_get (C := RX2) (T := TX2) (N := 4) (v := .ref (o0 + 1)) hx hb hts hw0 hown hK hz hs1 rfl 0 (by decide) hw1 (fun _ h9 => h9) rfl dX2_swapWithPrevious_8 ?_
  refine lv_iload_n hx hb dX2_swapWithPrevious_11 rfl (lv_at hl 2 rfl) ?_
  refine lv_aload_n hx hb dX2_swapWithPrevious_12 rfl (lv_at hl 1 rfl) ?_
  refine sw_get (C := RX2) (T := TX2) (N := 4) (v := .ref (o0 + 1)) hx hb hts hw0 hown hK hz hs1 rfl 0 (by decide) hw1 (fun _ h9 => h9) rfl dX2_swapWithPrevious_13 ?_
  refine lv_iload_n hx hb dX2_swapWithPrevious_16 rfl (lv_at hl 2 rfl) ?_
  refine lv_iconst (v := 1) hx hb dX2_swapWithPrevious_17 (by decide) ?_
  refine lv_isub hx hb dX2_swapWithPrevious_18 ?_
  obtain ⟨ho3, hwp⟩ := hwp
  refine sw_aald hx hb hK hz ho3 dX2_swapWithPrevious_19 ?_
  obtain ⟨hs6, hwp⟩ := hwp
  obtain ⟨ho4, hwp⟩ := hwp
  refine sw_aast hx hb hK hz ho4 hs6 dX2_swapWithPrevious_20 (fun H locs A5 e_A5 hz => ?_)
  have hwp := hwp A5 e_A5
  refine lv_aload_n hx hb dX2_swapWithPrevious_21 rfl (lv_at hl 1 rfl) ?_
  refine sw_get (C := RX2) (T := TX2) (N := 4) (v := .ref (o0 + 1)) hx hb hts hw0 hown hK hz hs1 rfl 0 (by decide) hw1 (fun _ h9 => h9) rfl dX2_swapWithPrevious_22 ?_
  refine lv_iload_n hx hb dX2_swapWithPrevious_25 rfl (lv_at hl 2 rfl) ?_
  refine lv_iconst (v := 1) hx hb dX2_swapWithPrevious_26 (by decide) ?_
  refine lv_isub hx hb dX2_swapWithPrevious_27 ?_
  refine lv_aload_n hx hb dX2_swapWithPrevious_28 rfl (lv_at hl 0 rfl) ?_
  obtain ⟨hs9, hwp⟩ := hwp
  obtain ⟨ho7, hwp⟩ := hwp
  refine sw_aast hx hb hK hz ho7 hs9 dX2_swapWithPrevious_29 (fun H locs A8 e_A8 hz => ?_)
  have hwp := hwp A8 e_A8
  refine lv_aload_n hx hb dX2_swapWithPrevious_30 rfl (lv_at hl 1 rfl) ?_
  refine sw_get (C := RX2) (T := TX2) (N := 4) (v := .ref (o0 + 14)) hx hb hts hw0 hown hK hz hs1 rfl 1 (by decide) hw2 (fun _ h9 => h9) rfl dX2_swapWithPrevious_31 ?_
  refine lv_iload_n hx hb dX2_swapWithPrevious_34 rfl (lv_at hl 2 rfl) ?_
  obtain ⟨ho10, hwp⟩ := hwp
  refine sw_iald hx hb hK hz ho10 dX2_swapWithPrevious_35 ?_
  refine lv_topi (fun v11 q_v11 => ?_)
  have hwp := hwp v11 q_v11
  refine lv_istore_n (lv' := [(3, .int v11), (2, .ref (A (o0 + 1) (ix i1))), (0, .ref o0), (1, .int i1)]) hx hb dX2_swapWithPrevious_36 rfl hl (by decide) rfl (fun ls hl => ?_)
  refine lv_aload_n hx hb dX2_swapWithPrevious_37 rfl (lv_at hl 2 rfl) ?_
  refine sw_get (C := RX2) (T := TX2) (N := 4) (v := .ref (o0 + 14)) hx hb hts hw0 hown hK hz hs1 rfl 1 (by decide) hw2 (fun _ h9 => h9) rfl dX2_swapWithPrevious_38 ?_
  refine lv_iload_n hx hb dX2_swapWithPrevious_41 rfl (lv_at hl 3 rfl) ?_
  refine lv_aload_n hx hb dX2_swapWithPrevious_42 rfl (lv_at hl 2 rfl) ?_
  refine sw_get (C := RX2) (T := TX2) (N := 4) (v := .ref (o0 + 14)) hx hb hts hw0 hown hK hz hs1 rfl 1 (by decide) hw2 (fun _ h9 => h9) rfl dX2_swapWithPrevious_43 ?_
  refine lv_iload_n hx hb dX2_swapWithPrevious_46 rfl (lv_at hl 3 rfl) ?_
  refine lv_iconst (v := 1) hx hb dX2_swapWithPrevious_47 (by decide) ?_
  refine lv_isub hx hb dX2_swapWithPrevious_48 ?_
  obtain ⟨ho12, hwp⟩ := hwp
  refine sw_iald hx hb hK hz ho12 dX2_swapWithPrevious_49 ?_
  obtain ⟨ho13, hwp⟩ := hwp
  refine sw_iast hx hb hK hz ho13 dX2_swapWithPrevious_50 (fun H locs I14 e_I14 hz => ?_)
  have hwp := hwp I14 e_I14
  refine lv_aload_n hx hb dX2_swapWithPrevious_51 rfl (lv_at hl 2 rfl) ?_
  refine sw_get (C := RX2) (T := TX2) (N := 4) (v := .ref (o0 + 14)) hx hb hts hw0 hown hK hz hs1 rfl 1 (by decide) hw2 (fun _ h9 => h9) rfl dX2_swapWithPrevious_52 ?_
  refine lv_iload_n hx hb dX2_swapWithPrevious_55 rfl (lv_at hl 3 rfl) ?_
  refine lv_iconst (v := 1) hx hb dX2_swapWithPrevious_56 (by decide) ?_
  refine lv_isub hx hb dX2_swapWithPrevious_57 ?_
  refine lv_iload_n hx hb dX2_swapWithPrevious_58 rfl (lv_at hl 0 rfl) ?_
  obtain ⟨ho15, hwp⟩ := hwp
  refine sw_iast hx hb hK hz ho15 dX2_swapWithPrevious_59 (fun H locs I16 e_I16 hz => ?_)
  have hwp := hwp I16 e_I16
  exact sw_vret hx hb hret hlocks hz hwp dX2_swapWithPrevious_60

def wp_X2_sort_12 (K : Cx) (o0 : Nat) (C2 : TI → TL → TA → Int32 → Prop) (I : TI) (L : TL) (A : TA) (x1 : Int32) (x2 : Int32) (Q : TI → TL → TA → Prop) : Prop := ∃ (Inv : Nat → TI → TL → TA → Int32 → Int32 → Prop) (μ : Nat), Inv μ I L A x1 x2 ∧ ∀ (μ : Nat) (C12 : TI → TL → TA → Int32 → Int32 → Prop), (∀ (μ' : Nat) (I : TI) (L : TL) (A : TA) (x1 : Int32) (x2 : Int32) , μ' < μ → Inv μ' I L A x1 x2 → C12 I L A x1 x2) → ∀ (I : TI) (L : TL) (A : TA) (x1 : Int32) (x2 : Int32) , Inv μ I L A x1 x2 → ((x2 ≤ 0 → ∀ v1 : Int32, v1 = x1 + 1 → C2 I L A v1) ∧ (¬ x2 ≤ 0 → cxS K o0 = shX2 o0 ∧ aok (cxS K) (o0 + 1) 2 x2 ∧ aok (cxS K) (o0 + 1) 2 (x2 - 1) ∧ cxS K (A (o0 + 1) (ix x2)) = shX4 (A (o0 + 1) (ix x2)) ∧ ∃ P6 : Int32 → TI → TL → TA → Prop, ConI K yX4_compareWith wsX4_compareWith 1 23 I L A [.ref (A (o0 + 1) (ix x2)), .ref (A (o0 + 1) (ix (x2 - 1)))] P6 ∧ ∀ (r11 : Int32) (I8 : TI) (L9 : TL) (A10 : TA), P6 r11 I8 L9 A10 → ((0 ≤ r11 → ∀ v12 : Int32, v12 = x1 + 1 → C2 I8 L9 A10 v12) ∧ (¬ 0 ≤ r11 → ∃ P13 : TI → TL → TA → Prop, ConV K yX2_swapWithPrevious wsX2_swapWithPrevious 0 0 I8 L9 A10 [.ref o0, .int x2] P13 ∧ ∀ (I15 : TI) (L16 : TL) (A17 : TA), P13 I15 L16 A17 → ∀ v18 : Int32, v18 = x2 + (-1) → C12 I15 L16 A17 x1 v18))))
def wp_X2_sort_2 (K : Cx) (o0 : Nat) (I : TI) (L : TL) (A : TA) (x1 : Int32) (Q : TI → TL → TA → Prop) : Prop := ∃ (Inv : Nat → TI → TL → TA → Int32 → Prop) (μ : Nat), Inv μ I L A x1 ∧ ∀ (μ : Nat) (C2 : TI → TL → TA → Int32 → Prop), (∀ (μ' : Nat) (I : TI) (L : TL) (A : TA) (x1 : Int32) , μ' < μ → Inv μ' I L A x1 → C2 I L A x1) → ∀ (I : TI) (L : TL) (A : TA) (x1 : Int32) , Inv μ I L A x1 → cxS K o0 = shX2 o0 ∧ (((I o0 2) ≤ x1 → Q I L A) ∧ (¬ (I o0 2) ≤ x1 → wp_X2_sort_12 K o0 C2 I L A x1 x1 Q))
def wp_X2_sort (K : Cx) (I : TI) (L : TL) (A : TA) (o0 : Nat) (Q : TI → TL → TA → Prop) : Prop := wp_X2_sort_2 K o0 I L A 1 Q
set_option maxHeartbeats 1000000 in
set_option maxRecDepth 100000 in
theorem w_X2_sort (K : Cx) (I : TI) (L : TL) (A : TA) (o0 : Nat) (Q : TI → TL → TA → Prop) (hwp : wp_X2_sort K I L A o0 Q) : ConV K yX2_sort wsX2_sort 2 45 I L A [.ref o0] Q := by
  intro hK sz
  refine Met.ofW (cc := cX2_sort) (maxL := 3) (ret := none) (by decide) rfl ?_
  intro p e s m args below meth c s₁ B hml hv
  obtain ⟨rfl, hsz, hB⟩ := hv
  have hx := B.exec
  have hb := B.bytes
  have hret := B.returns
  have hts := atoms_spec (ws := wsX2_sort) B.pre
  have hown : s.vm.findClass RX2 = some m.cls := findClass_of_methodNamed B.named
  have hlocks := B.notSynchronized
  subst hsz
  have hz : SS K s I L A s.heap [] := PS.start hB
  have hl := lv_entry ([.ref o0]) (n := 3) (Nat.le_of_ble_eq_true rfl)
  rw [lg_entry_eq]
  generalize (lg_sl ([.ref o0]) ++ List.replicate (3 - (lg_sl ([.ref o0])).length) Slot.unset).toArray = ls at hl ⊢
  have hl : lv_has ls 3 [(0, .ref o0)] := hl
  have hw0 : ∀ w ∈ u_ws RX2 TX2 4, w ∈ wsX2_sort := by decide +kernel
  have hw1 := hts (.fieldLink RX2 13 "GaloisDesk$PartList" "rows" "[LGaloisDesk$Row;") (by decide +kernel)
  have hw2 := hts (.fieldLink RX2 23 "GaloisDesk$PartList" "count" "I") (by decide +kernel)
  clear hB B
  have wL12 : ∀ (C2 : TI → TL → TA → Int32 → Prop) (hC2 : ∀ (I : TI) (L : TL) (A : TA) (x1 : Int32) (H : Heap) (locs : List Loc) (ls : Array Slot), C2 I L A x1 → SS K s I L A H locs → lv_has ls 3 [(0, .ref o0), (1, .int x1)] → W p (cxl K) e (headSpec wsX2_sort (rmF 2 45)).room s m ([.ref o0] : List Value).toArray below meth c H locs 0 0 (MQ below (cxQv K Q) ([.ref o0] : List Value).toArray s 0 0 (PA (cxb K))) (F0 m 2 ls [])) (I : TI) (L : TL) (A : TA) (x1 : Int32) (x2 : Int32) (H : Heap) (locs : List Loc) (ls : Array Slot), wp_X2_sort_12 K o0 C2 I L A x1 x2 Q → SS K s I L A H locs → lv_has ls 3 [(0, .ref o0), (1, .int x1), (2, .int x2)] → W p (cxl K) e (headSpec wsX2_sort (rmF 2 45)).room s m ([.ref o0] : List Value).toArray below meth c H locs 0 0 (MQ below (cxQv K Q) ([.ref o0] : List Value).toArray s 0 0 (PA (cxb K))) (F0 m 12 ls []) := by
    intro C2 hC2 I L A x1 x2 H locs ls hwp hz hl
    obtain ⟨Inv, μ, hi, hst⟩ := hwp
    have key : ∀ (μ : Nat) (I : TI) (L : TL) (A : TA) (x1 : Int32) (x2 : Int32) (H : Heap) (locs : List Loc) (ls : Array Slot), Inv μ I L A x1 x2 → SS K s I L A H locs → lv_has ls 3 [(0, .ref o0), (1, .int x1), (2, .int x2)] → W p (cxl K) e (headSpec wsX2_sort (rmF 2 45)).room s m ([.ref o0] : List Value).toArray below meth c H locs 0 0 (MQ below (cxQv K Q) ([.ref o0] : List Value).toArray s 0 0 (PA (cxb K))) (F0 m 12 ls []) := by
      clear hi hz hl
      intro μ
      induction μ using Nat.strongRecOn with | ind μ ih => ?_
      intro I L A x1 x2 H locs ls hi hz hl
      obtain ⟨C12, hCd⟩ : ∃ C : TI → TL → TA → Int32 → Int32 → Prop, C = fun I L A x1 x2 => ∃ μ', μ' < μ ∧ Inv μ' I L A x1 x2 := ⟨_, rfl⟩
      have hC12 : ∀ (I : TI) (L : TL) (A : TA) (x1 : Int32) (x2 : Int32) (H : Heap) (locs : List Loc) (ls : Array Slot), C12 I L A x1 x2 → SS K s I L A H locs → lv_has ls 3 [(0, .ref o0), (1, .int x1), (2, .int x2)] → W p (cxl K) e (headSpec wsX2_sort (rmF 2 45)).room s m ([.ref o0] : List Value).toArray below meth c H locs 0 0 (MQ below (cxQv K Q) ([.ref o0] : List Value).toArray s 0 0 (PA (cxb K))) (F0 m 12 ls []) := by
        intro I L A x1 x2 H locs ls hc hz hl
        rw [hCd] at hc
        obtain ⟨μ', hlt, hc⟩ := hc
        exact ih μ' hlt I L A x1 x2 H locs ls hc hz hl
      have hwp := hst μ C12 (fun μ' I L A x1 x2 hlt hc => by rw [hCd]; exact ⟨μ', hlt, hc⟩) I L A x1 x2 hi
      refine lv_iload_n hx hb dX2_sort_12 rfl (lv_at hl 2 rfl) ?_
      refine lv_if_le (tgt := 47) hx hb dX2_sort_13 (by decide) (fun q => ?_) (fun q => ?_)
      · have hwp := hwp.1 q
        obtain ⟨v1, q_v1⟩ : ∃ y : Int32, y = x1 + 1 := ⟨_, rfl⟩
        have hwp := hwp v1 q_v1
        refine lv_iinc (v := v1) (lv' := [(1, .int v1), (0, .ref o0), (2, .int x2)]) hx hb dX2_sort_47 hl (k := 1) rfl (by rw [q_v1]; rfl) (by decide) rfl (fun ls hl => ?_)
        refine lv_goto (tgt := 2) hx hb dX2_sort_50 (by decide) ?_
        exact hC2 _ _ _ _ _ _ _ hwp hz (lv_sub hl [1, 0] rfl)
      · have hwp := hwp.2 q
        refine lv_aload_n hx hb dX2_sort_16 rfl (lv_at hl 0 rfl) ?_
        obtain ⟨hs2, hwp⟩ := hwp
        refine sw_get (C := RX2) (T := TX2) (N := 4) (v := .ref (o0 + 1)) hx hb hts hw0 hown hK hz hs2 rfl 0 (by decide) hw1 (fun _ h9 => h9) rfl dX2_sort_17 ?_
        refine lv_iload_n hx hb dX2_sort_20 rfl (lv_at hl 2 rfl) ?_
        obtain ⟨ho3, hwp⟩ := hwp
        refine sw_aald hx hb hK hz ho3 dX2_sort_21 ?_
        refine lv_aload_n hx hb dX2_sort_22 rfl (lv_at hl 0 rfl) ?_
        refine sw_get (C := RX2) (T := TX2) (N := 4) (v := .ref (o0 + 1)) hx hb hts hw0 hown hK hz hs2 rfl 0 (by decide) hw1 (fun _ h9 => h9) rfl dX2_sort_23 ?_
        refine lv_iload_n hx hb dX2_sort_26 rfl (lv_at hl 2 rfl) ?_
        refine lv_iconst (v := 1) hx hb dX2_sort_27 (by decide) ?_
        refine lv_isub hx hb dX2_sort_28 ?_
        obtain ⟨ho4, hwp⟩ := hwp
        refine sw_aald hx hb hK hz ho4 dX2_sort_29 ?_
        obtain ⟨hs5, hwp⟩ := hwp
        obtain ⟨P6, hc7, hwp⟩ := hwp
        refine sw_calli hz (va_runV (As := [.ref (A (o0 + 1) (ix (x2 - 1)))]) (rest := []) ⟨hx, hb, hml, hown, hts⟩ (hc7 hK _) (cwV 1 hts gX2_sort_X4_compareWith rfl rfl rfl (by decide +kernel) ⟨Nat.le_of_ble_eq_true rfl, Nat.le_of_ble_eq_true rfl⟩) (hz.preV hK hs5 rfl) rfl rfl hl.1 rfl (lv_room (Nat.le_of_ble_eq_true rfl)) dX2_sort_30 ⟨Nat.le_of_ble_eq_true rfl, Nat.le_of_ble_eq_true rfl⟩) (fun r11 I8 L9 A10 H locs hp hz => ?_)
        have hwp := hwp r11 I8 L9 A10 hp
        refine lv_if_ge (tgt := 47) hx hb dX2_sort_33 (by decide) (fun q => ?_) (fun q => ?_)
        · have hwp := hwp.1 q
          obtain ⟨v12, q_v12⟩ : ∃ y : Int32, y = x1 + 1 := ⟨_, rfl⟩
          have hwp := hwp v12 q_v12
          refine lv_iinc (v := v12) (lv' := [(1, .int v12), (0, .ref o0), (2, .int x2)]) hx hb dX2_sort_47 hl (k := 1) rfl (by rw [q_v12]; rfl) (by decide) rfl (fun ls hl => ?_)
          refine lv_goto (tgt := 2) hx hb dX2_sort_50 (by decide) ?_
          exact hC2 _ _ _ _ _ _ _ hwp hz (lv_sub hl [1, 0] rfl)
        · have hwp := hwp.2 q
          refine lv_aload_n hx hb dX2_sort_36 rfl (lv_at hl 0 rfl) ?_
          refine lv_iload_n hx hb dX2_sort_37 rfl (lv_at hl 2 rfl) ?_
          obtain ⟨P13, hc14, hwp⟩ := hwp
          refine sw_callv hz (va_runV (As := [.int x2]) (rest := []) ⟨hx, hb, hml, hown, hts⟩ (hc14 hK _) (cwV 1 hts gX2_sort_X2_swapWithPrevious rfl rfl rfl (by decide +kernel) ⟨Nat.le_of_ble_eq_true rfl, Nat.le_of_ble_eq_true rfl⟩) (hz.preV hK hs2 rfl) rfl rfl hl.1 rfl (lv_room (Nat.le_of_ble_eq_true rfl)) dX2_sort_38 ⟨Nat.le_of_ble_eq_true rfl, Nat.le_of_ble_eq_true rfl⟩) (fun I15 L16 A17 H locs hp hz => ?_)
          have hwp := hwp I15 L16 A17 hp
          obtain ⟨v18, q_v18⟩ : ∃ y : Int32, y = x2 + (-1) := ⟨_, rfl⟩
          have hwp := hwp v18 q_v18
          refine lv_iinc (v := v18) (lv' := [(2, .int v18), (0, .ref o0), (1, .int x1)]) hx hb dX2_sort_41 hl (k := 2) rfl (by rw [q_v18]; rfl) (by decide) rfl (fun ls hl => ?_)
          refine lv_goto (tgt := 12) hx hb dX2_sort_44 (by decide) ?_
          exact hC12 _ _ _ _ _ _ _ _ hwp hz (lv_sub hl [1, 2, 0] rfl)
    exact key μ I L A x1 x2 H locs ls hi hz hl
  have wL2 : ∀ (I : TI) (L : TL) (A : TA) (x1 : Int32) (H : Heap) (locs : List Loc) (ls : Array Slot), wp_X2_sort_2 K o0 I L A x1 Q → SS K s I L A H locs → lv_has ls 3 [(0, .ref o0), (1, .int x1)] → W p (cxl K) e (headSpec wsX2_sort (rmF 2 45)).room s m ([.ref o0] : List Value).toArray below meth c H locs 0 0 (MQ below (cxQv K Q) ([.ref o0] : List Value).toArray s 0 0 (PA (cxb K))) (F0 m 2 ls []) := by
    intro I L A x1 H locs ls hwp hz hl
    obtain ⟨Inv, μ, hi, hst⟩ := hwp
    have key : ∀ (μ : Nat) (I : TI) (L : TL) (A : TA) (x1 : Int32) (H : Heap) (locs : List Loc) (ls : Array Slot), Inv μ I L A x1 → SS K s I L A H locs → lv_has ls 3 [(0, .ref o0), (1, .int x1)] → W p (cxl K) e (headSpec wsX2_sort (rmF 2 45)).room s m ([.ref o0] : List Value).toArray below meth c H locs 0 0 (MQ below (cxQv K Q) ([.ref o0] : List Value).toArray s 0 0 (PA (cxb K))) (F0 m 2 ls []) := by
      clear hi hz hl
      intro μ
      induction μ using Nat.strongRecOn with | ind μ ih => ?_
      intro I L A x1 H locs ls hi hz hl
      obtain ⟨C2, hCd⟩ : ∃ C : TI → TL → TA → Int32 → Prop, C = fun I L A x1 => ∃ μ', μ' < μ ∧ Inv μ' I L A x1 := ⟨_, rfl⟩
      have hC2 : ∀ (I : TI) (L : TL) (A : TA) (x1 : Int32) (H : Heap) (locs : List Loc) (ls : Array Slot), C2 I L A x1 → SS K s I L A H locs → lv_has ls 3 [(0, .ref o0), (1, .int x1)] → W p (cxl K) e (headSpec wsX2_sort (rmF 2 45)).room s m ([.ref o0] : List Value).toArray below meth c H locs 0 0 (MQ below (cxQv K Q) ([.ref o0] : List Value).toArray s 0 0 (PA (cxb K))) (F0 m 2 ls []) := by
        intro I L A x1 H locs ls hc hz hl
        rw [hCd] at hc
        obtain ⟨μ', hlt, hc⟩ := hc
        exact ih μ' hlt I L A x1 H locs ls hc hz hl
      have hwp := hst μ C2 (fun μ' I L A x1 hlt hc => by rw [hCd]; exact ⟨μ', hlt, hc⟩) I L A x1 hi
      refine lv_iload_n hx hb dX2_sort_2 rfl (lv_at hl 1 rfl) ?_
      refine lv_aload_n hx hb dX2_sort_3 rfl (lv_at hl 0 rfl) ?_
      obtain ⟨hs19, hwp⟩ := hwp
      refine sw_get (C := RX2) (T := TX2) (N := 4) (v := .int (I o0 2)) hx hb hts hw0 hown hK hz hs19 rfl 2 (by decide) hw2 (fun _ h9 => h9) rfl dX2_sort_4 ?_
      refine lv_icmp_ge (tgt := 53) hx hb dX2_sort_7 (by decide) (fun q => ?_) (fun q => ?_)
      · have hwp := hwp.1 q
        exact sw_vret hx hb hret hlocks hz hwp dX2_sort_53
      · have hwp := hwp.2 q
        refine lv_iload_n hx hb dX2_sort_10 rfl (lv_at hl 1 rfl) ?_
        refine lv_istore_n (lv' := [(2, .int x1), (0, .ref o0), (1, .int x1)]) hx hb dX2_sort_11 rfl hl (by decide) rfl (fun ls hl => ?_)
        exact wL12 _ hC2 _ _ _ _ _ _ _ _ hwp hz (lv_sub hl [1, 2, 0] rfl)
    exact key μ I L A x1 H locs ls hi hz hl
  refine lv_iconst (v := 1) hx hb dX2_sort_0 (by decide) ?_
  refine lv_istore_n (lv' := [(1, .int 1), (0, .ref o0)]) hx hb dX2_sort_1 rfl hl (by decide) rfl (fun ls hl => ?_)
  exact wL2 _ _ _ _ _ _ _ hwp hz (lv_sub hl [1, 0] rfl)

