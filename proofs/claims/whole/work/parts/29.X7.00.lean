def wp_X7_isSlot (K : Cx) (I : TI) (L : TL) (A : TA) (i0 : Int32) (Q : Int32 → TI → TL → TA → Prop) : Prop := ((i0 < 0 → Q 0 I L A) ∧ (¬ i0 < 0 → ((8 ≤ i0 → Q 0 I L A) ∧ (¬ 8 ≤ i0 → Q 1 I L A))))
set_option maxHeartbeats 1000000 in
set_option maxRecDepth 100000 in
theorem w_X7_isSlot (K : Cx) (I : TI) (L : TL) (A : TA) (i0 : Int32) (Q : Int32 → TI → TL → TA → Prop) (hwp : wp_X7_isSlot K I L A i0 Q) : ConI K yX7_isSlot wsX7_isSlot 0 0 I L A [.int i0] Q := by
  intro hK sz
  refine Met.ofW (cc := cX7_isSlot) (maxL := 1) (ret := (some .boolean)) (by decide) rfl ?_
  intro p e s m args below meth c s₁ B hml hv
  obtain ⟨rfl, hsz, hB⟩ := hv
  have hx := B.exec
  have hb := B.bytes
  have hret := B.returns
  have hts := atoms_spec (ws := wsX7_isSlot) B.pre
  have hown : s.vm.findClass RX7 = some m.cls := findClass_of_methodNamed B.named
  have hlocks := B.notSynchronized
  subst hsz
  have hz : SS K s I L A s.heap [] := PS.start hB
  have hl := lv_entry ([.int i0]) (n := 1) (Nat.le_of_ble_eq_true rfl)
  rw [lg_entry_eq]
  generalize (lg_sl ([.int i0]) ++ List.replicate (1 - (lg_sl ([.int i0])).length) Slot.unset).toArray = ls at hl ⊢
  have hl : lv_has ls 1 [(0, .int i0)] := hl
  clear hB B
  refine lv_iload_n hx hb dX7_isSlot_0 rfl (lv_at hl 0 rfl) ?_
  refine lv_if_lt (tgt := 14) hx hb dX7_isSlot_1 (by decide) (fun q => ?_) (fun q => ?_)
  · have hwp := hwp.1 q
    refine lv_iconst (v := 0) hx hb dX7_isSlot_14 (by decide) ?_
    exact sw_zret hx hb hret hlocks hz (Or.inl rfl) hwp dX7_isSlot_15
  · have hwp := hwp.2 q
    refine lv_iload_n hx hb dX7_isSlot_4 rfl (lv_at hl 0 rfl) ?_
    refine lv_bipush (v := 8) hx hb dX7_isSlot_5 (by decide) ?_
    refine lv_icmp_ge (tgt := 14) hx hb dX7_isSlot_7 (by decide) (fun q => ?_) (fun q => ?_)
    · have hwp := hwp.1 q
      refine lv_iconst (v := 0) hx hb dX7_isSlot_14 (by decide) ?_
      exact sw_zret hx hb hret hlocks hz (Or.inl rfl) hwp dX7_isSlot_15
    · have hwp := hwp.2 q
      refine lv_iconst (v := 1) hx hb dX7_isSlot_10 (by decide) ?_
      refine lv_goto (tgt := 15) hx hb dX7_isSlot_11 (by decide) ?_
      exact sw_zret hx hb hret hlocks hz (Or.inr rfl) hwp dX7_isSlot_15

def wp_X7_isIn (K : Cx) (I : TI) (L : TL) (A : TA) (i0 : Int32) (i1 : Int32) (i2 : Int32) (Q : Int32 → TI → TL → TA → Prop) : Prop := ((i0 < i1 → Q 0 I L A) ∧ (¬ i0 < i1 → ((i2 < i0 → Q 0 I L A) ∧ (¬ i2 < i0 → Q 1 I L A))))
set_option maxHeartbeats 1000000 in
set_option maxRecDepth 100000 in
theorem w_X7_isIn (K : Cx) (I : TI) (L : TL) (A : TA) (i0 : Int32) (i1 : Int32) (i2 : Int32) (Q : Int32 → TI → TL → TA → Prop) (hwp : wp_X7_isIn K I L A i0 i1 i2 Q) : ConI K yX7_isIn wsX7_isIn 0 0 I L A [.int i0, .int i1, .int i2] Q := by
  intro hK sz
  refine Met.ofW (cc := cX7_isIn) (maxL := 3) (ret := (some .boolean)) (by decide) rfl ?_
  intro p e s m args below meth c s₁ B hml hv
  obtain ⟨rfl, hsz, hB⟩ := hv
  have hx := B.exec
  have hb := B.bytes
  have hret := B.returns
  have hts := atoms_spec (ws := wsX7_isIn) B.pre
  have hown : s.vm.findClass RX7 = some m.cls := findClass_of_methodNamed B.named
  have hlocks := B.notSynchronized
  subst hsz
  have hz : SS K s I L A s.heap [] := PS.start hB
  have hl := lv_entry ([.int i0, .int i1, .int i2]) (n := 3) (Nat.le_of_ble_eq_true rfl)
  rw [lg_entry_eq]
  generalize (lg_sl ([.int i0, .int i1, .int i2]) ++ List.replicate (3 - (lg_sl ([.int i0, .int i1, .int i2])).length) Slot.unset).toArray = ls at hl ⊢
  have hl : lv_has ls 3 [(0, .int i0), (1, .int i1), (2, .int i2)] := hl
  clear hB B
  refine lv_iload_n hx hb dX7_isIn_0 rfl (lv_at hl 0 rfl) ?_
  refine lv_iload_n hx hb dX7_isIn_1 rfl (lv_at hl 1 rfl) ?_
  refine lv_icmp_lt (tgt := 14) hx hb dX7_isIn_2 (by decide) (fun q => ?_) (fun q => ?_)
  · have hwp := hwp.1 q
    refine lv_iconst (v := 0) hx hb dX7_isIn_14 (by decide) ?_
    exact sw_zret hx hb hret hlocks hz (Or.inl rfl) hwp dX7_isIn_15
  · have hwp := hwp.2 q
    refine lv_iload_n hx hb dX7_isIn_5 rfl (lv_at hl 0 rfl) ?_
    refine lv_iload_n hx hb dX7_isIn_6 rfl (lv_at hl 2 rfl) ?_
    refine lv_icmp_gt (tgt := 14) hx hb dX7_isIn_7 (by decide) (fun q => ?_) (fun q => ?_)
    · have hwp := hwp.1 q
      refine lv_iconst (v := 0) hx hb dX7_isIn_14 (by decide) ?_
      exact sw_zret hx hb hret hlocks hz (Or.inl rfl) hwp dX7_isIn_15
    · have hwp := hwp.2 q
      refine lv_iconst (v := 1) hx hb dX7_isIn_10 (by decide) ?_
      refine lv_goto (tgt := 15) hx hb dX7_isIn_11 (by decide) ?_
      exact sw_zret hx hb hret hlocks hz (Or.inr rfl) hwp dX7_isIn_15

def wp_X7_refused (K : Cx) (I : TI) (L : TL) (A : TA) (o0 : Nat) (i1 : Int32) (Q : Int32 → TI → TL → TA → Prop) : Prop := cxS K o0 = shX7 o0 ∧ ∀ I2 : TI, I2 = u2 I o0 0 i1 → ((i1 ≤ 0 → Q 0 I2 L A) ∧ (¬ i1 ≤ 0 → Q 1 I2 L A))
set_option maxHeartbeats 1000000 in
set_option maxRecDepth 100000 in
theorem w_X7_refused (K : Cx) (I : TI) (L : TL) (A : TA) (o0 : Nat) (i1 : Int32) (Q : Int32 → TI → TL → TA → Prop) (hwp : wp_X7_refused K I L A o0 i1 Q) : ConI K yX7_refused wsX7_refused 0 0 I L A [.ref o0, .int i1] Q := by
  intro hK sz
  refine Met.ofW (cc := cX7_refused) (maxL := 2) (ret := (some .boolean)) (by decide) rfl ?_
  intro p e s m args below meth c s₁ B hml hv
  obtain ⟨rfl, hsz, hB⟩ := hv
  have hx := B.exec
  have hb := B.bytes
  have hret := B.returns
  have hts := atoms_spec (ws := wsX7_refused) B.pre
  have hown : s.vm.findClass RX7 = some m.cls := findClass_of_methodNamed B.named
  have hlocks := B.notSynchronized
  subst hsz
  have hz : SS K s I L A s.heap [] := PS.start hB
  have hl := lv_entry ([.ref o0, .int i1]) (n := 2) (Nat.le_of_ble_eq_true rfl)
  rw [lg_entry_eq]
  generalize (lg_sl ([.ref o0, .int i1]) ++ List.replicate (2 - (lg_sl ([.ref o0, .int i1])).length) Slot.unset).toArray = ls at hl ⊢
  have hl : lv_has ls 2 [(0, .ref o0), (1, .int i1)] := hl
  have hw0 : ∀ w ∈ u_ws RX7 TX7 25, w ∈ wsX7_refused := by decide +kernel
  have hw1 := hts (.fieldLink RX7 35 "GaloisDeskModel" "refusal" "I") (by decide +kernel)
  clear hB B
  refine lv_aload_n hx hb dX7_refused_0 rfl (lv_at hl 0 rfl) ?_
  refine lv_iload_n hx hb dX7_refused_1 rfl (lv_at hl 1 rfl) ?_
  obtain ⟨hs1, hwp⟩ := hwp
  refine sw_putI (C := RX7) (T := TX7) (N := 25) hx hb hts hw0 tyX7 tyX7_ok nmX7 hown hK hz hs1 rfl 0 (by decide) hw1 (fun _ h9 => h9) rfl (by decide +kernel) rfl dX7_refused_2 (fun H locs I2 e_I2 hz => ?_)
  have hwp := hwp I2 e_I2
  refine lv_iload_n hx hb dX7_refused_5 rfl (lv_at hl 1 rfl) ?_
  refine lv_if_le (tgt := 13) hx hb dX7_refused_6 (by decide) (fun q => ?_) (fun q => ?_)
  · have hwp := hwp.1 q
    refine lv_iconst (v := 0) hx hb dX7_refused_13 (by decide) ?_
    exact sw_zret hx hb hret hlocks hz (Or.inl rfl) hwp dX7_refused_14
  · have hwp := hwp.2 q
    refine lv_iconst (v := 1) hx hb dX7_refused_9 (by decide) ?_
    refine lv_goto (tgt := 14) hx hb dX7_refused_10 (by decide) ?_
    exact sw_zret hx hb hret hlocks hz (Or.inr rfl) hwp dX7_refused_14

def wp_X7_copy_2 (K : Cx) (o0 : Nat) (i1 : Int32) (i2 : Int32) (I : TI) (L : TL) (A : TA) (x3 : Int32) (Q : TI → TL → TA → Prop) : Prop := ∃ (Inv : Nat → TI → TL → TA → Int32 → Prop) (μ : Nat), Inv μ I L A x3 ∧ ∀ (μ : Nat) (C2 : TI → TL → TA → Int32 → Prop), (∀ (μ' : Nat) (I : TI) (L : TL) (A : TA) (x3 : Int32) , μ' < μ → Inv μ' I L A x3 → C2 I L A x3) → ∀ (I : TI) (L : TL) (A : TA) (x3 : Int32) , Inv μ I L A x3 → ((8 ≤ x3 → Q I L A) ∧ (¬ 8 ≤ x3 → cxS K o0 = shX7 o0 ∧ aok (cxS K) (o0 + 1) 1 ((8 * i2) + x3) ∧ aok (cxS K) (o0 + 1) 1 ((8 * i1) + x3) ∧ ∀ L4 : TL, L4 = u2 L (o0 + 1) (ix ((8 * i1) + x3)) (L (o0 + 1) (ix ((8 * i2) + x3))) → ∀ v5 : Int32, v5 = x3 + 1 → C2 I L4 A v5))
def wp_X7_copy (K : Cx) (I : TI) (L : TL) (A : TA) (o0 : Nat) (i1 : Int32) (i2 : Int32) (Q : TI → TL → TA → Prop) : Prop := wp_X7_copy_2 K o0 i1 i2 I L A 0 Q
set_option maxHeartbeats 1000000 in
set_option maxRecDepth 100000 in
theorem w_X7_copy (K : Cx) (I : TI) (L : TL) (A : TA) (o0 : Nat) (i1 : Int32) (i2 : Int32) (Q : TI → TL → TA → Prop) (hwp : wp_X7_copy K I L A o0 i1 i2 Q) : ConV K yX7_copy wsX7_copy 0 0 I L A [.ref o0, .int i1, .int i2] Q := by
  intro hK sz
  refine Met.ofW (cc := cX7_copy) (maxL := 4) (ret := none) (by decide) rfl ?_
  intro p e s m args below meth c s₁ B hml hv
  obtain ⟨rfl, hsz, hB⟩ := hv
  have hx := B.exec
  have hb := B.bytes
  have hret := B.returns
  have hts := atoms_spec (ws := wsX7_copy) B.pre
  have hown : s.vm.findClass RX7 = some m.cls := findClass_of_methodNamed B.named
  have hlocks := B.notSynchronized
  subst hsz
  have hz : SS K s I L A s.heap [] := PS.start hB
  have hl := lv_entry ([.ref o0, .int i1, .int i2]) (n := 4) (Nat.le_of_ble_eq_true rfl)
  rw [lg_entry_eq]
  generalize (lg_sl ([.ref o0, .int i1, .int i2]) ++ List.replicate (4 - (lg_sl ([.ref o0, .int i1, .int i2])).length) Slot.unset).toArray = ls at hl ⊢
  have hl : lv_has ls 4 [(0, .ref o0), (1, .int i1), (2, .int i2)] := hl
  have hw0 : ∀ w ∈ u_ws RX7 TX7 25, w ∈ wsX7_copy := by decide +kernel
  have hw1 := hts (.fieldLink RX7 7 "GaloisDeskModel" "row" "[J") (by decide +kernel)
  clear hB B
  have wL2 : ∀ (I : TI) (L : TL) (A : TA) (x3 : Int32) (H : Heap) (locs : List Loc) (ls : Array Slot), wp_X7_copy_2 K o0 i1 i2 I L A x3 Q → SS K s I L A H locs → lv_has ls 4 [(0, .ref o0), (1, .int i1), (2, .int i2), (3, .int x3)] → W p (cxl K) e (headSpec wsX7_copy (rmF 0 0)).room s m ([.ref o0, .int i1, .int i2] : List Value).toArray below meth c H locs 0 0 (MQ below (cxQv K Q) ([.ref o0, .int i1, .int i2] : List Value).toArray s 0 0 (PA (cxb K))) (F0 m 2 ls []) := by
    intro I L A x3 H locs ls hwp hz hl
    obtain ⟨Inv, μ, hi, hst⟩ := hwp
    have key : ∀ (μ : Nat) (I : TI) (L : TL) (A : TA) (x3 : Int32) (H : Heap) (locs : List Loc) (ls : Array Slot), Inv μ I L A x3 → SS K s I L A H locs → lv_has ls 4 [(0, .ref o0), (1, .int i1), (2, .int i2), (3, .int x3)] → W p (cxl K) e (headSpec wsX7_copy (rmF 0 0)).room s m ([.ref o0, .int i1, .int i2] : List Value).toArray below meth c H locs 0 0 (MQ below (cxQv K Q) ([.ref o0, .int i1, .int i2] : List Value).toArray s 0 0 (PA (cxb K))) (F0 m 2 ls []) := by
      clear hi hz hl
      intro μ
      induction μ using Nat.strongRecOn with | ind μ ih => ?_
      intro I L A x3 H locs ls hi hz hl
      obtain ⟨C2, hCd⟩ : ∃ C : TI → TL → TA → Int32 → Prop, C = fun I L A x3 => ∃ μ', μ' < μ ∧ Inv μ' I L A x3 := ⟨_, rfl⟩
      have hC2 : ∀ (I : TI) (L : TL) (A : TA) (x3 : Int32) (H : Heap) (locs : List Loc) (ls : Array Slot), C2 I L A x3 → SS K s I L A H locs → lv_has ls 4 [(0, .ref o0), (1, .int i1), (2, .int i2), (3, .int x3)] → W p (cxl K) e (headSpec wsX7_copy (rmF 0 0)).room s m ([.ref o0, .int i1, .int i2] : List Value).toArray below meth c H locs 0 0 (MQ below (cxQv K Q) ([.ref o0, .int i1, .int i2] : List Value).toArray s 0 0 (PA (cxb K))) (F0 m 2 ls []) := by
        intro I L A x3 H locs ls hc hz hl
        rw [hCd] at hc
        obtain ⟨μ', hlt, hc⟩ := hc
        exact ih μ' hlt I L A x3 H locs ls hc hz hl
      have hwp := hst μ C2 (fun μ' I L A x3 hlt hc => by rw [hCd]; exact ⟨μ', hlt, hc⟩) I L A x3 hi
      refine lv_iload_n hx hb dX7_copy_2 rfl (lv_at hl 3 rfl) ?_
      refine lv_bipush (v := 8) hx hb dX7_copy_3 (by decide) ?_
      refine lv_icmp_ge (tgt := 36) hx hb dX7_copy_5 (by decide) (fun q => ?_) (fun q => ?_)
      · have hwp := hwp.1 q
        exact sw_vret hx hb hret hlocks hz hwp dX7_copy_36
      · have hwp := hwp.2 q
        refine lv_aload_n hx hb dX7_copy_8 rfl (lv_at hl 0 rfl) ?_
        obtain ⟨hs1, hwp⟩ := hwp
        refine sw_get (C := RX7) (T := TX7) (N := 25) (v := .ref (o0 + 1)) hx hb hts hw0 hown hK hz hs1 rfl 1 (by decide) hw1 (fun _ h9 => h9) rfl dX7_copy_9 ?_
        refine lv_bipush (v := 8) hx hb dX7_copy_12 (by decide) ?_
        refine lv_iload_n hx hb dX7_copy_14 rfl (lv_at hl 1 rfl) ?_
        refine lv_imul hx hb dX7_copy_15 ?_
        refine lv_iload_n hx hb dX7_copy_16 rfl (lv_at hl 3 rfl) ?_
        refine lv_iadd hx hb dX7_copy_17 ?_
        refine lv_aload_n hx hb dX7_copy_18 rfl (lv_at hl 0 rfl) ?_
        refine sw_get (C := RX7) (T := TX7) (N := 25) (v := .ref (o0 + 1)) hx hb hts hw0 hown hK hz hs1 rfl 1 (by decide) hw1 (fun _ h9 => h9) rfl dX7_copy_19 ?_
        refine lv_bipush (v := 8) hx hb dX7_copy_22 (by decide) ?_
        refine lv_iload_n hx hb dX7_copy_24 rfl (lv_at hl 2 rfl) ?_
        refine lv_imul hx hb dX7_copy_25 ?_
        refine lv_iload_n hx hb dX7_copy_26 rfl (lv_at hl 3 rfl) ?_
        refine lv_iadd hx hb dX7_copy_27 ?_
        obtain ⟨ho2, hwp⟩ := hwp
        refine sw_lald hx hb hK hz ho2 dX7_copy_28 ?_
        obtain ⟨ho3, hwp⟩ := hwp
        refine sw_last hx hb hK hz ho3 dX7_copy_29 (fun H locs L4 e_L4 hz => ?_)
        have hwp := hwp L4 e_L4
        obtain ⟨v5, q_v5⟩ : ∃ y : Int32, y = x3 + 1 := ⟨_, rfl⟩
        have hwp := hwp v5 q_v5
        refine lv_iinc (v := v5) (lv' := [(3, .int v5), (0, .ref o0), (1, .int i1), (2, .int i2)]) hx hb dX7_copy_30 hl (k := 3) rfl (by rw [q_v5]; rfl) (by decide) rfl (fun ls hl => ?_)
        refine lv_goto (tgt := 2) hx hb dX7_copy_33 (by decide) ?_
        exact hC2 _ _ _ _ _ _ _ hwp hz (lv_sub hl [1, 2, 3, 0] rfl)
    exact key μ I L A x3 H locs ls hi hz hl
  refine lv_iconst (v := 0) hx hb dX7_copy_0 (by decide) ?_
  refine lv_istore_n (lv' := [(3, .int 0), (0, .ref o0), (1, .int i1), (2, .int i2)]) hx hb dX7_copy_1 rfl hl (by decide) rfl (fun ls hl => ?_)
  exact wL2 _ _ _ _ _ _ _ hwp hz (lv_sub hl [1, 2, 3, 0] rfl)

def wp_X7_degreeOf_3 (K : Cx) (o0 : Nat) (i1 : Int32) (I : TI) (L : TL) (A : TA) (x2 : Int32) (Q : Int32 → TI → TL → TA → Prop) : Prop := ∃ (Inv : Nat → TI → TL → TA → Int32 → Prop) (μ : Nat), Inv μ I L A x2 ∧ ∀ (μ : Nat) (C3 : TI → TL → TA → Int32 → Prop), (∀ (μ' : Nat) (I : TI) (L : TL) (A : TA) (x2 : Int32) , μ' < μ → Inv μ' I L A x2 → C3 I L A x2) → ∀ (I : TI) (L : TL) (A : TA) (x2 : Int32) , Inv μ I L A x2 → ((x2 < 0 → Q x2 I L A) ∧ (¬ x2 < 0 → cxS K o0 = shX7 o0 ∧ aok (cxS K) (o0 + 1) 1 ((8 * i1) + x2) ∧ (((L (o0 + 1) (ix ((8 * i1) + x2))) = 0 → ∀ v3 : Int32, v3 = x2 + (-1) → C3 I L A v3) ∧ (¬ (L (o0 + 1) (ix ((8 * i1) + x2))) = 0 → Q x2 I L A))))
def wp_X7_degreeOf (K : Cx) (I : TI) (L : TL) (A : TA) (o0 : Nat) (i1 : Int32) (Q : Int32 → TI → TL → TA → Prop) : Prop := wp_X7_degreeOf_3 K o0 i1 I L A 7 Q
set_option maxHeartbeats 1000000 in
set_option maxRecDepth 100000 in
theorem w_X7_degreeOf (K : Cx) (I : TI) (L : TL) (A : TA) (o0 : Nat) (i1 : Int32) (Q : Int32 → TI → TL → TA → Prop) (hwp : wp_X7_degreeOf K I L A o0 i1 Q) : ConI K yX7_degreeOf wsX7_degreeOf 0 0 I L A [.ref o0, .int i1] Q := by
  intro hK sz
  refine Met.ofW (cc := cX7_degreeOf) (maxL := 3) (ret := (some .int)) (by decide) rfl ?_
  intro p e s m args below meth c s₁ B hml hv
  obtain ⟨rfl, hsz, hB⟩ := hv
  have hx := B.exec
  have hb := B.bytes
  have hret := B.returns
  have hts := atoms_spec (ws := wsX7_degreeOf) B.pre
  have hown : s.vm.findClass RX7 = some m.cls := findClass_of_methodNamed B.named
  have hlocks := B.notSynchronized
  subst hsz
  have hz : SS K s I L A s.heap [] := PS.start hB
  have hl := lv_entry ([.ref o0, .int i1]) (n := 3) (Nat.le_of_ble_eq_true rfl)
  rw [lg_entry_eq]
  generalize (lg_sl ([.ref o0, .int i1]) ++ List.replicate (3 - (lg_sl ([.ref o0, .int i1])).length) Slot.unset).toArray = ls at hl ⊢
  have hl : lv_has ls 3 [(0, .ref o0), (1, .int i1)] := hl
  have hw0 : ∀ w ∈ u_ws RX7 TX7 25, w ∈ wsX7_degreeOf := by decide +kernel
  have hw1 := hts (.fieldLink RX7 7 "GaloisDeskModel" "row" "[J") (by decide +kernel)
  clear hB B
  have wL3 : ∀ (I : TI) (L : TL) (A : TA) (x2 : Int32) (H : Heap) (locs : List Loc) (ls : Array Slot), wp_X7_degreeOf_3 K o0 i1 I L A x2 Q → SS K s I L A H locs → lv_has ls 3 [(0, .ref o0), (1, .int i1), (2, .int x2)] → W p (cxl K) e (headSpec wsX7_degreeOf (rmF 0 0)).room s m ([.ref o0, .int i1] : List Value).toArray below meth c H locs 0 0 (MQ below (cxQi K Q) ([.ref o0, .int i1] : List Value).toArray s 0 0 (PA (cxb K))) (F0 m 3 ls []) := by
    intro I L A x2 H locs ls hwp hz hl
    obtain ⟨Inv, μ, hi, hst⟩ := hwp
    have key : ∀ (μ : Nat) (I : TI) (L : TL) (A : TA) (x2 : Int32) (H : Heap) (locs : List Loc) (ls : Array Slot), Inv μ I L A x2 → SS K s I L A H locs → lv_has ls 3 [(0, .ref o0), (1, .int i1), (2, .int x2)] → W p (cxl K) e (headSpec wsX7_degreeOf (rmF 0 0)).room s m ([.ref o0, .int i1] : List Value).toArray below meth c H locs 0 0 (MQ below (cxQi K Q) ([.ref o0, .int i1] : List Value).toArray s 0 0 (PA (cxb K))) (F0 m 3 ls []) := by
      clear hi hz hl
      intro μ
      induction μ using Nat.strongRecOn with | ind μ ih => ?_
      intro I L A x2 H locs ls hi hz hl
      obtain ⟨C3, hCd⟩ : ∃ C : TI → TL → TA → Int32 → Prop, C = fun I L A x2 => ∃ μ', μ' < μ ∧ Inv μ' I L A x2 := ⟨_, rfl⟩
      have hC3 : ∀ (I : TI) (L : TL) (A : TA) (x2 : Int32) (H : Heap) (locs : List Loc) (ls : Array Slot), C3 I L A x2 → SS K s I L A H locs → lv_has ls 3 [(0, .ref o0), (1, .int i1), (2, .int x2)] → W p (cxl K) e (headSpec wsX7_degreeOf (rmF 0 0)).room s m ([.ref o0, .int i1] : List Value).toArray below meth c H locs 0 0 (MQ below (cxQi K Q) ([.ref o0, .int i1] : List Value).toArray s 0 0 (PA (cxb K))) (F0 m 3 ls []) := by
        intro I L A x2 H locs ls hc hz hl
        rw [hCd] at hc
        obtain ⟨μ', hlt, hc⟩ := hc
        exact ih μ' hlt I L A x2 H locs ls hc hz hl
      have hwp := hst μ C3 (fun μ' I L A x2 hlt hc => by rw [hCd]; exact ⟨μ', hlt, hc⟩) I L A x2 hi
      refine lv_iload_n hx hb dX7_degreeOf_3 rfl (lv_at hl 2 rfl) ?_
      refine lv_if_lt (tgt := 29) hx hb dX7_degreeOf_4 (by decide) (fun q => ?_) (fun q => ?_)
      · have hwp := hwp.1 q
        refine lv_iload_n hx hb dX7_degreeOf_29 rfl (lv_at hl 2 rfl) ?_
        exact sw_iret hx hb hret hlocks hz hwp dX7_degreeOf_30
      · have hwp := hwp.2 q
        refine lv_aload_n hx hb dX7_degreeOf_7 rfl (lv_at hl 0 rfl) ?_
        obtain ⟨hs1, hwp⟩ := hwp
        refine sw_get (C := RX7) (T := TX7) (N := 25) (v := .ref (o0 + 1)) hx hb hts hw0 hown hK hz hs1 rfl 1 (by decide) hw1 (fun _ h9 => h9) rfl dX7_degreeOf_8 ?_
        refine lv_bipush (v := 8) hx hb dX7_degreeOf_11 (by decide) ?_
        refine lv_iload_n hx hb dX7_degreeOf_13 rfl (lv_at hl 1 rfl) ?_
        refine lv_imul hx hb dX7_degreeOf_14 ?_
        refine lv_iload_n hx hb dX7_degreeOf_15 rfl (lv_at hl 2 rfl) ?_
        refine lv_iadd hx hb dX7_degreeOf_16 ?_
        obtain ⟨ho2, hwp⟩ := hwp
        refine sw_lald hx hb hK hz ho2 dX7_degreeOf_17 ?_
        refine lv_lconst (v := 0) hx hb dX7_degreeOf_18 (by decide) ?_
        refine W.lcmp hx hb dX7_degreeOf_19 ?_
        refine W.eq (g2 := F0 m 20 ls [.int (lg_cmp (L (o0 + 1) (ix ((8 * i1) + x2))) 0)]) rfl ?_
        refine lv_if_ne (tgt := 29) hx hb dX7_degreeOf_20 (by decide) (fun q => ?_) (fun q => ?_)
        · have hwp := hwp.2 (fun h => q ((lg_cmp_eq _ _).mpr h))
          refine lv_iload_n hx hb dX7_degreeOf_29 rfl (lv_at hl 2 rfl) ?_
          exact sw_iret hx hb hret hlocks hz hwp dX7_degreeOf_30
        · have hwp := hwp.1 ((lg_cmp_eq _ _).mp q)
          obtain ⟨v3, q_v3⟩ : ∃ y : Int32, y = x2 + (-1) := ⟨_, rfl⟩
          have hwp := hwp v3 q_v3
          refine lv_iinc (v := v3) (lv' := [(2, .int v3), (0, .ref o0), (1, .int i1)]) hx hb dX7_degreeOf_23 hl (k := 2) rfl (by rw [q_v3]; rfl) (by decide) rfl (fun ls hl => ?_)
          refine lv_goto (tgt := 3) hx hb dX7_degreeOf_26 (by decide) ?_
          exact hC3 _ _ _ _ _ _ _ hwp hz (lv_sub hl [1, 2, 0] rfl)
    exact key μ I L A x2 H locs ls hi hz hl
  refine lv_bipush (v := 7) hx hb dX7_degreeOf_0 (by decide) ?_
  refine lv_istore_n (lv' := [(2, .int 7), (0, .ref o0), (1, .int i1)]) hx hb dX7_degreeOf_2 rfl hl (by decide) rfl (fun ls hl => ?_)
  exact wL3 _ _ _ _ _ _ _ hwp hz (lv_sub hl [1, 2, 0] rfl)

def wp_X7_finish_20 (K : Cx) (o0 : Nat) (i1 : Int32) (I : TI) (L : TL) (A : TA) (x2 : Int32) (x3 : Int32) (Q : Int32 → TI → TL → TA → Prop) : Prop := ∃ (Inv : Nat → TI → TL → TA → Int32 → Int32 → Prop) (μ : Nat), Inv μ I L A x2 x3 ∧ ∀ (μ : Nat) (C20 : TI → TL → TA → Int32 → Int32 → Prop), (∀ (μ' : Nat) (I : TI) (L : TL) (A : TA) (x2 : Int32) (x3 : Int32) , μ' < μ → Inv μ' I L A x2 x3 → C20 I L A x2 x3) → ∀ (I : TI) (L : TL) (A : TA) (x2 : Int32) (x3 : Int32) , Inv μ I L A x2 x3 → ((7 ≤ x3 → ((x2 = 0 → Q (-2) I L A) ∧ (¬ x2 = 0 → cxS K o0 = shX7 o0 ∧ ∃ P2 : TI → TL → TA → Prop, ConV K yX7_copy wsX7_copy 0 0 I L A [.ref o0, .int i1, .int 8] P2 ∧ ∀ (I4 : TI) (L5 : TL) (A6 : TA), P2 I4 L5 A6 → ∃ P7 : Int32 → TI → TL → TA → Prop, ConI K yX7_degreeOf wsX7_degreeOf 0 0 I4 L5 A6 [.ref o0, .int i1] P7 ∧ ∀ (r12 : Int32) (I9 : TI) (L10 : TL) (A11 : TA), P7 r12 I9 L10 A11 → Q r12 I9 L10 A11))) ∧ (¬ 7 ≤ x3 → ((x2 = 0 → ∀ v13 : Int32, v13 = x3 + 1 → C20 I L A 0 v13) ∧ (¬ x2 = 0 → cxS K o0 = shX7 o0 ∧ aok (cxS K) (o0 + 1) 1 (64 + x3) ∧ ((300 < (L (o0 + 1) (ix (64 + x3))) → ∀ v16 : Int32, v16 = x3 + 1 → C20 I L A 0 v16) ∧ (¬ 300 < (L (o0 + 1) (ix (64 + x3))) → aok (cxS K) (o0 + 1) 1 (64 + x3) ∧ (((L (o0 + 1) (ix (64 + x3))) < (-300) → ∀ v18 : Int32, v18 = x3 + 1 → C20 I L A 0 v18) ∧ (¬ (L (o0 + 1) (ix (64 + x3))) < (-300) → ∀ v19 : Int32, v19 = x3 + 1 → C20 I L A 1 v19))))))))
def wp_X7_finish (K : Cx) (I : TI) (L : TL) (A : TA) (o0 : Nat) (i1 : Int32) (Q : Int32 → TI → TL → TA → Prop) : Prop := cxS K o0 = shX7 o0 ∧ aok (cxS K) (o0 + 1) 1 71 ∧ (((L (o0 + 1) (ix 71)) = 0 → wp_X7_finish_20 K o0 i1 I L A 1 0 Q) ∧ (¬ (L (o0 + 1) (ix 71)) = 0 → wp_X7_finish_20 K o0 i1 I L A 0 0 Q))
set_option maxHeartbeats 1000000 in
set_option maxRecDepth 100000 in
theorem w_X7_finish (K : Cx) (I : TI) (L : TL) (A : TA) (o0 : Nat) (i1 : Int32) (Q : Int32 → TI → TL → TA → Prop) (hwp : wp_X7_finish K I L A o0 i1 Q) : ConI K yX7_finish wsX7_finish 1 23 I L A [.ref o0, .int i1] Q := by
  intro hK sz
  refine Met.ofW (cc := cX7_finish) (maxL := 4) (ret := (some .int)) (by decide) rfl ?_
  intro p e s m args below meth c s₁ B hml hv
  obtain ⟨rfl, hsz, hB⟩ := hv
  have hx := B.exec
  have hb := B.bytes
  have hret := B.returns
  have hts := atoms_spec (ws := wsX7_finish) B.pre
  have hown : s.vm.findClass RX7 = some m.cls := findClass_of_methodNamed B.named
  have hlocks := B.notSynchronized
  subst hsz
  have hz : SS K s I L A s.heap [] := PS.start hB
  have hl := lv_entry ([.ref o0, .int i1]) (n := 4) (Nat.le_of_ble_eq_true rfl)
  rw [lg_entry_eq]
  generalize (lg_sl ([.ref o0, .int i1]) ++ List.replicate (4 - (lg_sl ([.ref o0, .int i1])).length) Slot.unset).toArray = ls at hl ⊢
  have hl : lv_has ls 4 [(0, .ref o0), (1, .int i1)] := hl
  have hw0 : ∀ w ∈ u_ws RX7 TX7 25, w ∈ wsX7_finish := by decide +kernel
  have hw1 := hts (.fieldLink RX7 7 "GaloisDeskModel" "row" "[J") (by decide +kernel)
  have hw2 := hts (.constantLong RX7 43 (300)) (by decide +kernel)
  have hw3 := hts (.constantLong RX7 45 (-300)) (by decide +kernel)
  clear hB B
  have wL20 : ∀ (I : TI) (L : TL) (A : TA) (x2 : Int32) (x3 : Int32) (H : Heap) (locs : List Loc) (ls : Array Slot), wp_X7_finish_20 K o0 i1 I L A x2 x3 Q → SS K s I L A H locs → lv_has ls 4 [(0, .ref o0), (1, .int i1), (2, .int x2), (3, .int x3)] → W p (cxl K) e (headSpec wsX7_finish (rmF 1 23)).room s m ([.ref o0, .int i1] : List Value).toArray below meth c H locs 0 0 (MQ below (cxQi K Q) ([.ref o0, .int i1] : List Value).toArray s 0 0 (PA (cxb K))) (F0 m 20 ls []) := by
    intro I L A x2 x3 H locs ls hwp hz hl
    obtain ⟨Inv, μ, hi, hst⟩ := hwp
    have key : ∀ (μ : Nat) (I : TI) (L : TL) (A : TA) (x2 : Int32) (x3 : Int32) (H : Heap) (locs : List Loc) (ls : Array Slot), Inv μ I L A x2 x3 → SS K s I L A H locs → lv_has ls 4 [(0, .ref o0), (1, .int i1), (2, .int x2), (3, .int x3)] → W p (cxl K) e (headSpec wsX7_finish (rmF 1 23)).room s m ([.ref o0, .int i1] : List Value).toArray below meth c H locs 0 0 (MQ below (cxQi K Q) ([.ref o0, .int i1] : List Value).toArray s 0 0 (PA (cxb K))) (F0 m 20 ls []) := by
      clear hi hz hl
      intro μ
      induction μ using Nat.strongRecOn with | ind μ ih => ?_
      intro I L A x2 x3 H locs ls hi hz hl
      obtain ⟨C20, hCd⟩ : ∃ C : TI → TL → TA → Int32 → Int32 → Prop, C = fun I L A x2 x3 => ∃ μ', μ' < μ ∧ Inv μ' I L A x2 x3 := ⟨_, rfl⟩
      have hC20 : ∀ (I : TI) (L : TL) (A : TA) (x2 : Int32) (x3 : Int32) (H : Heap) (locs : List Loc) (ls : Array Slot), C20 I L A x2 x3 → SS K s I L A H locs → lv_has ls 4 [(0, .ref o0), (1, .int i1), (2, .int x2), (3, .int x3)] → W p (cxl K) e (headSpec wsX7_finish (rmF 1 23)).room s m ([.ref o0, .int i1] : List Value).toArray below meth c H locs 0 0 (MQ below (cxQi K Q) ([.ref o0, .int i1] : List Value).toArray s 0 0 (PA (cxb K))) (F0 m 20 ls []) := by
        intro I L A x2 x3 H locs ls hc hz hl
        rw [hCd] at hc
        obtain ⟨μ', hlt, hc⟩ := hc
        exact ih μ' hlt I L A x2 x3 H locs ls hc hz hl
      have hwp := hst μ C20 (fun μ' I L A x2 x3 hlt hc => by rw [hCd]; exact ⟨μ', hlt, hc⟩) I L A x2 x3 hi
      refine lv_iload_n hx hb dX7_finish_20 rfl (lv_at hl 3 rfl) ?_
      refine lv_bipush (v := 7) hx hb dX7_finish_21 (by decide) ?_
      refine lv_icmp_ge (tgt := 74) hx hb dX7_finish_23 (by decide) (fun q => ?_) (fun q => ?_)
      · have hwp := hwp.1 q
        refine lv_iload_n hx hb dX7_finish_74 rfl (lv_at hl 2 rfl) ?_
        refine lv_if_ne (tgt := 81) hx hb dX7_finish_75 (by decide) (fun q => ?_) (fun q => ?_)
        · have hwp := hwp.2 q
          refine lv_aload_n hx hb dX7_finish_81 rfl (lv_at hl 0 rfl) ?_
          refine lv_iload_n hx hb dX7_finish_82 rfl (lv_at hl 1 rfl) ?_
          refine lv_bipush (v := 8) hx hb dX7_finish_83 (by decide) ?_
          obtain ⟨hs1, hwp⟩ := hwp
          obtain ⟨P2, hc3, hwp⟩ := hwp
          refine sw_callv hz (va_runV (As := [.int i1, .int 8]) (rest := []) ⟨hx, hb, hml, hown, hts⟩ (hc3 hK _) (cwV 2 hts gX7_finish_X7_copy rfl rfl rfl (by decide +kernel) ⟨Nat.le_of_ble_eq_true rfl, Nat.le_of_ble_eq_true rfl⟩) (hz.preV hK hs1 rfl) rfl rfl hl.1 rfl (lv_room (Nat.le_of_ble_eq_true rfl)) dX7_finish_85 ⟨Nat.le_of_ble_eq_true rfl, Nat.le_of_ble_eq_true rfl⟩) (fun I4 L5 A6 H locs hp hz => ?_)
          have hwp := hwp I4 L5 A6 hp
          refine lv_aload_n hx hb dX7_finish_88 rfl (lv_at hl 0 rfl) ?_
          refine lv_iload_n hx hb dX7_finish_89 rfl (lv_at hl 1 rfl) ?_
          obtain ⟨P7, hc8, hwp⟩ := hwp
          refine sw_calli hz (va_runV (As := [.int i1]) (rest := []) ⟨hx, hb, hml, hown, hts⟩ (hc8 hK _) (cwV 1 hts gX7_finish_X7_degreeOf rfl rfl rfl (by decide +kernel) ⟨Nat.le_of_ble_eq_true rfl, Nat.le_of_ble_eq_true rfl⟩) (hz.preV hK hs1 rfl) rfl rfl hl.1 rfl (lv_room (Nat.le_of_ble_eq_true rfl)) dX7_finish_90 ⟨Nat.le_of_ble_eq_true rfl, Nat.le_of_ble_eq_true rfl⟩) (fun r12 I9 L10 A11 H locs hp hz => ?_)
          have hwp := hwp r12 I9 L10 A11 hp
          exact sw_iret hx hb hret hlocks hz hwp dX7_finish_93
        · have hwp := hwp.1 q
          refine lv_bipush (v := (-2)) hx hb dX7_finish_78 (by decide) ?_
          exact sw_iret hx hb hret hlocks hz hwp dX7_finish_80
      · have hwp := hwp.2 q
        refine lv_iload_n hx hb dX7_finish_26 rfl (lv_at hl 2 rfl) ?_
        refine lv_if_eq (tgt := 66) hx hb dX7_finish_27 (by decide) (fun q => ?_) (fun q => ?_)
        · have hwp := hwp.1 q
          refine lv_iconst (v := 0) hx hb dX7_finish_66 (by decide) ?_
          refine lv_istore_n (lv' := [(2, .int 0), (0, .ref o0), (1, .int i1), (3, .int x3)]) hx hb dX7_finish_67 rfl hl (by decide) rfl (fun ls hl => ?_)
          obtain ⟨v13, q_v13⟩ : ∃ y : Int32, y = x3 + 1 := ⟨_, rfl⟩
          have hwp := hwp v13 q_v13
          refine lv_iinc (v := v13) (lv' := [(3, .int v13), (2, .int 0), (0, .ref o0), (1, .int i1)]) hx hb dX7_finish_68 hl (k := 3) rfl (by rw [q_v13]; rfl) (by decide) rfl (fun ls hl => ?_)
          refine lv_goto (tgt := 20) hx hb dX7_finish_71 (by decide) ?_
          exact hC20 _ _ _ _ _ _ _ _ hwp hz (lv_sub hl [2, 3, 1, 0] rfl)
        · have hwp := hwp.2 q
          refine lv_aload_n hx hb dX7_finish_30 rfl (lv_at hl 0 rfl) ?_
          obtain ⟨hs14, hwp⟩ := hwp
          refine sw_get (C := RX7) (T := TX7) (N := 25) (v := .ref (o0 + 1)) hx hb hts hw0 hown hK hz hs14 rfl 1 (by decide) hw1 (fun _ h9 => h9) rfl dX7_finish_31 ?_
          refine lv_bipush (v := 64) hx hb dX7_finish_34 (by decide) ?_
          refine lv_iload_n hx hb dX7_finish_36 rfl (lv_at hl 3 rfl) ?_
          refine lv_iadd hx hb dX7_finish_37 ?_
          obtain ⟨ho15, hwp⟩ := hwp
          refine sw_lald hx hb hK hz ho15 dX7_finish_38 ?_
          refine lv_ldc2 hx hb hown hw2 dX7_finish_39 ?_
          refine W.lcmp hx hb dX7_finish_42 ?_
          refine W.eq (g2 := F0 m 43 ls [.int (lg_cmp (L (o0 + 1) (ix (64 + x3))) 300)]) rfl ?_
          refine lv_if_gt (tgt := 66) hx hb dX7_finish_43 (by decide) (fun q => ?_) (fun q => ?_)
          · have hwp := hwp.1 ((lg_cmp_gt _ _).mp q)
            refine lv_iconst (v := 0) hx hb dX7_finish_66 (by decide) ?_
            refine lv_istore_n (lv' := [(2, .int 0), (0, .ref o0), (1, .int i1), (3, .int x3)]) hx hb dX7_finish_67 rfl hl (by decide) rfl (fun ls hl => ?_)
            obtain ⟨v16, q_v16⟩ : ∃ y : Int32, y = x3 + 1 := ⟨_, rfl⟩
            have hwp := hwp v16 q_v16
            refine lv_iinc (v := v16) (lv' := [(3, .int v16), (2, .int 0), (0, .ref o0), (1, .int i1)]) hx hb dX7_finish_68 hl (k := 3) rfl (by rw [q_v16]; rfl) (by decide) rfl (fun ls hl => ?_)
            refine lv_goto (tgt := 20) hx hb dX7_finish_71 (by decide) ?_
            exact hC20 _ _ _ _ _ _ _ _ hwp hz (lv_sub hl [2, 3, 1, 0] rfl)
          · have hwp := hwp.2 (fun h => q ((lg_cmp_gt _ _).mpr h))
            refine lv_aload_n hx hb dX7_finish_46 rfl (lv_at hl 0 rfl) ?_
            refine sw_get (C := RX7) (T := TX7) (N := 25) (v := .ref (o0 + 1)) hx hb hts hw0 hown hK hz hs14 rfl 1 (by decide) hw1 (fun _ h9 => h9) rfl dX7_finish_47 ?_
            refine lv_bipush (v := 64) hx hb dX7_finish_50 (by decide) ?_
            refine lv_iload_n hx hb dX7_finish_52 rfl (lv_at hl 3 rfl) ?_
            refine lv_iadd hx hb dX7_finish_53 ?_
            obtain ⟨ho17, hwp⟩ := hwp
            refine sw_lald hx hb hK hz ho17 dX7_finish_54 ?_
            refine lv_ldc2 hx hb hown hw3 dX7_finish_55 ?_
            refine W.lcmp hx hb dX7_finish_58 ?_
            refine W.eq (g2 := F0 m 59 ls [.int (lg_cmp (L (o0 + 1) (ix (64 + x3))) (-300))]) rfl ?_
            refine lv_if_lt (tgt := 66) hx hb dX7_finish_59 (by decide) (fun q => ?_) (fun q => ?_)
            · have hwp := hwp.1 ((lg_cmp_lt _ _).mp q)
              refine lv_iconst (v := 0) hx hb dX7_finish_66 (by decide) ?_
              refine lv_istore_n (lv' := [(2, .int 0), (0, .ref o0), (1, .int i1), (3, .int x3)]) hx hb dX7_finish_67 rfl hl (by decide) rfl (fun ls hl => ?_)
              obtain ⟨v18, q_v18⟩ : ∃ y : Int32, y = x3 + 1 := ⟨_, rfl⟩
              have hwp := hwp v18 q_v18
              refine lv_iinc (v := v18) (lv' := [(3, .int v18), (2, .int 0), (0, .ref o0), (1, .int i1)]) hx hb dX7_finish_68 hl (k := 3) rfl (by rw [q_v18]; rfl) (by decide) rfl (fun ls hl => ?_)
              refine lv_goto (tgt := 20) hx hb dX7_finish_71 (by decide) ?_
              exact hC20 _ _ _ _ _ _ _ _ hwp hz (lv_sub hl [2, 3, 1, 0] rfl)
            · have hwp := hwp.2 (fun h => q ((lg_cmp_lt _ _).mpr h))
              refine lv_iconst (v := 1) hx hb dX7_finish_62 (by decide) ?_
              refine lv_goto (tgt := 67) hx hb dX7_finish_63 (by decide) ?_
              refine lv_istore_n (lv' := [(2, .int 1), (0, .ref o0), (1, .int i1), (3, .int x3)]) hx hb dX7_finish_67 rfl hl (by decide) rfl (fun ls hl => ?_)
              obtain ⟨v19, q_v19⟩ : ∃ y : Int32, y = x3 + 1 := ⟨_, rfl⟩
              have hwp := hwp v19 q_v19
              refine lv_iinc (v := v19) (lv' := [(3, .int v19), (2, .int 1), (0, .ref o0), (1, .int i1)]) hx hb dX7_finish_68 hl (k := 3) rfl (by rw [q_v19]; rfl) (by decide) rfl (fun ls hl => ?_)
              refine lv_goto (tgt := 20) hx hb dX7_finish_71 (by decide) ?_
              exact hC20 _ _ _ _ _ _ _ _ hwp hz (lv_sub hl [2, 3, 1, 0] rfl)
    exact key μ I L A x2 x3 H locs ls hi hz hl
  refine lv_aload_n hx hb dX7_finish_0 rfl (lv_at hl 0 rfl) ?_
  obtain ⟨hs20, hwp⟩ := hwp
  refine sw_get (C := RX7) (T := TX7) (N := 25) (v := .ref (o0 + 1)) hx hb hts hw0 hown hK hz hs20 rfl 1 (by decide) hw1 (fun _ h9 => h9) rfl dX7_finish_1 ?_
  refine lv_bipush (v := 71) hx hb dX7_finish_4 (by decide) ?_
  obtain ⟨ho21, hwp⟩ := hwp
  refine sw_lald hx hb hK hz ho21 dX7_finish_6 ?_
  refine lv_lconst (v := 0) hx hb dX7_finish_7 (by decide) ?_
  refine W.lcmp hx hb dX7_finish_8 ?_
  refine W.eq (g2 := F0 m 9 ls [.int (lg_cmp (L (o0 + 1) (ix 71)) 0)]) rfl ?_
  refine lv_if_ne (tgt := 16) hx hb dX7_finish_9 (by decide) (fun q => ?_) (fun q => ?_)
  · have hwp := hwp.2 (fun h => q ((lg_cmp_eq _ _).mpr h))
    refine lv_iconst (v := 0) hx hb dX7_finish_16 (by decide) ?_
    refine lv_istore_n (lv' := [(2, .int 0), (0, .ref o0), (1, .int i1)]) hx hb dX7_finish_17 rfl hl (by decide) rfl (fun ls hl => ?_)
    refine lv_iconst (v := 0) hx hb dX7_finish_18 (by decide) ?_
    refine lv_istore_n (lv' := [(3, .int 0), (2, .int 0), (0, .ref o0), (1, .int i1)]) hx hb dX7_finish_19 rfl hl (by decide) rfl (fun ls hl => ?_)
    exact wL20 _ _ _ _ _ _ _ _ hwp hz (lv_sub hl [2, 3, 1, 0] rfl)
  · have hwp := hwp.1 ((lg_cmp_eq _ _).mp q)
    refine lv_iconst (v := 1) hx hb dX7_finish_12 (by decide) ?_
    refine lv_goto (tgt := 17) hx hb dX7_finish_13 (by decide) ?_
    refine lv_istore_n (lv' := [(2, .int 1), (0, .ref o0), (1, .int i1)]) hx hb dX7_finish_17 rfl hl (by decide) rfl (fun ls hl => ?_)
    refine lv_iconst (v := 0) hx hb dX7_finish_18 (by decide) ?_
    refine lv_istore_n (lv' := [(3, .int 0), (2, .int 1), (0, .ref o0), (1, .int i1)]) hx hb dX7_finish_19 rfl hl (by decide) rfl (fun ls hl => ?_)
    exact wL20 _ _ _ _ _ _ _ _ hwp hz (lv_sub hl [2, 3, 1, 0] rfl)

def wp_X7_add_74 (K : Cx) (o0 : Nat) (i1 : Int32) (i2 : Int32) (i3 : Int32) (i4 : Int32) (i5 : Int32) (I : TI) (L : TL) (A : TA) (x7 : Int32) (Q : Int32 → TI → TL → TA → Prop) : Prop := ∃ (Inv : Nat → TI → TL → TA → Int32 → Prop) (μ : Nat), Inv μ I L A x7 ∧ ∀ (μ : Nat) (C74 : TI → TL → TA → Int32 → Prop), (∀ (μ' : Nat) (I : TI) (L : TL) (A : TA) (x7 : Int32) , μ' < μ → Inv μ' I L A x7 → C74 I L A x7) → ∀ (I : TI) (L : TL) (A : TA) (x7 : Int32) , Inv μ I L A x7 → ((8 ≤ x7 → cxS K o0 = shX7 o0 ∧ ∃ P2 : Int32 → TI → TL → TA → Prop, ConI K yX7_finish wsX7_finish 1 23 I L A [.ref o0, .int i1] P2 ∧ ∀ (r7 : Int32) (I4 : TI) (L5 : TL) (A6 : TA), P2 r7 I4 L5 A6 → Q r7 I4 L5 A6) ∧ (¬ 8 ≤ x7 → cxS K o0 = shX7 o0 ∧ aok (cxS K) (o0 + 1) 1 ((8 * i2) + x7) ∧ aok (cxS K) (o0 + 1) 1 ((8 * i3) + x7) ∧ aok (cxS K) (o0 + 1) 1 (64 + x7) ∧ ∀ L12 : TL, L12 = u2 L (o0 + 1) (ix (64 + x7)) (((Int32.toInt64 i4) * (L (o0 + 1) (ix ((8 * i2) + x7)))) + ((Int32.toInt64 i5) * (L (o0 + 1) (ix ((8 * i3) + x7))))) → ∀ v13 : Int32, v13 = x7 + 1 → C74 I L12 A v13))
def wp_X7_add_63 (K : Cx) (o0 : Nat) (i1 : Int32) (i2 : Int32) (i3 : Int32) (i4 : Int32) (i5 : Int32) (I : TI) (L : TL) (A : TA) (y0 : Int32) (y1 : Nat) (Q : Int32 → TI → TL → TA → Prop) : Prop := cxS K y1 = shX7 y1 ∧ ∃ P15 : Int32 → TI → TL → TA → Prop, ConI K yX7_refused wsX7_refused 0 0 I L A [.ref y1, .int y0] P15 ∧ ∀ (r20 : Int32) (I17 : TI) (L18 : TL) (A19 : TA), P15 r20 I17 L18 A19 → ((r20 = 0 → wp_X7_add_74 K o0 i1 i2 i3 i4 i5 I17 L18 A19 0 Q) ∧ (¬ r20 = 0 → Q 0 I17 L18 A19))
def wp_X7_add_50 (K : Cx) (o0 : Nat) (i1 : Int32) (i2 : Int32) (i3 : Int32) (i4 : Int32) (i5 : Int32) (I : TI) (L : TL) (A : TA) (y0 : Int32) (Q : Int32 → TI → TL → TA → Prop) : Prop := ((y0 = 0 → wp_X7_add_63 K o0 i1 i2 i3 i4 i5 I L A 1 o0 Q) ∧ (¬ y0 = 0 → wp_X7_add_63 K o0 i1 i2 i3 i4 i5 I L A 0 o0 Q))
def wp_X7_add_49 (K : Cx) (o0 : Nat) (i1 : Int32) (i2 : Int32) (i3 : Int32) (i4 : Int32) (i5 : Int32) (I : TI) (L : TL) (A : TA) (Q : Int32 → TI → TL → TA → Prop) : Prop := wp_X7_add_50 K o0 i1 i2 i3 i4 i5 I L A 0 Q
def wp_X7_add (K : Cx) (I : TI) (L : TL) (A : TA) (o0 : Nat) (i1 : Int32) (i2 : Int32) (i3 : Int32) (i4 : Int32) (i5 : Int32) (Q : Int32 → TI → TL → TA → Prop) : Prop := ∃ P21 : Int32 → TI → TL → TA → Prop, ConI K yX7_isSlot wsX7_isSlot 0 0 I L A [.int i1] P21 ∧ ∀ (r26 : Int32) (I23 : TI) (L24 : TL) (A25 : TA), P21 r26 I23 L24 A25 → ((r26 = 0 → wp_X7_add_49 K o0 i1 i2 i3 i4 i5 I23 L24 A25 Q) ∧ (¬ r26 = 0 → ∃ P27 : Int32 → TI → TL → TA → Prop, ConI K yX7_isSlot wsX7_isSlot 0 0 I23 L24 A25 [.int i2] P27 ∧ ∀ (r32 : Int32) (I29 : TI) (L30 : TL) (A31 : TA), P27 r32 I29 L30 A31 → ((r32 = 0 → wp_X7_add_49 K o0 i1 i2 i3 i4 i5 I29 L30 A31 Q) ∧ (¬ r32 = 0 → ∃ P33 : Int32 → TI → TL → TA → Prop, ConI K yX7_isSlot wsX7_isSlot 0 0 I29 L30 A31 [.int i3] P33 ∧ ∀ (r38 : Int32) (I35 : TI) (L36 : TL) (A37 : TA), P33 r38 I35 L36 A37 → ((r38 = 0 → wp_X7_add_49 K o0 i1 i2 i3 i4 i5 I35 L36 A37 Q) ∧ (¬ r38 = 0 → ∃ P39 : Int32 → TI → TL → TA → Prop, ConI K yX7_isIn wsX7_isIn 0 0 I35 L36 A37 [.int i4, .int (-10), .int 10] P39 ∧ ∀ (r44 : Int32) (I41 : TI) (L42 : TL) (A43 : TA), P39 r44 I41 L42 A43 → ((r44 = 0 → wp_X7_add_49 K o0 i1 i2 i3 i4 i5 I41 L42 A43 Q) ∧ (¬ r44 = 0 → ∃ P45 : Int32 → TI → TL → TA → Prop, ConI K yX7_isIn wsX7_isIn 0 0 I41 L42 A43 [.int i5, .int (-10), .int 10] P45 ∧ ∀ (r50 : Int32) (I47 : TI) (L48 : TL) (A49 : TA), P45 r50 I47 L48 A49 → ((r50 = 0 → wp_X7_add_49 K o0 i1 i2 i3 i4 i5 I47 L48 A49 Q) ∧ (¬ r50 = 0 → wp_X7_add_50 K o0 i1 i2 i3 i4 i5 I47 L48 A49 1 Q))))))))))
set_option maxHeartbeats 1000000 in
set_option maxRecDepth 100000 in
theorem w_X7_add (K : Cx) (I : TI) (L : TL) (A : TA) (o0 : Nat) (i1 : Int32) (i2 : Int32) (i3 : Int32) (i4 : Int32) (i5 : Int32) (Q : Int32 → TI → TL → TA → Prop) (hwp : wp_X7_add K I L A o0 i1 i2 i3 i4 i5 Q) : ConI K yX7_add wsX7_add 2 46 I L A [.ref o0, .int i1, .int i2, .int i3, .int i4, .int i5] Q := by
  intro hK sz
  refine Met.ofW (cc := cX7_add) (maxL := 8) (ret := (some .int)) (by decide) rfl ?_
  intro p e s m args below meth c s₁ B hml hv
  obtain ⟨rfl, hsz, hB⟩ := hv
  have hx := B.exec
  have hb := B.bytes
  have hret := B.returns
  have hts := atoms_spec (ws := wsX7_add) B.pre
  have hown : s.vm.findClass RX7 = some m.cls := findClass_of_methodNamed B.named
  have hlocks := B.notSynchronized
  subst hsz
  have hz : SS K s I L A s.heap [] := PS.start hB
  have hl := lv_entry ([.ref o0, .int i1, .int i2, .int i3, .int i4, .int i5]) (n := 8) (Nat.le_of_ble_eq_true rfl)
  rw [lg_entry_eq]
  generalize (lg_sl ([.ref o0, .int i1, .int i2, .int i3, .int i4, .int i5]) ++ List.replicate (8 - (lg_sl ([.ref o0, .int i1, .int i2, .int i3, .int i4, .int i5])).length) Slot.unset).toArray = ls at hl ⊢
  have hl : lv_has ls 8 [(0, .ref o0), (1, .int i1), (2, .int i2), (3, .int i3), (4, .int i4), (5, .int i5)] := hl
  have hw0 : ∀ w ∈ u_ws RX7 TX7 25, w ∈ wsX7_add := by decide +kernel
  have hw1 := hts (.fieldLink RX7 7 "GaloisDeskModel" "row" "[J") (by decide +kernel)
  clear hB B
  have wL74 : ∀ (I : TI) (L : TL) (A : TA) (x7 : Int32) (H : Heap) (locs : List Loc) (ls : Array Slot), wp_X7_add_74 K o0 i1 i2 i3 i4 i5 I L A x7 Q → SS K s I L A H locs → lv_has ls 8 [(0, .ref o0), (1, .int i1), (2, .int i2), (3, .int i3), (4, .int i4), (5, .int i5), (7, .int x7)] → W p (cxl K) e (headSpec wsX7_add (rmF 2 46)).room s m ([.ref o0, .int i1, .int i2, .int i3, .int i4, .int i5] : List Value).toArray below meth c H locs 0 0 (MQ below (cxQi K Q) ([.ref o0, .int i1, .int i2, .int i3, .int i4, .int i5] : List Value).toArray s 0 0 (PA (cxb K))) (F0 m 74 ls []) := by
    intro I L A x7 H locs ls hwp hz hl
    obtain ⟨Inv, μ, hi, hst⟩ := hwp
    have key : ∀ (μ : Nat) (I : TI) (L : TL) (A : TA) (x7 : Int32) (H : Heap) (locs : List Loc) (ls : Array Slot), Inv μ I L A x7 → SS K s I L A H locs → lv_has ls 8 [(0, .ref o0), (1, .int i1), (2, .int i2), (3, .int i3), (4, .int i4), (5, .int i5), (7, .int x7)] → W p (cxl K) e (headSpec wsX7_add (rmF 2 46)).room s m ([.ref o0, .int i1, .int i2, .int i3, .int i4, .int i5] : List Value).toArray below meth c H locs 0 0 (MQ below (cxQi K Q) ([.ref o0, .int i1, .int i2, .int i3, .int i4, .int i5] : List Value).toArray s 0 0 (PA (cxb K))) (F0 m 74 ls []) := by
      clear hi hz hl
      intro μ
      induction μ using Nat.strongRecOn with | ind μ ih => ?_
      intro I L A x7 H locs ls hi hz hl
      obtain ⟨C74, hCd⟩ : ∃ C : TI → TL → TA → Int32 → Prop, C = fun I L A x7 => ∃ μ', μ' < μ ∧ Inv μ' I L A x7 := ⟨_, rfl⟩
      have hC74 : ∀ (I : TI) (L : TL) (A : TA) (x7 : Int32) (H : Heap) (locs : List Loc) (ls : Array Slot), C74 I L A x7 → SS K s I L A H locs → lv_has ls 8 [(0, .ref o0), (1, .int i1), (2, .int i2), (3, .int i3), (4, .int i4), (5, .int i5), (7, .int x7)] → W p (cxl K) e (headSpec wsX7_add (rmF 2 46)).room s m ([.ref o0, .int i1, .int i2, .int i3, .int i4, .int i5] : List Value).toArray below meth c H locs 0 0 (MQ below (cxQi K Q) ([.ref o0, .int i1, .int i2, .int i3, .int i4, .int i5] : List Value).toArray s 0 0 (PA (cxb K))) (F0 m 74 ls []) := by
        intro I L A x7 H locs ls hc hz hl
        rw [hCd] at hc
        obtain ⟨μ', hlt, hc⟩ := hc
        exact ih μ' hlt I L A x7 H locs ls hc hz hl
      have hwp := hst μ C74 (fun μ' I L A x7 hlt hc => by rw [hCd]; exact ⟨μ', hlt, hc⟩) I L A x7 hi
      refine lv_iload hx hb dX7_add_74 (lv_at hl 6 rfl) ?_
      refine lv_bipush (v := 8) hx hb dX7_add_76 (by decide) ?_
      refine lv_icmp_ge (tgt := 130) hx hb dX7_add_78 (by decide) (fun q => ?_) (fun q => ?_)
      · have hwp := hwp.1 q
        refine lv_aload_n hx hb dX7_add_130 rfl (lv_at hl 0 rfl) ?_
        refine lv_iload_n hx hb dX7_add_131 rfl (lv_at hl 1 rfl) ?_
        obtain ⟨hs1, hwp⟩ := hwp
        obtain ⟨P2, hc3, hwp⟩ := hwp
        refine sw_calli hz (va_runV (As := [.int i1]) (rest := []) ⟨hx, hb, hml, hown, hts⟩ (hc3 hK _) (cwV 1 hts gX7_add_X7_finish rfl rfl rfl (by decide +kernel) ⟨Nat.le_of_ble_eq_true rfl, Nat.le_of_ble_eq_true rfl⟩) (hz.preV hK hs1 rfl) rfl rfl hl.1 rfl (lv_room (Nat.le_of_ble_eq_true rfl)) dX7_add_132 ⟨Nat.le_of_ble_eq_true rfl, Nat.le_of_ble_eq_true rfl⟩) (fun r7 I4 L5 A6 H locs hp hz => ?_)
        have hwp := hwp r7 I4 L5 A6 hp
        exact sw_iret hx hb hret hlocks hz hwp dX7_add_135
      · have hwp := hwp.2 q
        refine lv_aload_n hx hb dX7_add_81 rfl (lv_at hl 0 rfl) ?_
        obtain ⟨hs8, hwp⟩ := hwp
        refine sw_get (C := RX7) (T := TX7) (N := 25) (v := .ref (o0 + 1)) hx hb hts hw0 hown hK hz hs8 rfl 1 (by decide) hw1 (fun _ h9 => h9) rfl dX7_add_82 ?_
        refine lv_bipush (v := 64) hx hb dX7_add_85 (by decide) ?_
        refine lv_iload hx hb dX7_add_87 (lv_at hl 6 rfl) ?_
        refine lv_iadd hx hb dX7_add_89 ?_
        refine lv_iload hx hb dX7_add_90 (lv_at hl 4 rfl) ?_
        refine lv_i2l hx hb dX7_add_92 rfl ?_
        refine lv_aload_n hx hb dX7_add_93 rfl (lv_at hl 0 rfl) ?_
        refine sw_get (C := RX7) (T := TX7) (N := 25) (v := .ref (o0 + 1)) hx hb hts hw0 hown hK hz hs8 rfl 1 (by decide) hw1 (fun _ h9 => h9) rfl dX7_add_94 ?_
        refine lv_bipush (v := 8) hx hb dX7_add_97 (by decide) ?_
        refine lv_iload_n hx hb dX7_add_99 rfl (lv_at hl 2 rfl) ?_
        refine lv_imul hx hb dX7_add_100 ?_
        refine lv_iload hx hb dX7_add_101 (lv_at hl 6 rfl) ?_
        refine lv_iadd hx hb dX7_add_103 ?_
        obtain ⟨ho9, hwp⟩ := hwp
        refine sw_lald hx hb hK hz ho9 dX7_add_104 ?_
        refine lv_lmul hx hb dX7_add_105 ?_
        refine lv_iload hx hb dX7_add_106 (lv_at hl 5 rfl) ?_
        refine lv_i2l hx hb dX7_add_108 rfl ?_
        refine lv_aload_n hx hb dX7_add_109 rfl (lv_at hl 0 rfl) ?_
        refine sw_get (C := RX7) (T := TX7) (N := 25) (v := .ref (o0 + 1)) hx hb hts hw0 hown hK hz hs8 rfl 1 (by decide) hw1 (fun _ h9 => h9) rfl dX7_add_110 ?_
        refine lv_bipush (v := 8) hx hb dX7_add_113 (by decide) ?_
        refine lv_iload_n hx hb dX7_add_115 rfl (lv_at hl 3 rfl) ?_
        refine lv_imul hx hb dX7_add_116 ?_
        refine lv_iload hx hb dX7_add_117 (lv_at hl 6 rfl) ?_
        refine lv_iadd hx hb dX7_add_119 ?_
        obtain ⟨ho10, hwp⟩ := hwp
        refine sw_lald hx hb hK hz ho10 dX7_add_120 ?_
        refine lv_lmul hx hb dX7_add_121 ?_
        refine lv_ladd hx hb dX7_add_122 ?_
        obtain ⟨ho11, hwp⟩ := hwp
        refine sw_last hx hb hK hz ho11 dX7_add_123 (fun H locs L12 e_L12 hz => ?_)
        have hwp := hwp L12 e_L12
        obtain ⟨v13, q_v13⟩ : ∃ y : Int32, y = x7 + 1 := ⟨_, rfl⟩
        have hwp := hwp v13 q_v13
        refine lv_iinc (v := v13) (lv' := [(7, .int v13), (0, .ref o0), (1, .int i1), (2, .int i2), (3, .int i3), (4, .int i4), (5, .int i5)]) hx hb dX7_add_124 hl (k := 6) rfl (by rw [q_v13]; rfl) (by decide) rfl (fun ls hl => ?_)
        refine lv_goto (tgt := 74) hx hb dX7_add_127 (by decide) ?_
        exact hC74 _ _ _ _ _ _ _ hwp hz (lv_sub hl [1, 2, 3, 4, 5, 6, 0] rfl)
    exact key μ I L A x7 H locs ls hi hz hl
  have wL63 : ∀ (I : TI) (L : TL) (A : TA) (y0 : Int32) (y1 : Nat) (H : Heap) (locs : List Loc) (ls : Array Slot), wp_X7_add_63 K o0 i1 i2 i3 i4 i5 I L A y0 y1 Q → SS K s I L A H locs → lv_has ls 8 [(0, .ref o0), (1, .int i1), (2, .int i2), (3, .int i3), (4, .int i4), (5, .int i5)] → W p (cxl K) e (headSpec wsX7_add (rmF 2 46)).room s m ([.ref o0, .int i1, .int i2, .int i3, .int i4, .int i5] : List Value).toArray below meth c H locs 0 0 (MQ below (cxQi K Q) ([.ref o0, .int i1, .int i2, .int i3, .int i4, .int i5] : List Value).toArray s 0 0 (PA (cxb K))) (F0 m 63 ls [.int y0, .ref y1]) := by
    intro I L A y0 y1 H locs ls hwp hz hl
    obtain ⟨hs14, hwp⟩ := hwp
    obtain ⟨P15, hc16, hwp⟩ := hwp
    refine sw_calli hz (va_runV (As := [.int y0]) (rest := []) ⟨hx, hb, hml, hown, hts⟩ (hc16 hK _) (cwV 1 hts gX7_add_X7_refused rfl rfl rfl (by decide +kernel) ⟨Nat.le_of_ble_eq_true rfl, Nat.le_of_ble_eq_true rfl⟩) (hz.preV hK hs14 rfl) rfl rfl hl.1 rfl (lv_room (Nat.le_of_ble_eq_true rfl)) dX7_add_63 ⟨Nat.le_of_ble_eq_true rfl, Nat.le_of_ble_eq_true rfl⟩) (fun r20 I17 L18 A19 H locs hp hz => ?_)
    have hwp := hwp r20 I17 L18 A19 hp
    refine lv_if_eq (tgt := 71) hx hb dX7_add_66 (by decide) (fun q => ?_) (fun q => ?_)
    · have hwp := hwp.1 q
      refine lv_iconst (v := 0) hx hb dX7_add_71 (by decide) ?_
      refine lv_istore (lv' := [(7, .int 0), (0, .ref o0), (1, .int i1), (2, .int i2), (3, .int i3), (4, .int i4), (5, .int i5)]) hx hb dX7_add_72 hl (by decide) rfl (fun ls hl => ?_)
      exact wL74 _ _ _ _ _ _ _ hwp hz (lv_sub hl [1, 2, 3, 4, 5, 6, 0] rfl)
    · have hwp := hwp.2 q
      refine lv_iconst (v := 0) hx hb dX7_add_69 (by decide) ?_
      exact sw_iret hx hb hret hlocks hz hwp dX7_add_70
  have wL50 : ∀ (I : TI) (L : TL) (A : TA) (y0 : Int32) (H : Heap) (locs : List Loc) (ls : Array Slot), wp_X7_add_50 K o0 i1 i2 i3 i4 i5 I L A y0 Q → SS K s I L A H locs → lv_has ls 8 [(0, .ref o0), (1, .int i1), (2, .int i2), (3, .int i3), (4, .int i4), (5, .int i5)] → W p (cxl K) e (headSpec wsX7_add (rmF 2 46)).room s m ([.ref o0, .int i1, .int i2, .int i3, .int i4, .int i5] : List Value).toArray below meth c H locs 0 0 (MQ below (cxQi K Q) ([.ref o0, .int i1, .int i2, .int i3, .int i4, .int i5] : List Value).toArray s 0 0 (PA (cxb K))) (F0 m 50 ls [.int y0]) := by
    intro I L A y0 H locs ls hwp hz hl
    refine lv_istore (lv' := [(6, .int y0), (0, .ref o0), (1, .int i1), (2, .int i2), (3, .int i3), (4, .int i4), (5, .int i5)]) hx hb dX7_add_50 hl (by decide) rfl (fun ls hl => ?_)
    refine lv_aload_n hx hb dX7_add_52 rfl (lv_at hl 1 rfl) ?_
    refine lv_iload hx hb dX7_add_53 (lv_at hl 0 rfl) ?_
    refine lv_if_eq (tgt := 62) hx hb dX7_add_55 (by decide) (fun q => ?_) (fun q => ?_)
    · have hwp := hwp.1 q
      refine lv_iconst (v := 1) hx hb dX7_add_62 (by decide) ?_
      exact wL63 _ _ _ _ _ _ _ _ hwp hz (lv_sub hl [1, 2, 3, 4, 5, 6] rfl)
    · have hwp := hwp.2 q
      refine lv_iconst (v := 0) hx hb dX7_add_58 (by decide) ?_
      refine lv_goto (tgt := 63) hx hb dX7_add_59 (by decide) ?_
      exact wL63 _ _ _ _ _ _ _ _ hwp hz (lv_sub hl [1, 2, 3, 4, 5, 6] rfl)
  have wL49 : ∀ (I : TI) (L : TL) (A : TA) (H : Heap) (locs : List Loc) (ls : Array Slot), wp_X7_add_49 K o0 i1 i2 i3 i4 i5 I L A Q → SS K s I L A H locs → lv_has ls 8 [(0, .ref o0), (1, .int i1), (2, .int i2), (3, .int i3), (4, .int i4), (5, .int i5)] → W p (cxl K) e (headSpec wsX7_add (rmF 2 46)).room s m ([.ref o0, .int i1, .int i2, .int i3, .int i4, .int i5] : List Value).toArray below meth c H locs 0 0 (MQ below (cxQi K Q) ([.ref o0, .int i1, .int i2, .int i3, .int i4, .int i5] : List Value).toArray s 0 0 (PA (cxb K))) (F0 m 49 ls []) := by
    intro I L A H locs ls hwp hz hl
    refine lv_iconst (v := 0) hx hb dX7_add_49 (by decide) ?_
    exact wL50 _ _ _ _ _ _ _ hwp hz (lv_sub hl [0, 1, 2, 3, 4, 5] rfl)
  refine lv_iload_n hx hb dX7_add_0 rfl (lv_at hl 1 rfl) ?_
  obtain ⟨P21, hc22, hwp⟩ := hwp
  refine sw_calli hz (va_runS (As := [.int i1]) (rest := []) ⟨hx, hb, hml, hown, hts⟩ (hc22 hK _) (va_cwS 1 hts gX7_add_X7_isSlot rfl rfl rfl (by decide +kernel) ⟨Nat.le_of_ble_eq_true rfl, Nat.le_of_ble_eq_true rfl⟩) hz.preS rfl rfl hl.1 rfl (lv_room (Nat.le_of_ble_eq_true rfl)) dX7_add_1 ⟨Nat.le_of_ble_eq_true rfl, Nat.le_of_ble_eq_true rfl⟩) (fun r26 I23 L24 A25 H locs hp hz => ?_)
  have hwp := hwp r26 I23 L24 A25 hp
  refine lv_if_eq (tgt := 49) hx hb dX7_add_4 (by decide) (fun q => ?_) (fun q => ?_)
  · have hwp := hwp.1 q
    exact wL49 _ _ _ _ _ _ hwp hz (lv_sub hl [0, 1, 2, 3, 4, 5] rfl)
  · have hwp := hwp.2 q
    refine lv_iload_n hx hb dX7_add_7 rfl (lv_at hl 2 rfl) ?_
    obtain ⟨P27, hc28, hwp⟩ := hwp
    refine sw_calli hz (va_runS (As := [.int i2]) (rest := []) ⟨hx, hb, hml, hown, hts⟩ (hc28 hK _) (va_cwS 1 hts gX7_add_X7_isSlot rfl rfl rfl (by decide +kernel) ⟨Nat.le_of_ble_eq_true rfl, Nat.le_of_ble_eq_true rfl⟩) hz.preS rfl rfl hl.1 rfl (lv_room (Nat.le_of_ble_eq_true rfl)) dX7_add_8 ⟨Nat.le_of_ble_eq_true rfl, Nat.le_of_ble_eq_true rfl⟩) (fun r32 I29 L30 A31 H locs hp hz => ?_)
    have hwp := hwp r32 I29 L30 A31 hp
    refine lv_if_eq (tgt := 49) hx hb dX7_add_11 (by decide) (fun q => ?_) (fun q => ?_)
    · have hwp := hwp.1 q
      exact wL49 _ _ _ _ _ _ hwp hz (lv_sub hl [0, 1, 2, 3, 4, 5] rfl)
    · have hwp := hwp.2 q
      refine lv_iload_n hx hb dX7_add_14 rfl (lv_at hl 3 rfl) ?_
      obtain ⟨P33, hc34, hwp⟩ := hwp
      refine sw_calli hz (va_runS (As := [.int i3]) (rest := []) ⟨hx, hb, hml, hown, hts⟩ (hc34 hK _) (va_cwS 1 hts gX7_add_X7_isSlot rfl rfl rfl (by decide +kernel) ⟨Nat.le_of_ble_eq_true rfl, Nat.le_of_ble_eq_true rfl⟩) hz.preS rfl rfl hl.1 rfl (lv_room (Nat.le_of_ble_eq_true rfl)) dX7_add_15 ⟨Nat.le_of_ble_eq_true rfl, Nat.le_of_ble_eq_true rfl⟩) (fun r38 I35 L36 A37 H locs hp hz => ?_)
      have hwp := hwp r38 I35 L36 A37 hp
      refine lv_if_eq (tgt := 49) hx hb dX7_add_18 (by decide) (fun q => ?_) (fun q => ?_)
      · have hwp := hwp.1 q
        exact wL49 _ _ _ _ _ _ hwp hz (lv_sub hl [0, 1, 2, 3, 4, 5] rfl)
      · have hwp := hwp.2 q
        refine lv_iload hx hb dX7_add_21 (lv_at hl 4 rfl) ?_
        refine lv_bipush (v := (-10)) hx hb dX7_add_23 (by decide) ?_
        refine lv_bipush (v := 10) hx hb dX7_add_25 (by decide) ?_
        obtain ⟨P39, hc40, hwp⟩ := hwp
        refine sw_calli hz (va_runS (As := [.int i4, .int (-10), .int 10]) (rest := []) ⟨hx, hb, hml, hown, hts⟩ (hc40 hK _) (va_cwS 3 hts gX7_add_X7_isIn rfl rfl rfl (by decide +kernel) ⟨Nat.le_of_ble_eq_true rfl, Nat.le_of_ble_eq_true rfl⟩) hz.preS rfl rfl hl.1 rfl (lv_room (Nat.le_of_ble_eq_true rfl)) dX7_add_27 ⟨Nat.le_of_ble_eq_true rfl, Nat.le_of_ble_eq_true rfl⟩) (fun r44 I41 L42 A43 H locs hp hz => ?_)
        have hwp := hwp r44 I41 L42 A43 hp
        refine lv_if_eq (tgt := 49) hx hb dX7_add_30 (by decide) (fun q => ?_) (fun q => ?_)
        · have hwp := hwp.1 q
          exact wL49 _ _ _ _ _ _ hwp hz (lv_sub hl [0, 1, 2, 3, 4, 5] rfl)
        · have hwp := hwp.2 q
          refine lv_iload hx hb dX7_add_33 (lv_at hl 5 rfl) ?_
          refine lv_bipush (v := (-10)) hx hb dX7_add_35 (by decide) ?_
          refine lv_bipush (v := 10) hx hb dX7_add_37 (by decide) ?_
          obtain ⟨P45, hc46, hwp⟩ := hwp
          refine sw_calli hz (va_runS (As := [.int i5, .int (-10), .int 10]) (rest := []) ⟨hx, hb, hml, hown, hts⟩ (hc46 hK _) (va_cwS 3 hts gX7_add_X7_isIn rfl rfl rfl (by decide +kernel) ⟨Nat.le_of_ble_eq_true rfl, Nat.le_of_ble_eq_true rfl⟩) hz.preS rfl rfl hl.1 rfl (lv_room (Nat.le_of_ble_eq_true rfl)) dX7_add_39 ⟨Nat.le_of_ble_eq_true rfl, Nat.le_of_ble_eq_true rfl⟩) (fun r50 I47 L48 A49 H locs hp hz => ?_)
          have hwp := hwp r50 I47 L48 A49 hp
          refine lv_if_eq (tgt := 49) hx hb dX7_add_42 (by decide) (fun q => ?_) (fun q => ?_)
          · have hwp := hwp.1 q
            exact wL49 _ _ _ _ _ _ hwp hz (lv_sub hl [0, 1, 2, 3, 4, 5] rfl)
          · have hwp := hwp.2 q
            refine lv_iconst (v := 1) hx hb dX7_add_45 (by decide) ?_
            refine lv_goto (tgt := 50) hx hb dX7_add_46 (by decide) ?_
            exact wL50 _ _ _ _ _ _ _ hwp hz (lv_sub hl [0, 1, 2, 3, 4, 5] rfl)

def wp_X7_addPart (K : Cx) (I : TI) (L : TL) (A : TA) (o0 : Nat) (i1 : Int32) (i2 : Int32) (Q : TI → TL → TA → Prop) : Prop := cxS K o0 = shX7 o0 ∧ ∃ P2 : TI → TL → TA → Prop, ConV K yX7_copy wsX7_copy 0 0 I L A [.ref o0, .int (12 + (I o0 2)), .int i1] P2 ∧ ∀ (I4 : TI) (L5 : TL) (A6 : TA), P2 I4 L5 A6 → aok (cxS K) (o0 + 2) 0 (I4 o0 2) ∧ ∀ I8 : TI, I8 = u2 I4 (o0 + 2) (ix (I4 o0 2)) i2 → ∀ I9 : TI, I9 = u2 I8 o0 2 ((I8 o0 2) + 1) → Q I9 L5 A6
set_option maxHeartbeats 1000000 in
set_option maxRecDepth 100000 in
theorem w_X7_addPart (K : Cx) (I : TI) (L : TL) (A : TA) (o0 : Nat) (i1 : Int32) (i2 : Int32) (Q : TI → TL → TA → Prop) (hwp : wp_X7_addPart K I L A o0 i1 i2 Q) : ConV K yX7_addPart wsX7_addPart 1 23 I L A [.ref o0, .int i1, .int i2] Q := by
  intro hK sz
  refine Met.ofW (cc := cX7_addPart) (maxL := 3) (ret := none) (by decide) rfl ?_
  intro p e s m args below meth c s₁ B hml hv
  obtain ⟨rfl, hsz, hB⟩ := hv
  have hx := B.exec
  have hb := B.bytes
  have hret := B.returns
  have hts := atoms_spec (ws := wsX7_addPart) B.pre
  have hown : s.vm.findClass RX7 = some m.cls := findClass_of_methodNamed B.named
  have hlocks := B.notSynchronized
  subst hsz
  have hz : SS K s I L A s.heap [] := PS.start hB
  have hl := lv_entry ([.ref o0, .int i1, .int i2]) (n := 3) (Nat.le_of_ble_eq_true rfl)
  rw [lg_entry_eq]
  generalize (lg_sl ([.ref o0, .int i1, .int i2]) ++ List.replicate (3 - (lg_sl ([.ref o0, .int i1, .int i2])).length) Slot.unset).toArray = ls at hl ⊢
  have hl : lv_has ls 3 [(0, .ref o0), (1, .int i1), (2, .int i2)] := hl
  have hw0 : ∀ w ∈ u_ws RX7 TX7 25, w ∈ wsX7_addPart := by decide +kernel
  have hw1 := hts (.fieldLink RX7 83 "GaloisDeskModel" "many" "I") (by decide +kernel)
  have hw2 := hts (.fieldLink RX7 13 "GaloisDeskModel" "often" "[I") (by decide +kernel)
  clear hB B
  refine lv_aload_n hx hb dX7_addPart_0 rfl (lv_at hl 0 rfl) ?_
  refine lv_bipush (v := 12) hx hb dX7_addPart_1 (by decide) ?_
  refine lv_aload_n hx hb dX7_addPart_3 rfl (lv_at hl 0 rfl) ?_
  obtain ⟨hs1, hwp⟩ := hwp
  refine sw_get (C := RX7) (T := TX7) (N := 25) (v := .int (I o0 2)) hx hb hts hw0 hown hK hz hs1 rfl 2 (by decide) hw1 (fun _ h9 => h9) rfl dX7_addPart_4 ?_
  refine lv_iadd hx hb dX7_addPart_7 ?_
  refine lv_iload_n hx hb dX7_addPart_8 rfl (lv_at hl 1 rfl) ?_
  obtain ⟨P2, hc3, hwp⟩ := hwp
  refine sw_callv hz (va_runV (As := [.int (12 + (I o0 2)), .int i1]) (rest := []) ⟨hx, hb, hml, hown, hts⟩ (hc3 hK _) (cwV 2 hts gX7_addPart_X7_copy rfl rfl rfl (by decide +kernel) ⟨Nat.le_of_ble_eq_true rfl, Nat.le_of_ble_eq_true rfl⟩) (hz.preV hK hs1 rfl) rfl rfl hl.1 rfl (lv_room (Nat.le_of_ble_eq_true rfl)) dX7_addPart_9 ⟨Nat.le_of_ble_eq_true rfl, Nat.le_of_ble_eq_true rfl⟩) (fun I4 L5 A6 H locs hp hz => ?_)
  have hwp := hwp I4 L5 A6 hp
  refine lv_aload_n hx hb dX7_addPart_12 rfl (lv_at hl 0 rfl) ?_
  refine sw_get (C := RX7) (T := TX7) (N := 25) (v := .ref (o0 + 2)) hx hb hts hw0 hown hK hz hs1 rfl 4 (by decide) hw2 (fun _ h9 => h9) rfl dX7_addPart_13 ?_
  refine lv_aload_n hx hb dX7_addPart_16 rfl (lv_at hl 0 rfl) ?_
  refine sw_get (C := RX7) (T := TX7) (N := 25) (v := .int (I4 o0 2)) hx hb hts hw0 hown hK hz hs1 rfl 2 (by decide) hw1 (fun _ h9 => h9) rfl dX7_addPart_17 ?_
  refine lv_iload_n hx hb dX7_addPart_20 rfl (lv_at hl 2 rfl) ?_
  obtain ⟨ho7, hwp⟩ := hwp
  refine sw_iast hx hb hK hz ho7 dX7_addPart_21 (fun H locs I8 e_I8 hz => ?_)
  have hwp := hwp I8 e_I8
  refine lv_aload_n hx hb dX7_addPart_22 rfl (lv_at hl 0 rfl) ?_
  refine lv_dup hx hb dX7_addPart_23 rfl ?_
  refine sw_get (C := RX7) (T := TX7) (N := 25) (v := .int (I8 o0 2)) hx hb hts hw0 hown hK hz hs1 rfl 2 (by decide) hw1 (fun _ h9 => h9) rfl dX7_addPart_24 ?_
  refine lv_iconst (v := 1) hx hb dX7_addPart_27 (by decide) ?_
  refine lv_iadd hx hb dX7_addPart_28 ?_
  refine sw_putI (C := RX7) (T := TX7) (N := 25) hx hb hts hw0 tyX7 tyX7_ok nmX7 hown hK hz hs1 rfl 2 (by decide) hw1 (fun _ h9 => h9) rfl (by decide +kernel) rfl dX7_addPart_29 (fun H locs I9 e_I9 hz => ?_)
  have hwp := hwp I9 e_I9
  exact sw_vret hx hb hret hlocks hz hwp dX7_addPart_32

def wp_X7_addLast_14 (K : Cx) (o0 : Nat) (C2 : TI → TL → TA → Int32 → Prop) (I : TI) (L : TL) (A : TA) (x1 : Int32) (x2 : Int32) (x3 : Int32) (Q : TI → TL → TA → Prop) : Prop := ∃ (Inv : Nat → TI → TL → TA → Int32 → Int32 → Int32 → Prop) (μ : Nat), Inv μ I L A x1 x2 x3 ∧ ∀ (μ : Nat) (C14 : TI → TL → TA → Int32 → Int32 → Int32 → Prop), (∀ (μ' : Nat) (I : TI) (L : TL) (A : TA) (x1 : Int32) (x2 : Int32) (x3 : Int32) , μ' < μ → Inv μ' I L A x1 x2 x3 → C14 I L A x1 x2 x3) → ∀ (I : TI) (L : TL) (A : TA) (x1 : Int32) (x2 : Int32) (x3 : Int32) , Inv μ I L A x1 x2 x3 → ((8 ≤ x3 → ((x2 = 0 → ∀ v1 : Int32, v1 = x1 + 1 → C2 I L A v1) ∧ (¬ x2 = 0 → cxS K o0 = shX7 o0 ∧ aok (cxS K) (o0 + 2) 0 x1 ∧ aok (cxS K) (o0 + 2) 0 x1 ∧ ∀ I5 : TI, I5 = u2 I (o0 + 2) (ix x1) ((I (o0 + 2) (ix x1)) + 1) → Q I5 L A))) ∧ (¬ 8 ≤ x3 → ((x2 = 0 → ∀ v6 : Int32, v6 = x3 + 1 → C14 I L A x1 0 v6) ∧ (¬ x2 = 0 → cxS K o0 = shX7 o0 ∧ aok (cxS K) (o0 + 1) 1 ((8 * (12 + x1)) + x3) ∧ aok (cxS K) (o0 + 1) 1 (64 + x3) ∧ (((L (o0 + 1) (ix ((8 * (12 + x1)) + x3))) = (L (o0 + 1) (ix (64 + x3))) → ∀ v11 : Int32, v11 = x3 + 1 → C14 I L A x1 1 v11) ∧ (¬ (L (o0 + 1) (ix ((8 * (12 + x1)) + x3))) = (L (o0 + 1) (ix (64 + x3))) → ∀ v10 : Int32, v10 = x3 + 1 → C14 I L A x1 0 v10))))))
def wp_X7_addLast_2 (K : Cx) (o0 : Nat) (I : TI) (L : TL) (A : TA) (x1 : Int32) (Q : TI → TL → TA → Prop) : Prop := ∃ (Inv : Nat → TI → TL → TA → Int32 → Prop) (μ : Nat), Inv μ I L A x1 ∧ ∀ (μ : Nat) (C2 : TI → TL → TA → Int32 → Prop), (∀ (μ' : Nat) (I : TI) (L : TL) (A : TA) (x1 : Int32) , μ' < μ → Inv μ' I L A x1 → C2 I L A x1) → ∀ (I : TI) (L : TL) (A : TA) (x1 : Int32) , Inv μ I L A x1 → cxS K o0 = shX7 o0 ∧ (((I o0 2) ≤ x1 → ∃ P13 : TI → TL → TA → Prop, ConV K yX7_addPart wsX7_addPart 1 23 I L A [.ref o0, .int 8, .int 1] P13 ∧ ∀ (I15 : TI) (L16 : TL) (A17 : TA), P13 I15 L16 A17 → Q I15 L16 A17) ∧ (¬ (I o0 2) ≤ x1 → wp_X7_addLast_14 K o0 C2 I L A x1 1 0 Q))
def wp_X7_addLast (K : Cx) (I : TI) (L : TL) (A : TA) (o0 : Nat) (Q : TI → TL → TA → Prop) : Prop := wp_X7_addLast_2 K o0 I L A 0 Q
set_option maxHeartbeats 1000000 in
set_option maxRecDepth 100000 in
theorem w_X7_addLast (K : Cx) (I : TI) (L : TL) (A : TA) (o0 : Nat) (Q : TI → TL → TA → Prop) (hwp : wp_X7_addLast K I L A o0 Q) : ConV K yX7_addLast wsX7_addLast 2 45 I L A [.ref o0] Q := by
  intro hK sz
  refine Met.ofW (cc := cX7_addLast) (maxL := 4) (ret := none) (by decide) rfl ?_
  intro p e s m args below meth c s₁ B hml hv
  obtain ⟨rfl, hsz, hB⟩ := hv
  have hx := B.exec
  have hb := B.bytes
  have hret := B.returns
  have hts := atoms_spec (ws := wsX7_addLast) B.pre
  have hown : s.vm.findClass RX7 = some m.cls := findClass_of_methodNamed B.named
  have hlocks := B.notSynchronized
  subst hsz
  have hz : SS K s I L A s.heap [] := PS.start hB
  have hl := lv_entry ([.ref o0]) (n := 4) (Nat.le_of_ble_eq_true rfl)
  rw [lg_entry_eq]
  generalize (lg_sl ([.ref o0]) ++ List.replicate (4 - (lg_sl ([.ref o0])).length) Slot.unset).toArray = ls at hl ⊢
  have hl : lv_has ls 4 [(0, .ref o0)] := hl
  have hw0 : ∀ w ∈ u_ws RX7 TX7 25, w ∈ wsX7_addLast := by decide +kernel
  have hw1 := hts (.fieldLink RX7 13 "GaloisDeskModel" "often" "[I") (by decide +kernel)
  have hw2 := hts (.fieldLink RX7 7 "GaloisDeskModel" "row" "[J") (by decide +kernel)
  have hw3 := hts (.fieldLink RX7 83 "GaloisDeskModel" "many" "I") (by decide +kernel)
  clear hB B
  have wL14 : ∀ (C2 : TI → TL → TA → Int32 → Prop) (hC2 : ∀ (I : TI) (L : TL) (A : TA) (x1 : Int32) (H : Heap) (locs : List Loc) (ls : Array Slot), C2 I L A x1 → SS K s I L A H locs → lv_has ls 4 [(0, .ref o0), (1, .int x1)] → W p (cxl K) e (headSpec wsX7_addLast (rmF 2 45)).room s m ([.ref o0] : List Value).toArray below meth c H locs 0 0 (MQ below (cxQv K Q) ([.ref o0] : List Value).toArray s 0 0 (PA (cxb K))) (F0 m 2 ls [])) (I : TI) (L : TL) (A : TA) (x1 : Int32) (x2 : Int32) (x3 : Int32) (H : Heap) (locs : List Loc) (ls : Array Slot), wp_X7_addLast_14 K o0 C2 I L A x1 x2 x3 Q → SS K s I L A H locs → lv_has ls 4 [(0, .ref o0), (1, .int x1), (2, .int x2), (3, .int x3)] → W p (cxl K) e (headSpec wsX7_addLast (rmF 2 45)).room s m ([.ref o0] : List Value).toArray below meth c H locs 0 0 (MQ below (cxQv K Q) ([.ref o0] : List Value).toArray s 0 0 (PA (cxb K))) (F0 m 14 ls []) := by
    intro C2 hC2 I L A x1 x2 x3 H locs ls hwp hz hl
    obtain ⟨Inv, μ, hi, hst⟩ := hwp
    have key : ∀ (μ : Nat) (I : TI) (L : TL) (A : TA) (x1 : Int32) (x2 : Int32) (x3 : Int32) (H : Heap) (locs : List Loc) (ls : Array Slot), Inv μ I L A x1 x2 x3 → SS K s I L A H locs → lv_has ls 4 [(0, .ref o0), (1, .int x1), (2, .int x2), (3, .int x3)] → W p (cxl K) e (headSpec wsX7_addLast (rmF 2 45)).room s m ([.ref o0] : List Value).toArray below meth c H locs 0 0 (MQ below (cxQv K Q) ([.ref o0] : List Value).toArray s 0 0 (PA (cxb K))) (F0 m 14 ls []) := by
      clear hi hz hl
      intro μ
      induction μ using Nat.strongRecOn with | ind μ ih => ?_
      intro I L A x1 x2 x3 H locs ls hi hz hl
      obtain ⟨C14, hCd⟩ : ∃ C : TI → TL → TA → Int32 → Int32 → Int32 → Prop, C = fun I L A x1 x2 x3 => ∃ μ', μ' < μ ∧ Inv μ' I L A x1 x2 x3 := ⟨_, rfl⟩
      have hC14 : ∀ (I : TI) (L : TL) (A : TA) (x1 : Int32) (x2 : Int32) (x3 : Int32) (H : Heap) (locs : List Loc) (ls : Array Slot), C14 I L A x1 x2 x3 → SS K s I L A H locs → lv_has ls 4 [(0, .ref o0), (1, .int x1), (2, .int x2), (3, .int x3)] → W p (cxl K) e (headSpec wsX7_addLast (rmF 2 45)).room s m ([.ref o0] : List Value).toArray below meth c H locs 0 0 (MQ below (cxQv K Q) ([.ref o0] : List Value).toArray s 0 0 (PA (cxb K))) (F0 m 14 ls []) := by
        intro I L A x1 x2 x3 H locs ls hc hz hl
        rw [hCd] at hc
        obtain ⟨μ', hlt, hc⟩ := hc
        exact ih μ' hlt I L A x1 x2 x3 H locs ls hc hz hl
      have hwp := hst μ C14 (fun μ' I L A x1 x2 x3 hlt hc => by rw [hCd]; exact ⟨μ', hlt, hc⟩) I L A x1 x2 x3 hi
      refine lv_iload_n hx hb dX7_addLast_14 rfl (lv_at hl 3 rfl) ?_
      refine lv_bipush (v := 8) hx hb dX7_addLast_15 (by decide) ?_
      refine lv_icmp_ge (tgt := 63) hx hb dX7_addLast_17 (by decide) (fun q => ?_) (fun q => ?_)
      · have hwp := hwp.1 q
        refine lv_iload_n hx hb dX7_addLast_63 rfl (lv_at hl 2 rfl) ?_
        refine lv_if_eq (tgt := 78) hx hb dX7_addLast_64 (by decide) (fun q => ?_) (fun q => ?_)
        · have hwp := hwp.1 q
          obtain ⟨v1, q_v1⟩ : ∃ y : Int32, y = x1 + 1 := ⟨_, rfl⟩
          have hwp := hwp v1 q_v1
          refine lv_iinc (v := v1) (lv' := [(1, .int v1), (0, .ref o0), (2, .int x2), (3, .int x3)]) hx hb dX7_addLast_78 hl (k := 1) rfl (by rw [q_v1]; rfl) (by decide) rfl (fun ls hl => ?_)
          refine lv_goto (tgt := 2) hx hb dX7_addLast_81 (by decide) ?_
          exact hC2 _ _ _ _ _ _ _ hwp hz (lv_sub hl [1, 0] rfl)
        · have hwp := hwp.2 q
          refine lv_aload_n hx hb dX7_addLast_67 rfl (lv_at hl 0 rfl) ?_
          obtain ⟨hs2, hwp⟩ := hwp
          refine sw_get (C := RX7) (T := TX7) (N := 25) (v := .ref (o0 + 2)) hx hb hts hw0 hown hK hz hs2 rfl 4 (by decide) hw1 (fun _ h9 => h9) rfl dX7_addLast_68 ?_
          refine lv_iload_n hx hb dX7_addLast_71 rfl (lv_at hl 1 rfl) ?_
          refine lv_dup2_11 hx hb dX7_addLast_72 rfl rfl ?_
          obtain ⟨ho3, hwp⟩ := hwp
          refine sw_iald hx hb hK hz ho3 dX7_addLast_73 ?_
          refine lv_iconst (v := 1) hx hb dX7_addLast_74 (by decide) ?_
          refine lv_iadd hx hb dX7_addLast_75 ?_
          obtain ⟨ho4, hwp⟩ := hwp
          refine sw_iast hx hb hK hz ho4 dX7_addLast_76 (fun H locs I5 e_I5 hz => ?_)
          have hwp := hwp I5 e_I5
          exact sw_vret hx hb hret hlocks hz hwp dX7_addLast_77
      · have hwp := hwp.2 q
        refine lv_iload_n hx hb dX7_addLast_20 rfl (lv_at hl 2 rfl) ?_
        refine lv_if_eq (tgt := 55) hx hb dX7_addLast_21 (by decide) (fun q => ?_) (fun q => ?_)
        · have hwp := hwp.1 q
          refine lv_iconst (v := 0) hx hb dX7_addLast_55 (by decide) ?_
          refine lv_istore_n (lv' := [(2, .int 0), (0, .ref o0), (1, .int x1), (3, .int x3)]) hx hb dX7_addLast_56 rfl hl (by decide) rfl (fun ls hl => ?_)
          obtain ⟨v6, q_v6⟩ : ∃ y : Int32, y = x3 + 1 := ⟨_, rfl⟩
          have hwp := hwp v6 q_v6
          refine lv_iinc (v := v6) (lv' := [(3, .int v6), (2, .int 0), (0, .ref o0), (1, .int x1)]) hx hb dX7_addLast_57 hl (k := 3) rfl (by rw [q_v6]; rfl) (by decide) rfl (fun ls hl => ?_)
          refine lv_goto (tgt := 14) hx hb dX7_addLast_60 (by decide) ?_
          exact hC14 _ _ _ _ _ _ _ _ _ hwp hz (lv_sub hl [2, 3, 1, 0] rfl)
        · have hwp := hwp.2 q
          refine lv_aload_n hx hb dX7_addLast_24 rfl (lv_at hl 0 rfl) ?_
          obtain ⟨hs7, hwp⟩ := hwp
          refine sw_get (C := RX7) (T := TX7) (N := 25) (v := .ref (o0 + 1)) hx hb hts hw0 hown hK hz hs7 rfl 1 (by decide) hw2 (fun _ h9 => h9) rfl dX7_addLast_25 ?_
          refine lv_bipush (v := 8) hx hb dX7_addLast_28 (by decide) ?_
          refine lv_bipush (v := 12) hx hb dX7_addLast_30 (by decide) ?_
          refine lv_iload_n hx hb dX7_addLast_32 rfl (lv_at hl 1 rfl) ?_
          refine lv_iadd hx hb dX7_addLast_33 ?_
          refine lv_imul hx hb dX7_addLast_34 ?_
          refine lv_iload_n hx hb dX7_addLast_35 rfl (lv_at hl 3 rfl) ?_
          refine lv_iadd hx hb dX7_addLast_36 ?_
          obtain ⟨ho8, hwp⟩ := hwp
          refine sw_lald hx hb hK hz ho8 dX7_addLast_37 ?_
          refine lv_aload_n hx hb dX7_addLast_38 rfl (lv_at hl 0 rfl) ?_
          refine sw_get (C := RX7) (T := TX7) (N := 25) (v := .ref (o0 + 1)) hx hb hts hw0 hown hK hz hs7 rfl 1 (by decide) hw2 (fun _ h9 => h9) rfl dX7_addLast_39 ?_
          refine lv_bipush (v := 64) hx hb dX7_addLast_42 (by decide) ?_
          refine lv_iload_n hx hb dX7_addLast_44 rfl (lv_at hl 3 rfl) ?_
          refine lv_iadd hx hb dX7_addLast_45 ?_
          obtain ⟨ho9, hwp⟩ := hwp
          refine sw_lald hx hb hK hz ho9 dX7_addLast_46 ?_
          refine W.lcmp hx hb dX7_addLast_47 ?_
          refine W.eq (g2 := F0 m 48 ls [.int (lg_cmp (L (o0 + 1) (ix ((8 * (12 + x1)) + x3))) (L (o0 + 1) (ix (64 + x3))))]) rfl ?_
          refine lv_if_ne (tgt := 55) hx hb dX7_addLast_48 (by decide) (fun q => ?_) (fun q => ?_)
          · have hwp := hwp.2 (fun h => q ((lg_cmp_eq _ _).mpr h))
            refine lv_iconst (v := 0) hx hb dX7_addLast_55 (by decide) ?_
            refine lv_istore_n (lv' := [(2, .int 0), (0, .ref o0), (1, .int x1), (3, .int x3)]) hx hb dX7_addLast_56 rfl hl (by decide) rfl (fun ls hl => ?_)
            obtain ⟨v10, q_v10⟩ : ∃ y : Int32, y = x3 + 1 := ⟨_, rfl⟩
            have hwp := hwp v10 q_v10
            refine lv_iinc (v := v10) (lv' := [(3, .int v10), (2, .int 0), (0, .ref o0), (1, .int x1)]) hx hb dX7_addLast_57 hl (k := 3) rfl (by rw [q_v10]; rfl) (by decide) rfl (fun ls hl => ?_)
            refine lv_goto (tgt := 14) hx hb dX7_addLast_60 (by decide) ?_
            exact hC14 _ _ _ _ _ _ _ _ _ hwp hz (lv_sub hl [2, 3, 1, 0] rfl)
          · have hwp := hwp.1 ((lg_cmp_eq _ _).mp q)
            refine lv_iconst (v := 1) hx hb dX7_addLast_51 (by decide) ?_
            refine lv_goto (tgt := 56) hx hb dX7_addLast_52 (by decide) ?_
            refine lv_istore_n (lv' := [(2, .int 1), (0, .ref o0), (1, .int x1), (3, .int x3)]) hx hb dX7_addLast_56 rfl hl (by decide) rfl (fun ls hl => ?_)
            obtain ⟨v11, q_v11⟩ : ∃ y : Int32, y = x3 + 1 := ⟨_, rfl⟩
            have hwp := hwp v11 q_v11
            refine lv_iinc (v := v11) (lv' := [(3, .int v11), (2, .int 1), (0, .ref o0), (1, .int x1)]) hx hb dX7_addLast_57 hl (k := 3) rfl (by rw [q_v11]; rfl) (by decide) rfl (fun ls hl => ?_)
            refine lv_goto (tgt := 14) hx hb dX7_addLast_60 (by decide) ?_
            exact hC14 _ _ _ _ _ _ _ _ _ hwp hz (lv_sub hl [2, 3, 1, 0] rfl)
    exact key μ I L A x1 x2 x3 H locs ls hi hz hl
  have wL2 : ∀ (I : TI) (L : TL) (A : TA) (x1 : Int32) (H : Heap) (locs : List Loc) (ls : Array Slot), wp_X7_addLast_2 K o0 I L A x1 Q → SS K s I L A H locs → lv_has ls 4 [(0, .ref o0), (1, .int x1)] → W p (cxl K) e (headSpec wsX7_addLast (rmF 2 45)).room s m ([.ref o0] : List Value).toArray below meth c H locs 0 0 (MQ below (cxQv K Q) ([.ref o0] : List Value).toArray s 0 0 (PA (cxb K))) (F0 m 2 ls []) := by
    intro I L A x1 H locs ls hwp hz hl
    obtain ⟨Inv, μ, hi, hst⟩ := hwp
    have key : ∀ (μ : Nat) (I : TI) (L : TL) (A : TA) (x1 : Int32) (H : Heap) (locs : List Loc) (ls : Array Slot), Inv μ I L A x1 → SS K s I L A H locs → lv_has ls 4 [(0, .ref o0), (1, .int x1)] → W p (cxl K) e (headSpec wsX7_addLast (rmF 2 45)).room s m ([.ref o0] : List Value).toArray below meth c H locs 0 0 (MQ below (cxQv K Q) ([.ref o0] : List Value).toArray s 0 0 (PA (cxb K))) (F0 m 2 ls []) := by
      clear hi hz hl
      intro μ
      induction μ using Nat.strongRecOn with | ind μ ih => ?_
      intro I L A x1 H locs ls hi hz hl
      obtain ⟨C2, hCd⟩ : ∃ C : TI → TL → TA → Int32 → Prop, C = fun I L A x1 => ∃ μ', μ' < μ ∧ Inv μ' I L A x1 := ⟨_, rfl⟩
      have hC2 : ∀ (I : TI) (L : TL) (A : TA) (x1 : Int32) (H : Heap) (locs : List Loc) (ls : Array Slot), C2 I L A x1 → SS K s I L A H locs → lv_has ls 4 [(0, .ref o0), (1, .int x1)] → W p (cxl K) e (headSpec wsX7_addLast (rmF 2 45)).room s m ([.ref o0] : List Value).toArray below meth c H locs 0 0 (MQ below (cxQv K Q) ([.ref o0] : List Value).toArray s 0 0 (PA (cxb K))) (F0 m 2 ls []) := by
        intro I L A x1 H locs ls hc hz hl
        rw [hCd] at hc
        obtain ⟨μ', hlt, hc⟩ := hc
        exact ih μ' hlt I L A x1 H locs ls hc hz hl
      have hwp := hst μ C2 (fun μ' I L A x1 hlt hc => by rw [hCd]; exact ⟨μ', hlt, hc⟩) I L A x1 hi
      refine lv_iload_n hx hb dX7_addLast_2 rfl (lv_at hl 1 rfl) ?_
      refine lv_aload_n hx hb dX7_addLast_3 rfl (lv_at hl 0 rfl) ?_
      obtain ⟨hs12, hwp⟩ := hwp
      refine sw_get (C := RX7) (T := TX7) (N := 25) (v := .int (I o0 2)) hx hb hts hw0 hown hK hz hs12 rfl 2 (by decide) hw3 (fun _ h9 => h9) rfl dX7_addLast_4 ?_
      refine lv_icmp_ge (tgt := 84) hx hb dX7_addLast_7 (by decide) (fun q => ?_) (fun q => ?_)
      · have hwp := hwp.1 q
        refine lv_aload_n hx hb dX7_addLast_84 rfl (lv_at hl 0 rfl) ?_
        refine lv_bipush (v := 8) hx hb dX7_addLast_85 (by decide) ?_
        refine lv_iconst (v := 1) hx hb dX7_addLast_87 (by decide) ?_
        obtain ⟨P13, hc14, hwp⟩ := hwp
        refine sw_callv hz (va_runV (As := [.int 8, .int 1]) (rest := []) ⟨hx, hb, hml, hown, hts⟩ (hc14 hK _) (cwV 2 hts gX7_addLast_X7_addPart rfl rfl rfl (by decide +kernel) ⟨Nat.le_of_ble_eq_true rfl, Nat.le_of_ble_eq_true rfl⟩) (hz.preV hK hs12 rfl) rfl rfl hl.1 rfl (lv_room (Nat.le_of_ble_eq_true rfl)) dX7_addLast_88 ⟨Nat.le_of_ble_eq_true rfl, Nat.le_of_ble_eq_true rfl⟩) (fun I15 L16 A17 H locs hp hz => ?_)
        have hwp := hwp I15 L16 A17 hp
        exact sw_vret hx hb hret hlocks hz hwp dX7_addLast_91
      · have hwp := hwp.2 q
        refine lv_iconst (v := 1) hx hb dX7_addLast_10 (by decide) ?_
        refine lv_istore_n (lv' := [(2, .int 1), (0, .ref o0), (1, .int x1)]) hx hb dX7_addLast_11 rfl hl (by decide) rfl (fun ls hl => ?_)
        refine lv_iconst (v := 0) hx hb dX7_addLast_12 (by decide) ?_
        refine lv_istore_n (lv' := [(3, .int 0), (2, .int 1), (0, .ref o0), (1, .int x1)]) hx hb dX7_addLast_13 rfl hl (by decide) rfl (fun ls hl => ?_)
        exact wL14 _ hC2 _ _ _ _ _ _ _ _ _ hwp hz (lv_sub hl [2, 3, 1, 0] rfl)
    exact key μ I L A x1 H locs ls hi hz hl
  refine lv_iconst (v := 0) hx hb dX7_addLast_0 (by decide) ?_
  refine lv_istore_n (lv' := [(1, .int 0), (0, .ref o0)]) hx hb dX7_addLast_1 rfl hl (by decide) rfl (fun ls hl => ?_)
  exact wL2 _ _ _ _ _ _ _ hwp hz (lv_sub hl [1, 0] rfl)

def wp_X7_below (K : Cx) (I : TI) (L : TL) (A : TA) (j0 : Int64) (j2 : Int64) (Q : Int64 → TI → TL → TA → Prop) : Prop := ¬ j2 = 0 ∧ ∀ v2 : Int64, v2 = (j0 / j2) → (((v2 * j2) ≤ j0 → Q v2 I L A) ∧ (¬ (v2 * j2) ≤ j0 → Q (v2 - 1) I L A))
set_option maxHeartbeats 1000000 in
set_option maxRecDepth 100000 in
theorem w_X7_below (K : Cx) (I : TI) (L : TL) (A : TA) (j0 : Int64) (j2 : Int64) (Q : Int64 → TI → TL → TA → Prop) (hwp : wp_X7_below K I L A j0 j2 Q) : ConL K yX7_below wsX7_below 0 0 I L A [.long j0, .long j2] Q := by
  intro hK sz
  refine Met.ofW (cc := cX7_below) (maxL := 6) (ret := (some .long)) (by decide) rfl ?_
  intro p e s m args below meth c s₁ B hml hv
  obtain ⟨rfl, hsz, hB⟩ := hv
  have hx := B.exec
  have hb := B.bytes
  have hret := B.returns
  have hts := atoms_spec (ws := wsX7_below) B.pre
  have hown : s.vm.findClass RX7 = some m.cls := findClass_of_methodNamed B.named
  have hlocks := B.notSynchronized
  subst hsz
  have hz : SS K s I L A s.heap [] := PS.start hB
  have hl := lv_entry ([.long j0, .long j2]) (n := 6) (Nat.le_of_ble_eq_true rfl)
  rw [lg_entry_eq]
  generalize (lg_sl ([.long j0, .long j2]) ++ List.replicate (6 - (lg_sl ([.long j0, .long j2])).length) Slot.unset).toArray = ls at hl ⊢
  have hl : lv_has ls 6 [(0, .long j0), (2, .long j2)] := hl
  clear hB B
  refine lv_lload_n hx hb dX7_below_0 rfl (lv_at hl 0 rfl) ?_
  refine lv_lload_n hx hb dX7_below_1 rfl (lv_at hl 1 rfl) ?_
  obtain ⟨hn1, hwp⟩ := hwp
  refine lv_ldiv hx hb dX7_below_2 hn1 ?_
  refine lv_topl (fun v2 q_v2 => ?_)
  have hwp := hwp v2 q_v2
  refine lv_lstore (lv' := [(4, .long v2), (0, .long j0), (2, .long j2)]) hx hb dX7_below_3 hl (by decide) rfl (fun ls hl => ?_)
  refine lv_lload hx hb dX7_below_5 (lv_at hl 0 rfl) ?_
  refine lv_lload_n hx hb dX7_below_7 rfl (lv_at hl 2 rfl) ?_
  refine lv_lmul hx hb dX7_below_8 ?_
  refine lv_lload_n hx hb dX7_below_9 rfl (lv_at hl 1 rfl) ?_
  refine W.lcmp hx hb dX7_below_10 ?_
  refine W.eq (g2 := F0 m 11 ls [.int (lg_cmp (v2 * j2) j0)]) rfl ?_
  refine lv_if_le (tgt := 21) hx hb dX7_below_11 (by decide) (fun q => ?_) (fun q => ?_)
  · have hwp := hwp.1 ((lg_cmp_le _ _).mp q)
    refine lv_lload hx hb dX7_below_21 (lv_at hl 0 rfl) ?_
    exact sw_lret hx hb hret hlocks hz hwp dX7_below_23
  · have hwp := hwp.2 (fun h => q ((lg_cmp_le _ _).mpr h))
    refine lv_lload hx hb dX7_below_14 (lv_at hl 0 rfl) ?_
    refine lv_lconst (v := 1) hx hb dX7_below_16 (by decide) ?_
    refine lv_lsub hx hb dX7_below_17 ?_
    refine lv_goto (tgt := 23) hx hb dX7_below_18 (by decide) ?_
    exact sw_lret hx hb hret hlocks hz hwp dX7_below_23

def wp_X7_clear_2 (K : Cx) (o0 : Nat) (i1 : Int32) (I : TI) (L : TL) (A : TA) (x2 : Int32) (Q : TI → TL → TA → Prop) : Prop := ∃ (Inv : Nat → TI → TL → TA → Int32 → Prop) (μ : Nat), Inv μ I L A x2 ∧ ∀ (μ : Nat) (C2 : TI → TL → TA → Int32 → Prop), (∀ (μ' : Nat) (I : TI) (L : TL) (A : TA) (x2 : Int32) , μ' < μ → Inv μ' I L A x2 → C2 I L A x2) → ∀ (I : TI) (L : TL) (A : TA) (x2 : Int32) , Inv μ I L A x2 → ((8 ≤ x2 → Q I L A) ∧ (¬ 8 ≤ x2 → cxS K o0 = shX7 o0 ∧ aok (cxS K) (o0 + 1) 1 ((8 * i1) + x2) ∧ ∀ L3 : TL, L3 = u2 L (o0 + 1) (ix ((8 * i1) + x2)) 0 → ∀ v4 : Int32, v4 = x2 + 1 → C2 I L3 A v4))
def wp_X7_clear (K : Cx) (I : TI) (L : TL) (A : TA) (o0 : Nat) (i1 : Int32) (Q : TI → TL → TA → Prop) : Prop := wp_X7_clear_2 K o0 i1 I L A 0 Q
set_option maxHeartbeats 1000000 in
set_option maxRecDepth 100000 in
theorem w_X7_clear (K : Cx) (I : TI) (L : TL) (A : TA) (o0 : Nat) (i1 : Int32) (Q : TI → TL → TA → Prop) (hwp : wp_X7_clear K I L A o0 i1 Q) : ConV K yX7_clear wsX7_clear 0 0 I L A [.ref o0, .int i1] Q := by
  intro hK sz
  refine Met.ofW (cc := cX7_clear) (maxL := 3) (ret := none) (by decide) rfl ?_
  intro p e s m args below meth c s₁ B hml hv
  obtain ⟨rfl, hsz, hB⟩ := hv
  have hx := B.exec
  have hb := B.bytes
  have hret := B.returns
  have hts := atoms_spec (ws := wsX7_clear) B.pre
  have hown : s.vm.findClass RX7 = some m.cls := findClass_of_methodNamed B.named
  have hlocks := B.notSynchronized
  subst hsz
  have hz : SS K s I L A s.heap [] := PS.start hB
  have hl := lv_entry ([.ref o0, .int i1]) (n := 3) (Nat.le_of_ble_eq_true rfl)
  rw [lg_entry_eq]
  generalize (lg_sl ([.ref o0, .int i1]) ++ List.replicate (3 - (lg_sl ([.ref o0, .int i1])).length) Slot.unset).toArray = ls at hl ⊢
  have hl : lv_has ls 3 [(0, .ref o0), (1, .int i1)] := hl
  have hw0 : ∀ w ∈ u_ws RX7 TX7 25, w ∈ wsX7_clear := by decide +kernel
  have hw1 := hts (.fieldLink RX7 7 "GaloisDeskModel" "row" "[J") (by decide +kernel)
  clear hB B
  have wL2 : ∀ (I : TI) (L : TL) (A : TA) (x2 : Int32) (H : Heap) (locs : List Loc) (ls : Array Slot), wp_X7_clear_2 K o0 i1 I L A x2 Q → SS K s I L A H locs → lv_has ls 3 [(0, .ref o0), (1, .int i1), (2, .int x2)] → W p (cxl K) e (headSpec wsX7_clear (rmF 0 0)).room s m ([.ref o0, .int i1] : List Value).toArray below meth c H locs 0 0 (MQ below (cxQv K Q) ([.ref o0, .int i1] : List Value).toArray s 0 0 (PA (cxb K))) (F0 m 2 ls []) := by
    intro I L A x2 H locs ls hwp hz hl
    obtain ⟨Inv, μ, hi, hst⟩ := hwp
    have key : ∀ (μ : Nat) (I : TI) (L : TL) (A : TA) (x2 : Int32) (H : Heap) (locs : List Loc) (ls : Array Slot), Inv μ I L A x2 → SS K s I L A H locs → lv_has ls 3 [(0, .ref o0), (1, .int i1), (2, .int x2)] → W p (cxl K) e (headSpec wsX7_clear (rmF 0 0)).room s m ([.ref o0, .int i1] : List Value).toArray below meth c H locs 0 0 (MQ below (cxQv K Q) ([.ref o0, .int i1] : List Value).toArray s 0 0 (PA (cxb K))) (F0 m 2 ls []) := by
      clear hi hz hl
      intro μ
      induction μ using Nat.strongRecOn with | ind μ ih => ?_
      intro I L A x2 H locs ls hi hz hl
      obtain ⟨C2, hCd⟩ : ∃ C : TI → TL → TA → Int32 → Prop, C = fun I L A x2 => ∃ μ', μ' < μ ∧ Inv μ' I L A x2 := ⟨_, rfl⟩
      have hC2 : ∀ (I : TI) (L : TL) (A : TA) (x2 : Int32) (H : Heap) (locs : List Loc) (ls : Array Slot), C2 I L A x2 → SS K s I L A H locs → lv_has ls 3 [(0, .ref o0), (1, .int i1), (2, .int x2)] → W p (cxl K) e (headSpec wsX7_clear (rmF 0 0)).room s m ([.ref o0, .int i1] : List Value).toArray below meth c H locs 0 0 (MQ below (cxQv K Q) ([.ref o0, .int i1] : List Value).toArray s 0 0 (PA (cxb K))) (F0 m 2 ls []) := by
        intro I L A x2 H locs ls hc hz hl
        rw [hCd] at hc
        obtain ⟨μ', hlt, hc⟩ := hc
        exact ih μ' hlt I L A x2 H locs ls hc hz hl
      have hwp := hst μ C2 (fun μ' I L A x2 hlt hc => by rw [hCd]; exact ⟨μ', hlt, hc⟩) I L A x2 hi
      refine lv_iload_n hx hb dX7_clear_2 rfl (lv_at hl 2 rfl) ?_
      refine lv_bipush (v := 8) hx hb dX7_clear_3 (by decide) ?_
      refine lv_icmp_ge (tgt := 26) hx hb dX7_clear_5 (by decide) (fun q => ?_) (fun q => ?_)
      · have hwp := hwp.1 q
        exact sw_vret hx hb hret hlocks hz hwp dX7_clear_26
      · have hwp := hwp.2 q
        refine lv_aload_n hx hb dX7_clear_8 rfl (lv_at hl 0 rfl) ?_
        obtain ⟨hs1, hwp⟩ := hwp
        refine sw_get (C := RX7) (T := TX7) (N := 25) (v := .ref (o0 + 1)) hx hb hts hw0 hown hK hz hs1 rfl 1 (by decide) hw1 (fun _ h9 => h9) rfl dX7_clear_9 ?_
        refine lv_bipush (v := 8) hx hb dX7_clear_12 (by decide) ?_
        refine lv_iload_n hx hb dX7_clear_14 rfl (lv_at hl 1 rfl) ?_
        refine lv_imul hx hb dX7_clear_15 ?_
        refine lv_iload_n hx hb dX7_clear_16 rfl (lv_at hl 2 rfl) ?_
        refine lv_iadd hx hb dX7_clear_17 ?_
        refine lv_lconst (v := 0) hx hb dX7_clear_18 (by decide) ?_
        obtain ⟨ho2, hwp⟩ := hwp
        refine sw_last hx hb hK hz ho2 dX7_clear_19 (fun H locs L3 e_L3 hz => ?_)
        have hwp := hwp L3 e_L3
        obtain ⟨v4, q_v4⟩ : ∃ y : Int32, y = x2 + 1 := ⟨_, rfl⟩
        have hwp := hwp v4 q_v4
        refine lv_iinc (v := v4) (lv' := [(2, .int v4), (0, .ref o0), (1, .int i1)]) hx hb dX7_clear_20 hl (k := 2) rfl (by rw [q_v4]; rfl) (by decide) rfl (fun ls hl => ?_)
        refine lv_goto (tgt := 2) hx hb dX7_clear_23 (by decide) ?_
        exact hC2 _ _ _ _ _ _ _ hwp hz (lv_sub hl [1, 2, 0] rfl)
    exact key μ I L A x2 H locs ls hi hz hl
  refine lv_iconst (v := 0) hx hb dX7_clear_0 (by decide) ?_
  refine lv_istore_n (lv' := [(2, .int 0), (0, .ref o0), (1, .int i1)]) hx hb dX7_clear_1 rfl hl (by decide) rfl (fun ls hl => ?_)
  exact wL2 _ _ _ _ _ _ _ hwp hz (lv_sub hl [1, 2, 0] rfl)

def wp_X7_isZero (K : Cx) (I : TI) (L : TL) (A : TA) (o0 : Nat) (i1 : Int32) (Q : Int32 → TI → TL → TA → Prop) : Prop := cxS K o0 = shX7 o0 ∧ ∃ P2 : Int32 → TI → TL → TA → Prop, ConI K yX7_degreeOf wsX7_degreeOf 0 0 I L A [.ref o0, .int i1] P2 ∧ ∀ (r7 : Int32) (I4 : TI) (L5 : TL) (A6 : TA), P2 r7 I4 L5 A6 → ((0 ≤ r7 → Q 0 I4 L5 A6) ∧ (¬ 0 ≤ r7 → Q 1 I4 L5 A6))
set_option maxHeartbeats 1000000 in
set_option maxRecDepth 100000 in
theorem w_X7_isZero (K : Cx) (I : TI) (L : TL) (A : TA) (o0 : Nat) (i1 : Int32) (Q : Int32 → TI → TL → TA → Prop) (hwp : wp_X7_isZero K I L A o0 i1 Q) : ConI K yX7_isZero wsX7_isZero 1 22 I L A [.ref o0, .int i1] Q := by
  intro hK sz
  refine Met.ofW (cc := cX7_isZero) (maxL := 2) (ret := (some .boolean)) (by decide) rfl ?_
  intro p e s m args below meth c s₁ B hml hv
  obtain ⟨rfl, hsz, hB⟩ := hv
  have hx := B.exec
  have hb := B.bytes
  have hret := B.returns
  have hts := atoms_spec (ws := wsX7_isZero) B.pre
  have hown : s.vm.findClass RX7 = some m.cls := findClass_of_methodNamed B.named
  have hlocks := B.notSynchronized
  subst hsz
  have hz : SS K s I L A s.heap [] := PS.start hB
  have hl := lv_entry ([.ref o0, .int i1]) (n := 2) (Nat.le_of_ble_eq_true rfl)
  rw [lg_entry_eq]
  generalize (lg_sl ([.ref o0, .int i1]) ++ List.replicate (2 - (lg_sl ([.ref o0, .int i1])).length) Slot.unset).toArray = ls at hl ⊢
  have hl : lv_has ls 2 [(0, .ref o0), (1, .int i1)] := hl
  clear hB B
  refine lv_aload_n hx hb dX7_isZero_0 rfl (lv_at hl 0 rfl) ?_
  refine lv_iload_n hx hb dX7_isZero_1 rfl (lv_at hl 1 rfl) ?_
  obtain ⟨hs1, hwp⟩ := hwp
  obtain ⟨P2, hc3, hwp⟩ := hwp
  refine sw_calli hz (va_runV (As := [.int i1]) (rest := []) ⟨hx, hb, hml, hown, hts⟩ (hc3 hK _) (cwV 1 hts gX7_isZero_X7_degreeOf rfl rfl rfl (by decide +kernel) ⟨Nat.le_of_ble_eq_true rfl, Nat.le_of_ble_eq_true rfl⟩) (hz.preV hK hs1 rfl) rfl rfl hl.1 rfl (lv_room (Nat.le_of_ble_eq_true rfl)) dX7_isZero_2 ⟨Nat.le_of_ble_eq_true rfl, Nat.le_of_ble_eq_true rfl⟩) (fun r7 I4 L5 A6 H locs hp hz => ?_)
  have hwp := hwp r7 I4 L5 A6 hp
  refine lv_if_ge (tgt := 12) hx hb dX7_isZero_5 (by decide) (fun q => ?_) (fun q => ?_)
  · have hwp := hwp.1 q
    refine lv_iconst (v := 0) hx hb dX7_isZero_12 (by decide) ?_
    exact sw_zret hx hb hret hlocks hz (Or.inl rfl) hwp dX7_isZero_13
  · have hwp := hwp.2 q
    refine lv_iconst (v := 1) hx hb dX7_isZero_8 (by decide) ?_
    refine lv_goto (tgt := 13) hx hb dX7_isZero_9 (by decide) ?_
    exact sw_zret hx hb hret hlocks hz (Or.inr rfl) hwp dX7_isZero_13

def wp_X7_gcd_28 (K : Cx) (j0 : Int64) (j2 : Int64) (I : TI) (L : TL) (A : TA) (x4 : Int64) (x6 : Int64) (Q : Int64 → TI → TL → TA → Prop) : Prop := ∃ (Inv : Nat → TI → TL → TA → Int64 → Int64 → Prop) (μ : Nat), Inv μ I L A x4 x6 ∧ ∀ (μ : Nat) (C28 : TI → TL → TA → Int64 → Int64 → Prop), (∀ (μ' : Nat) (I : TI) (L : TL) (A : TA) (x4 : Int64) (x6 : Int64) , μ' < μ → Inv μ' I L A x4 x6 → C28 I L A x4 x6) → ∀ (I : TI) (L : TL) (A : TA) (x4 : Int64) (x6 : Int64) , Inv μ I L A x4 x6 → ((x6 = 0 → Q x4 I L A) ∧ (¬ x6 = 0 → ¬ x6 = 0 ∧ ∀ v2 : Int64, v2 = (x4 - x4 / x6 * x6) → C28 I L A x6 v2))
def wp_X7_gcd_12 (K : Cx) (j0 : Int64) (j2 : Int64) (I : TI) (L : TL) (A : TA) (y0 : Int64) (Q : Int64 → TI → TL → TA → Prop) : Prop := ((0 ≤ j2 → wp_X7_gcd_28 K j0 j2 I L A y0 j2 Q) ∧ (¬ 0 ≤ j2 → ∀ v3 : Int64, v3 = (-j2) → wp_X7_gcd_28 K j0 j2 I L A y0 v3 Q))
def wp_X7_gcd (K : Cx) (I : TI) (L : TL) (A : TA) (j0 : Int64) (j2 : Int64) (Q : Int64 → TI → TL → TA → Prop) : Prop := ((0 ≤ j0 → wp_X7_gcd_12 K j0 j2 I L A j0 Q) ∧ (¬ 0 ≤ j0 → wp_X7_gcd_12 K j0 j2 I L A (-j0) Q))
set_option maxHeartbeats 1000000 in
set_option maxRecDepth 100000 in
theorem w_X7_gcd (K : Cx) (I : TI) (L : TL) (A : TA) (j0 : Int64) (j2 : Int64) (Q : Int64 → TI → TL → TA → Prop) (hwp : wp_X7_gcd K I L A j0 j2 Q) : ConL K yX7_gcd wsX7_gcd 0 0 I L A [.long j0, .long j2] Q := by
  intro hK sz
  refine Met.ofW (cc := cX7_gcd) (maxL := 10) (ret := (some .long)) (by decide) rfl ?_
  intro p e s m args below meth c s₁ B hml hv
  obtain ⟨rfl, hsz, hB⟩ := hv
  have hx := B.exec
  have hb := B.bytes
  have hret := B.returns
  have hts := atoms_spec (ws := wsX7_gcd) B.pre
  have hown : s.vm.findClass RX7 = some m.cls := findClass_of_methodNamed B.named
  have hlocks := B.notSynchronized
  subst hsz
  have hz : SS K s I L A s.heap [] := PS.start hB
  have hl := lv_entry ([.long j0, .long j2]) (n := 10) (Nat.le_of_ble_eq_true rfl)
  rw [lg_entry_eq]
  generalize (lg_sl ([.long j0, .long j2]) ++ List.replicate (10 - (lg_sl ([.long j0, .long j2])).length) Slot.unset).toArray = ls at hl ⊢
  have hl : lv_has ls 10 [(0, .long j0), (2, .long j2)] := hl
  clear hB B
  have wL28 : ∀ (I : TI) (L : TL) (A : TA) (x4 : Int64) (x6 : Int64) (H : Heap) (locs : List Loc) (ls : Array Slot), wp_X7_gcd_28 K j0 j2 I L A x4 x6 Q → SS K s I L A H locs → lv_has ls 10 [(4, .long x4), (6, .long x6)] → W p (cxl K) e (headSpec wsX7_gcd (rmF 0 0)).room s m ([.long j0, .long j2] : List Value).toArray below meth c H locs 0 0 (MQ below (cxQl K Q) ([.long j0, .long j2] : List Value).toArray s 0 0 (PA (cxb K))) (F0 m 28 ls []) := by
    intro I L A x4 x6 H locs ls hwp hz hl
    obtain ⟨Inv, μ, hi, hst⟩ := hwp
    have key : ∀ (μ : Nat) (I : TI) (L : TL) (A : TA) (x4 : Int64) (x6 : Int64) (H : Heap) (locs : List Loc) (ls : Array Slot), Inv μ I L A x4 x6 → SS K s I L A H locs → lv_has ls 10 [(4, .long x4), (6, .long x6)] → W p (cxl K) e (headSpec wsX7_gcd (rmF 0 0)).room s m ([.long j0, .long j2] : List Value).toArray below meth c H locs 0 0 (MQ below (cxQl K Q) ([.long j0, .long j2] : List Value).toArray s 0 0 (PA (cxb K))) (F0 m 28 ls []) := by
      clear hi hz hl
      intro μ
      induction μ using Nat.strongRecOn with | ind μ ih => ?_
      intro I L A x4 x6 H locs ls hi hz hl
      obtain ⟨C28, hCd⟩ : ∃ C : TI → TL → TA → Int64 → Int64 → Prop, C = fun I L A x4 x6 => ∃ μ', μ' < μ ∧ Inv μ' I L A x4 x6 := ⟨_, rfl⟩
      have hC28 : ∀ (I : TI) (L : TL) (A : TA) (x4 : Int64) (x6 : Int64) (H : Heap) (locs : List Loc) (ls : Array Slot), C28 I L A x4 x6 → SS K s I L A H locs → lv_has ls 10 [(4, .long x4), (6, .long x6)] → W p (cxl K) e (headSpec wsX7_gcd (rmF 0 0)).room s m ([.long j0, .long j2] : List Value).toArray below meth c H locs 0 0 (MQ below (cxQl K Q) ([.long j0, .long j2] : List Value).toArray s 0 0 (PA (cxb K))) (F0 m 28 ls []) := by
        intro I L A x4 x6 H locs ls hc hz hl
        rw [hCd] at hc
        obtain ⟨μ', hlt, hc⟩ := hc
        exact ih μ' hlt I L A x4 x6 H locs ls hc hz hl
      have hwp := hst μ C28 (fun μ' I L A x4 x6 hlt hc => by rw [hCd]; exact ⟨μ', hlt, hc⟩) I L A x4 x6 hi
      refine lv_lload hx hb dX7_gcd_28 (lv_at hl 1 rfl) ?_
      refine lv_lconst (v := 0) hx hb dX7_gcd_30 (by decide) ?_
      refine W.lcmp hx hb dX7_gcd_31 ?_
      refine W.eq (g2 := F0 m 32 ls [.int (lg_cmp x6 0)]) rfl ?_
      refine lv_if_eq (tgt := 53) hx hb dX7_gcd_32 (by decide) (fun q => ?_) (fun q => ?_)
      · have hwp := hwp.1 ((lg_cmp_eq _ _).mp q)
        refine lv_lload hx hb dX7_gcd_53 (lv_at hl 0 rfl) ?_
        exact sw_lret hx hb hret hlocks hz hwp dX7_gcd_55
      · have hwp := hwp.2 (fun h => q ((lg_cmp_eq _ _).mpr h))
        refine lv_lload hx hb dX7_gcd_35 (lv_at hl 0 rfl) ?_
        refine lv_lload hx hb dX7_gcd_37 (lv_at hl 1 rfl) ?_
        obtain ⟨hn1, hwp⟩ := hwp
        refine lv_lrem hx hb dX7_gcd_39 hn1 ?_
        refine lv_topl (fun v2 q_v2 => ?_)
        have hwp := hwp v2 q_v2
        refine lv_lstore (lv' := [(8, .long v2), (4, .long x4), (6, .long x6)]) hx hb dX7_gcd_40 hl (by decide) rfl (fun ls hl => ?_)
        refine lv_lload hx hb dX7_gcd_42 (lv_at hl 2 rfl) ?_
        refine lv_lstore (lv' := [(4, .long x6), (8, .long v2), (6, .long x6)]) hx hb dX7_gcd_44 hl (by decide) rfl (fun ls hl => ?_)
        refine lv_lload hx hb dX7_gcd_46 (lv_at hl 1 rfl) ?_
        refine lv_lstore (lv' := [(6, .long v2), (4, .long x6), (8, .long v2)]) hx hb dX7_gcd_48 hl (by decide) rfl (fun ls hl => ?_)
        refine lv_goto (tgt := 28) hx hb dX7_gcd_50 (by decide) ?_
        exact hC28 _ _ _ _ _ _ _ _ hwp hz (lv_sub hl [1, 0] rfl)
    exact key μ I L A x4 x6 H locs ls hi hz hl
  have wL12 : ∀ (I : TI) (L : TL) (A : TA) (y0 : Int64) (H : Heap) (locs : List Loc) (ls : Array Slot), wp_X7_gcd_12 K j0 j2 I L A y0 Q → SS K s I L A H locs → lv_has ls 10 [(2, .long j2)] → W p (cxl K) e (headSpec wsX7_gcd (rmF 0 0)).room s m ([.long j0, .long j2] : List Value).toArray below meth c H locs 0 0 (MQ below (cxQl K Q) ([.long j0, .long j2] : List Value).toArray s 0 0 (PA (cxb K))) (F0 m 12 ls [.long y0]) := by
    intro I L A y0 H locs ls hwp hz hl
    refine lv_lstore (lv' := [(4, .long y0), (2, .long j2)]) hx hb dX7_gcd_12 hl (by decide) rfl (fun ls hl => ?_)
    refine lv_lload_n hx hb dX7_gcd_14 rfl (lv_at hl 1 rfl) ?_
    refine lv_lconst (v := 0) hx hb dX7_gcd_15 (by decide) ?_
    refine W.lcmp hx hb dX7_gcd_16 ?_
    refine W.eq (g2 := F0 m 17 ls [.int (lg_cmp j2 0)]) rfl ?_
    refine lv_if_ge (tgt := 25) hx hb dX7_gcd_17 (by decide) (fun q => ?_) (fun q => ?_)
    · have hwp := hwp.1 ((lg_cmp_ge _ _).mp q)
      refine lv_lload_n hx hb dX7_gcd_25 rfl (lv_at hl 1 rfl) ?_
      refine lv_lstore (lv' := [(6, .long j2), (4, .long y0), (2, .long j2)]) hx hb dX7_gcd_26 hl (by decide) rfl (fun ls hl => ?_)
      exact wL28 _ _ _ _ _ _ _ _ hwp hz (lv_sub hl [1, 0] rfl)
    · have hwp := hwp.2 (fun h => q ((lg_cmp_ge _ _).mpr h))
      refine lv_lload_n hx hb dX7_gcd_20 rfl (lv_at hl 1 rfl) ?_
      refine lv_lneg hx hb dX7_gcd_21 ?_
      refine lv_goto (tgt := 26) hx hb dX7_gcd_22 (by decide) ?_
      refine lv_topl (fun v3 q_v3 => ?_)
      have hwp := hwp v3 q_v3
      refine lv_lstore (lv' := [(6, .long v3), (4, .long y0), (2, .long j2)]) hx hb dX7_gcd_26 hl (by decide) rfl (fun ls hl => ?_)
      exact wL28 _ _ _ _ _ _ _ _ hwp hz (lv_sub hl [1, 0] rfl)
  refine lv_lload_n hx hb dX7_gcd_0 rfl (lv_at hl 0 rfl) ?_
  refine lv_lconst (v := 0) hx hb dX7_gcd_1 (by decide) ?_
  refine W.lcmp hx hb dX7_gcd_2 ?_
  refine W.eq (g2 := F0 m 3 ls [.int (lg_cmp j0 0)]) rfl ?_
  refine lv_if_ge (tgt := 11) hx hb dX7_gcd_3 (by decide) (fun q => ?_) (fun q => ?_)
  · have hwp := hwp.1 ((lg_cmp_ge _ _).mp q)
    refine lv_lload_n hx hb dX7_gcd_11 rfl (lv_at hl 0 rfl) ?_
    exact wL12 _ _ _ _ _ _ _ hwp hz (lv_sub hl [1] rfl)
  · have hwp := hwp.2 (fun h => q ((lg_cmp_ge _ _).mpr h))
    refine lv_lload_n hx hb dX7_gcd_6 rfl (lv_at hl 0 rfl) ?_
    refine lv_lneg hx hb dX7_gcd_7 ?_
    refine lv_goto (tgt := 12) hx hb dX7_gcd_8 (by decide) ?_
    exact wL12 _ _ _ _ _ _ _ hwp hz (lv_sub hl [1] rfl)

def wp_X7_takeContent_74 (K : Cx) (o0 : Nat) (i1 : Int32) (I : TI) (L : TL) (A : TA) (x2 : Int64) (x5 : Int32) (Q : Int64 → TI → TL → TA → Prop) : Prop := ∃ (Inv : Nat → TI → TL → TA → Int64 → Int32 → Prop) (μ : Nat), Inv μ I L A x2 x5 ∧ ∀ (μ : Nat) (C74 : TI → TL → TA → Int64 → Int32 → Prop), (∀ (μ' : Nat) (I : TI) (L : TL) (A : TA) (x2 : Int64) (x5 : Int32) , μ' < μ → Inv μ' I L A x2 x5 → C74 I L A x2 x5) → ∀ (I : TI) (L : TL) (A : TA) (x2 : Int64) (x5 : Int32) , Inv μ I L A x2 x5 → ((8 ≤ x5 → Q x2 I L A) ∧ (¬ 8 ≤ x5 → ((x2 = 0 → Q x2 I L A) ∧ (¬ x2 = 0 → cxS K o0 = shX7 o0 ∧ aok (cxS K) (o0 + 1) 1 ((8 * i1) + x5) ∧ ¬ x2 = 0 ∧ aok (cxS K) (o0 + 1) 1 ((8 * i1) + x5) ∧ ∀ L5 : TL, L5 = u2 L (o0 + 1) (ix ((8 * i1) + x5)) ((L (o0 + 1) (ix ((8 * i1) + x5))) / x2) → ∀ v6 : Int32, v6 = x5 + 1 → C74 I L5 A x2 v6))))
def wp_X7_takeContent_5 (K : Cx) (o0 : Nat) (i1 : Int32) (I : TI) (L : TL) (A : TA) (x2 : Int64) (x4 : Int32) (Q : Int64 → TI → TL → TA → Prop) : Prop := ∃ (Inv : Nat → TI → TL → TA → Int64 → Int32 → Prop) (μ : Nat), Inv μ I L A x2 x4 ∧ ∀ (μ : Nat) (C5 : TI → TL → TA → Int64 → Int32 → Prop), (∀ (μ' : Nat) (I : TI) (L : TL) (A : TA) (x2 : Int64) (x4 : Int32) , μ' < μ → Inv μ' I L A x2 x4 → C5 I L A x2 x4) → ∀ (I : TI) (L : TL) (A : TA) (x2 : Int64) (x4 : Int32) , Inv μ I L A x2 x4 → ((8 ≤ x4 → cxS K o0 = shX7 o0 ∧ ∃ P8 : Int32 → TI → TL → TA → Prop, ConI K yX7_degreeOf wsX7_degreeOf 0 0 I L A [.ref o0, .int i1] P8 ∧ ∀ (r13 : Int32) (I10 : TI) (L11 : TL) (A12 : TA), P8 r13 I10 L11 A12 → ((r13 < 0 → wp_X7_takeContent_74 K o0 i1 I10 L11 A12 x2 0 Q) ∧ (¬ r13 < 0 → aok (cxS K) (o0 + 1) 1 ((8 * i1) + r13) ∧ ((0 ≤ (L11 (o0 + 1) (ix ((8 * i1) + r13))) → wp_X7_takeContent_74 K o0 i1 I10 L11 A12 x2 0 Q) ∧ (¬ 0 ≤ (L11 (o0 + 1) (ix ((8 * i1) + r13))) → ∀ v15 : Int64, v15 = (-x2) → wp_X7_takeContent_74 K o0 i1 I10 L11 A12 v15 0 Q))))) ∧ (¬ 8 ≤ x4 → cxS K o0 = shX7 o0 ∧ aok (cxS K) (o0 + 1) 1 ((8 * i1) + x4) ∧ ∃ P18 : Int64 → TI → TL → TA → Prop, ConL K yX7_gcd wsX7_gcd 0 0 I L A [.long x2, .long (L (o0 + 1) (ix ((8 * i1) + x4)))] P18 ∧ ∀ (r23 : Int64) (I20 : TI) (L21 : TL) (A22 : TA), P18 r23 I20 L21 A22 → ∀ v24 : Int32, v24 = x4 + 1 → C5 I20 L21 A22 r23 v24))
def wp_X7_takeContent (K : Cx) (I : TI) (L : TL) (A : TA) (o0 : Nat) (i1 : Int32) (Q : Int64 → TI → TL → TA → Prop) : Prop := wp_X7_takeContent_5 K o0 i1 I L A 0 0 Q
set_option maxHeartbeats 1000000 in
set_option maxRecDepth 100000 in
theorem w_X7_takeContent (K : Cx) (I : TI) (L : TL) (A : TA) (o0 : Nat) (i1 : Int32) (Q : Int64 → TI → TL → TA → Prop) (hwp : wp_X7_takeContent K I L A o0 i1 Q) : ConL K yX7_takeContent wsX7_takeContent 1 29 I L A [.ref o0, .int i1] Q := by
  intro hK sz
  refine Met.ofW (cc := cX7_takeContent) (maxL := 6) (ret := (some .long)) (by decide) rfl ?_
  intro p e s m args below meth c s₁ B hml hv
  obtain ⟨rfl, hsz, hB⟩ := hv
  have hx := B.exec
  have hb := B.bytes
  have hret := B.returns
  have hts := atoms_spec (ws := wsX7_takeContent) B.pre
  have hown : s.vm.findClass RX7 = some m.cls := findClass_of_methodNamed B.named
  have hlocks := B.notSynchronized
  subst hsz
  have hz : SS K s I L A s.heap [] := PS.start hB
  have hl := lv_entry ([.ref o0, .int i1]) (n := 6) (Nat.le_of_ble_eq_true rfl)
  rw [lg_entry_eq]
  generalize (lg_sl ([.ref o0, .int i1]) ++ List.replicate (6 - (lg_sl ([.ref o0, .int i1])).length) Slot.unset).toArray = ls at hl ⊢
  have hl : lv_has ls 6 [(0, .ref o0), (1, .int i1)] := hl
  have hw0 : ∀ w ∈ u_ws RX7 TX7 25, w ∈ wsX7_takeContent := by decide +kernel
  have hw1 := hts (.fieldLink RX7 7 "GaloisDeskModel" "row" "[J") (by decide +kernel)
  clear hB B
  have wL74 : ∀ (I : TI) (L : TL) (A : TA) (x2 : Int64) (x5 : Int32) (H : Heap) (locs : List Loc) (ls : Array Slot), wp_X7_takeContent_74 K o0 i1 I L A x2 x5 Q → SS K s I L A H locs → lv_has ls 6 [(0, .ref o0), (1, .int i1), (2, .long x2), (5, .int x5)] → W p (cxl K) e (headSpec wsX7_takeContent (rmF 1 29)).room s m ([.ref o0, .int i1] : List Value).toArray below meth c H locs 0 0 (MQ below (cxQl K Q) ([.ref o0, .int i1] : List Value).toArray s 0 0 (PA (cxb K))) (F0 m 74 ls []) := by
    intro I L A x2 x5 H locs ls hwp hz hl
    obtain ⟨Inv, μ, hi, hst⟩ := hwp
    have key : ∀ (μ : Nat) (I : TI) (L : TL) (A : TA) (x2 : Int64) (x5 : Int32) (H : Heap) (locs : List Loc) (ls : Array Slot), Inv μ I L A x2 x5 → SS K s I L A H locs → lv_has ls 6 [(0, .ref o0), (1, .int i1), (2, .long x2), (5, .int x5)] → W p (cxl K) e (headSpec wsX7_takeContent (rmF 1 29)).room s m ([.ref o0, .int i1] : List Value).toArray below meth c H locs 0 0 (MQ below (cxQl K Q) ([.ref o0, .int i1] : List Value).toArray s 0 0 (PA (cxb K))) (F0 m 74 ls []) := by
      clear hi hz hl
      intro μ
      induction μ using Nat.strongRecOn with | ind μ ih => ?_
      intro I L A x2 x5 H locs ls hi hz hl
      obtain ⟨C74, hCd⟩ : ∃ C : TI → TL → TA → Int64 → Int32 → Prop, C = fun I L A x2 x5 => ∃ μ', μ' < μ ∧ Inv μ' I L A x2 x5 := ⟨_, rfl⟩
      have hC74 : ∀ (I : TI) (L : TL) (A : TA) (x2 : Int64) (x5 : Int32) (H : Heap) (locs : List Loc) (ls : Array Slot), C74 I L A x2 x5 → SS K s I L A H locs → lv_has ls 6 [(0, .ref o0), (1, .int i1), (2, .long x2), (5, .int x5)] → W p (cxl K) e (headSpec wsX7_takeContent (rmF 1 29)).room s m ([.ref o0, .int i1] : List Value).toArray below meth c H locs 0 0 (MQ below (cxQl K Q) ([.ref o0, .int i1] : List Value).toArray s 0 0 (PA (cxb K))) (F0 m 74 ls []) := by
        intro I L A x2 x5 H locs ls hc hz hl
        rw [hCd] at hc
        obtain ⟨μ', hlt, hc⟩ := hc
        exact ih μ' hlt I L A x2 x5 H locs ls hc hz hl
      have hwp := hst μ C74 (fun μ' I L A x2 x5 hlt hc => by rw [hCd]; exact ⟨μ', hlt, hc⟩) I L A x2 x5 hi
      refine lv_iload hx hb dX7_takeContent_74 (lv_at hl 3 rfl) ?_
      refine lv_bipush (v := 8) hx hb dX7_takeContent_76 (by decide) ?_
      refine lv_icmp_ge (tgt := 119) hx hb dX7_takeContent_78 (by decide) (fun q => ?_) (fun q => ?_)
      · have hwp := hwp.1 q
        refine lv_lload_n hx hb dX7_takeContent_119 rfl (lv_at hl 2 rfl) ?_
        exact sw_lret hx hb hret hlocks hz hwp dX7_takeContent_120
      · have hwp := hwp.2 q
        refine lv_lload_n hx hb dX7_takeContent_81 rfl (lv_at hl 2 rfl) ?_
        refine lv_lconst (v := 0) hx hb dX7_takeContent_82 (by decide) ?_
        refine W.lcmp hx hb dX7_takeContent_83 ?_
        refine W.eq (g2 := F0 m 84 ls [.int (lg_cmp x2 0)]) rfl ?_
        refine lv_if_eq (tgt := 119) hx hb dX7_takeContent_84 (by decide) (fun q => ?_) (fun q => ?_)
        · have hwp := hwp.1 ((lg_cmp_eq _ _).mp q)
          refine lv_lload_n hx hb dX7_takeContent_119 rfl (lv_at hl 2 rfl) ?_
          exact sw_lret hx hb hret hlocks hz hwp dX7_takeContent_120
        · have hwp := hwp.2 (fun h => q ((lg_cmp_eq _ _).mpr h))
          refine lv_aload_n hx hb dX7_takeContent_87 rfl (lv_at hl 0 rfl) ?_
          obtain ⟨hs1, hwp⟩ := hwp
          refine sw_get (C := RX7) (T := TX7) (N := 25) (v := .ref (o0 + 1)) hx hb hts hw0 hown hK hz hs1 rfl 1 (by decide) hw1 (fun _ h9 => h9) rfl dX7_takeContent_88 ?_
          refine lv_bipush (v := 8) hx hb dX7_takeContent_91 (by decide) ?_
          refine lv_iload_n hx hb dX7_takeContent_93 rfl (lv_at hl 1 rfl) ?_
          refine lv_imul hx hb dX7_takeContent_94 ?_
          refine lv_iload hx hb dX7_takeContent_95 (lv_at hl 3 rfl) ?_
          refine lv_iadd hx hb dX7_takeContent_97 ?_
          refine lv_aload_n hx hb dX7_takeContent_98 rfl (lv_at hl 0 rfl) ?_
          refine sw_get (C := RX7) (T := TX7) (N := 25) (v := .ref (o0 + 1)) hx hb hts hw0 hown hK hz hs1 rfl 1 (by decide) hw1 (fun _ h9 => h9) rfl dX7_takeContent_99 ?_
          refine lv_bipush (v := 8) hx hb dX7_takeContent_102 (by decide) ?_
          refine lv_iload_n hx hb dX7_takeContent_104 rfl (lv_at hl 1 rfl) ?_
          refine lv_imul hx hb dX7_takeContent_105 ?_
          refine lv_iload hx hb dX7_takeContent_106 (lv_at hl 3 rfl) ?_
          refine lv_iadd hx hb dX7_takeContent_108 ?_
          obtain ⟨ho2, hwp⟩ := hwp
          refine sw_lald hx hb hK hz ho2 dX7_takeContent_109 ?_
          refine lv_lload_n hx hb dX7_takeContent_110 rfl (lv_at hl 2 rfl) ?_
          obtain ⟨hn3, hwp⟩ := hwp
          refine lv_ldiv hx hb dX7_takeContent_111 hn3 ?_
          obtain ⟨ho4, hwp⟩ := hwp
          refine sw_last hx hb hK hz ho4 dX7_takeContent_112 (fun H locs L5 e_L5 hz => ?_)
          have hwp := hwp L5 e_L5
          obtain ⟨v6, q_v6⟩ : ∃ y : Int32, y = x5 + 1 := ⟨_, rfl⟩
          have hwp := hwp v6 q_v6
          refine lv_iinc (v := v6) (lv' := [(5, .int v6), (0, .ref o0), (1, .int i1), (2, .long x2)]) hx hb dX7_takeContent_113 hl (k := 3) rfl (by rw [q_v6]; rfl) (by decide) rfl (fun ls hl => ?_)
          refine lv_goto (tgt := 74) hx hb dX7_takeContent_116 (by decide) ?_
          exact hC74 _ _ _ _ _ _ _ _ hwp hz (lv_sub hl [1, 2, 3, 0] rfl)
    exact key μ I L A x2 x5 H locs ls hi hz hl
  have wL5 : ∀ (I : TI) (L : TL) (A : TA) (x2 : Int64) (x4 : Int32) (H : Heap) (locs : List Loc) (ls : Array Slot), wp_X7_takeContent_5 K o0 i1 I L A x2 x4 Q → SS K s I L A H locs → lv_has ls 6 [(0, .ref o0), (1, .int i1), (2, .long x2), (4, .int x4)] → W p (cxl K) e (headSpec wsX7_takeContent (rmF 1 29)).room s m ([.ref o0, .int i1] : List Value).toArray below meth c H locs 0 0 (MQ below (cxQl K Q) ([.ref o0, .int i1] : List Value).toArray s 0 0 (PA (cxb K))) (F0 m 5 ls []) := by
    intro I L A x2 x4 H locs ls hwp hz hl
    obtain ⟨Inv, μ, hi, hst⟩ := hwp
    have key : ∀ (μ : Nat) (I : TI) (L : TL) (A : TA) (x2 : Int64) (x4 : Int32) (H : Heap) (locs : List Loc) (ls : Array Slot), Inv μ I L A x2 x4 → SS K s I L A H locs → lv_has ls 6 [(0, .ref o0), (1, .int i1), (2, .long x2), (4, .int x4)] → W p (cxl K) e (headSpec wsX7_takeContent (rmF 1 29)).room s m ([.ref o0, .int i1] : List Value).toArray below meth c H locs 0 0 (MQ below (cxQl K Q) ([.ref o0, .int i1] : List Value).toArray s 0 0 (PA (cxb K))) (F0 m 5 ls []) := by
      clear hi hz hl
      intro μ
      induction μ using Nat.strongRecOn with | ind μ ih => ?_
      intro I L A x2 x4 H locs ls hi hz hl
      obtain ⟨C5, hCd⟩ : ∃ C : TI → TL → TA → Int64 → Int32 → Prop, C = fun I L A x2 x4 => ∃ μ', μ' < μ ∧ Inv μ' I L A x2 x4 := ⟨_, rfl⟩
      have hC5 : ∀ (I : TI) (L : TL) (A : TA) (x2 : Int64) (x4 : Int32) (H : Heap) (locs : List Loc) (ls : Array Slot), C5 I L A x2 x4 → SS K s I L A H locs → lv_has ls 6 [(0, .ref o0), (1, .int i1), (2, .long x2), (4, .int x4)] → W p (cxl K) e (headSpec wsX7_takeContent (rmF 1 29)).room s m ([.ref o0, .int i1] : List Value).toArray below meth c H locs 0 0 (MQ below (cxQl K Q) ([.ref o0, .int i1] : List Value).toArray s 0 0 (PA (cxb K))) (F0 m 5 ls []) := by
        intro I L A x2 x4 H locs ls hc hz hl
        rw [hCd] at hc
        obtain ⟨μ', hlt, hc⟩ := hc
        exact ih μ' hlt I L A x2 x4 H locs ls hc hz hl
      have hwp := hst μ C5 (fun μ' I L A x2 x4 hlt hc => by rw [hCd]; exact ⟨μ', hlt, hc⟩) I L A x2 x4 hi
      refine lv_iload hx hb dX7_takeContent_5 (lv_at hl 3 rfl) ?_
      refine lv_bipush (v := 8) hx hb dX7_takeContent_7 (by decide) ?_
      refine lv_icmp_ge (tgt := 35) hx hb dX7_takeContent_9 (by decide) (fun q => ?_) (fun q => ?_)
      · have hwp := hwp.1 q
        refine lv_aload_n hx hb dX7_takeContent_35 rfl (lv_at hl 0 rfl) ?_
        refine lv_iload_n hx hb dX7_takeContent_36 rfl (lv_at hl 1 rfl) ?_
        obtain ⟨hs7, hwp⟩ := hwp
        obtain ⟨P8, hc9, hwp⟩ := hwp
        refine sw_calli hz (va_runV (As := [.int i1]) (rest := []) ⟨hx, hb, hml, hown, hts⟩ (hc9 hK _) (cwV 1 hts gX7_takeContent_X7_degreeOf rfl rfl rfl (by decide +kernel) ⟨Nat.le_of_ble_eq_true rfl, Nat.le_of_ble_eq_true rfl⟩) (hz.preV hK hs7 rfl) rfl rfl hl.1 rfl (lv_room (Nat.le_of_ble_eq_true rfl)) dX7_takeContent_37 ⟨Nat.le_of_ble_eq_true rfl, Nat.le_of_ble_eq_true rfl⟩) (fun r13 I10 L11 A12 H locs hp hz => ?_)
        have hwp := hwp r13 I10 L11 A12 hp
        refine lv_istore (lv' := [(4, .int r13), (0, .ref o0), (1, .int i1), (2, .long x2)]) hx hb dX7_takeContent_40 hl (by decide) rfl (fun ls hl => ?_)
        refine lv_iload hx hb dX7_takeContent_42 (lv_at hl 0 rfl) ?_
        refine lv_if_lt (tgt := 69) hx hb dX7_takeContent_44 (by decide) (fun q => ?_) (fun q => ?_)
        · have hwp := hwp.1 q
          refine lv_lload_n hx hb dX7_takeContent_69 rfl (lv_at hl 3 rfl) ?_
          refine lv_lstore_n (lv' := [(2, .long x2), (4, .int r13), (0, .ref o0), (1, .int i1)]) hx hb dX7_takeContent_70 rfl hl (by decide) rfl (fun ls hl => ?_)
          refine lv_iconst (v := 0) hx hb dX7_takeContent_71 (by decide) ?_
          refine lv_istore (lv' := [(5, .int 0), (2, .long x2), (4, .int r13), (0, .ref o0), (1, .int i1)]) hx hb dX7_takeContent_72 hl (by decide) rfl (fun ls hl => ?_)
          exact wL74 _ _ _ _ _ _ _ _ hwp hz (lv_sub hl [3, 4, 1, 0] rfl)
        · have hwp := hwp.2 q
          refine lv_aload_n hx hb dX7_takeContent_47 rfl (lv_at hl 1 rfl) ?_
          refine sw_get (C := RX7) (T := TX7) (N := 25) (v := .ref (o0 + 1)) hx hb hts hw0 hown hK hz hs7 rfl 1 (by decide) hw1 (fun _ h9 => h9) rfl dX7_takeContent_48 ?_
          refine lv_bipush (v := 8) hx hb dX7_takeContent_51 (by decide) ?_
          refine lv_iload_n hx hb dX7_takeContent_53 rfl (lv_at hl 2 rfl) ?_
          refine lv_imul hx hb dX7_takeContent_54 ?_
          refine lv_iload hx hb dX7_takeContent_55 (lv_at hl 0 rfl) ?_
          refine lv_iadd hx hb dX7_takeContent_57 ?_
          obtain ⟨ho14, hwp⟩ := hwp
          refine sw_lald hx hb hK hz ho14 dX7_takeContent_58 ?_
          refine lv_lconst (v := 0) hx hb dX7_takeContent_59 (by decide) ?_
          refine W.lcmp hx hb dX7_takeContent_60 ?_
          refine W.eq (g2 := F0 m 61 ls [.int (lg_cmp (L11 (o0 + 1) (ix ((8 * i1) + r13))) 0)]) rfl ?_
          refine lv_if_ge (tgt := 69) hx hb dX7_takeContent_61 (by decide) (fun q => ?_) (fun q => ?_)
          · have hwp := hwp.1 ((lg_cmp_ge _ _).mp q)
            refine lv_lload_n hx hb dX7_takeContent_69 rfl (lv_at hl 3 rfl) ?_
            refine lv_lstore_n (lv' := [(2, .long x2), (4, .int r13), (0, .ref o0), (1, .int i1)]) hx hb dX7_takeContent_70 rfl hl (by decide) rfl (fun ls hl => ?_)
            refine lv_iconst (v := 0) hx hb dX7_takeContent_71 (by decide) ?_
            refine lv_istore (lv' := [(5, .int 0), (2, .long x2), (4, .int r13), (0, .ref o0), (1, .int i1)]) hx hb dX7_takeContent_72 hl (by decide) rfl (fun ls hl => ?_)
            exact wL74 _ _ _ _ _ _ _ _ hwp hz (lv_sub hl [3, 4, 1, 0] rfl)
          · have hwp := hwp.2 (fun h => q ((lg_cmp_ge _ _).mpr h))
            refine lv_lload_n hx hb dX7_takeContent_64 rfl (lv_at hl 3 rfl) ?_
            refine lv_lneg hx hb dX7_takeContent_65 ?_
            refine lv_goto (tgt := 70) hx hb dX7_takeContent_66 (by decide) ?_
            refine lv_topl (fun v15 q_v15 => ?_)
            have hwp := hwp v15 q_v15
            refine lv_lstore_n (lv' := [(2, .long v15), (4, .int r13), (0, .ref o0), (1, .int i1)]) hx hb dX7_takeContent_70 rfl hl (by decide) rfl (fun ls hl => ?_)
            refine lv_iconst (v := 0) hx hb dX7_takeContent_71 (by decide) ?_
            refine lv_istore (lv' := [(5, .int 0), (2, .long v15), (4, .int r13), (0, .ref o0), (1, .int i1)]) hx hb dX7_takeContent_72 hl (by decide) rfl (fun ls hl => ?_)
            exact wL74 _ _ _ _ _ _ _ _ hwp hz (lv_sub hl [3, 4, 1, 0] rfl)
      · have hwp := hwp.2 q
        refine lv_lload_n hx hb dX7_takeContent_12 rfl (lv_at hl 2 rfl) ?_
        refine lv_aload_n hx hb dX7_takeContent_13 rfl (lv_at hl 0 rfl) ?_
        obtain ⟨hs16, hwp⟩ := hwp
        refine sw_get (C := RX7) (T := TX7) (N := 25) (v := .ref (o0 + 1)) hx hb hts hw0 hown hK hz hs16 rfl 1 (by decide) hw1 (fun _ h9 => h9) rfl dX7_takeContent_14 ?_
        refine lv_bipush (v := 8) hx hb dX7_takeContent_17 (by decide) ?_
        refine lv_iload_n hx hb dX7_takeContent_19 rfl (lv_at hl 1 rfl) ?_
        refine lv_imul hx hb dX7_takeContent_20 ?_
        refine lv_iload hx hb dX7_takeContent_21 (lv_at hl 3 rfl) ?_
        refine lv_iadd hx hb dX7_takeContent_23 ?_
        obtain ⟨ho17, hwp⟩ := hwp
        refine sw_lald hx hb hK hz ho17 dX7_takeContent_24 ?_
        obtain ⟨P18, hc19, hwp⟩ := hwp
        refine sw_calll hz (va_runS (As := [.long x2, .long (L (o0 + 1) (ix ((8 * i1) + x4)))]) (rest := []) ⟨hx, hb, hml, hown, hts⟩ (hc19 hK _) (va_cwS 2 hts gX7_takeContent_X7_gcd rfl rfl rfl (by decide +kernel) ⟨Nat.le_of_ble_eq_true rfl, Nat.le_of_ble_eq_true rfl⟩) hz.preS rfl rfl hl.1 rfl (lv_room (Nat.le_of_ble_eq_true rfl)) dX7_takeContent_25 ⟨Nat.le_of_ble_eq_true rfl, Nat.le_of_ble_eq_true rfl⟩) (fun r23 I20 L21 A22 H locs hp hz => ?_)
        have hwp := hwp r23 I20 L21 A22 hp
        refine lv_lstore_n (lv' := [(2, .long r23), (0, .ref o0), (1, .int i1), (4, .int x4)]) hx hb dX7_takeContent_28 rfl hl (by decide) rfl (fun ls hl => ?_)
        obtain ⟨v24, q_v24⟩ : ∃ y : Int32, y = x4 + 1 := ⟨_, rfl⟩
        have hwp := hwp v24 q_v24
        refine lv_iinc (v := v24) (lv' := [(4, .int v24), (2, .long r23), (0, .ref o0), (1, .int i1)]) hx hb dX7_takeContent_29 hl (k := 3) rfl (by rw [q_v24]; rfl) (by decide) rfl (fun ls hl => ?_)
        refine lv_goto (tgt := 5) hx hb dX7_takeContent_32 (by decide) ?_
        exact hC5 _ _ _ _ _ _ _ _ hwp hz (lv_sub hl [2, 3, 1, 0] rfl)
    exact key μ I L A x2 x4 H locs ls hi hz hl
  refine lv_lconst (v := 0) hx hb dX7_takeContent_0 (by decide) ?_
  refine lv_lstore_n (lv' := [(2, .long 0), (0, .ref o0), (1, .int i1)]) hx hb dX7_takeContent_1 rfl hl (by decide) rfl (fun ls hl => ?_)
  refine lv_iconst (v := 0) hx hb dX7_takeContent_2 (by decide) ?_
  refine lv_istore (lv' := [(4, .int 0), (2, .long 0), (0, .ref o0), (1, .int i1)]) hx hb dX7_takeContent_3 hl (by decide) rfl (fun ls hl => ?_)
  exact wL5 _ _ _ _ _ _ _ _ hwp hz (lv_sub hl [2, 3, 1, 0] rfl)

def wp_X7_divides_94 (K : Cx) (o0 : Nat) (i1 : Int32) (i2 : Int32) (C41 : TI → TL → TA → Int32 → Int64 → Int32 → Prop) (I : TI) (L : TL) (A : TA) (x3 : Int32) (x4 : Int64) (x6 : Int32) (x9 : Int64) (x11 : Int32) (Q : Int32 → TI → TL → TA → Prop) : Prop := ∃ (Inv : Nat → TI → TL → TA → Int32 → Int64 → Int32 → Int64 → Int32 → Prop) (μ : Nat), Inv μ I L A x3 x4 x6 x9 x11 ∧ ∀ (μ : Nat) (C94 : TI → TL → TA → Int32 → Int64 → Int32 → Int64 → Int32 → Prop), (∀ (μ' : Nat) (I : TI) (L : TL) (A : TA) (x3 : Int32) (x4 : Int64) (x6 : Int32) (x9 : Int64) (x11 : Int32) , μ' < μ → Inv μ' I L A x3 x4 x6 x9 x11 → C94 I L A x3 x4 x6 x9 x11) → ∀ (I : TI) (L : TL) (A : TA) (x3 : Int32) (x4 : Int64) (x6 : Int32) (x9 : Int64) (x11 : Int32) , Inv μ I L A x3 x4 x6 x9 x11 → ((x3 < x11 → ∀ v1 : Int32, v1 = x6 + (-1) → C41 I L A x3 x4 v1) ∧ (¬ x3 < x11 → cxS K o0 = shX7 o0 ∧ aok (cxS K) (o0 + 1) 1 ((72 + x6) + x11) ∧ aok (cxS K) (o0 + 1) 1 ((8 * i1) + x11) ∧ aok (cxS K) (o0 + 1) 1 ((72 + x6) + x11) ∧ ∀ L6 : TL, L6 = u2 L (o0 + 1) (ix ((72 + x6) + x11)) ((L (o0 + 1) (ix ((72 + x6) + x11))) - (x9 * (L (o0 + 1) (ix ((8 * i1) + x11))))) → ∀ v7 : Int32, v7 = x11 + 1 → C94 I L6 A x3 x4 x6 x9 v7))
def wp_X7_divides_41 (K : Cx) (o0 : Nat) (i1 : Int32) (i2 : Int32) (I : TI) (L : TL) (A : TA) (x3 : Int32) (x4 : Int64) (x6 : Int32) (Q : Int32 → TI → TL → TA → Prop) : Prop := ∃ (Inv : Nat → TI → TL → TA → Int32 → Int64 → Int32 → Prop) (μ : Nat), Inv μ I L A x3 x4 x6 ∧ ∀ (μ : Nat) (C41 : TI → TL → TA → Int32 → Int64 → Int32 → Prop), (∀ (μ' : Nat) (I : TI) (L : TL) (A : TA) (x3 : Int32) (x4 : Int64) (x6 : Int32) , μ' < μ → Inv μ' I L A x3 x4 x6 → C41 I L A x3 x4 x6) → ∀ (I : TI) (L : TL) (A : TA) (x3 : Int32) (x4 : Int64) (x6 : Int32) , Inv μ I L A x3 x4 x6 → ((x6 < 0 → cxS K o0 = shX7 o0 ∧ ∃ P9 : Int32 → TI → TL → TA → Prop, ConI K yX7_isZero wsX7_isZero 1 22 I L A [.ref o0, .int 9] P9 ∧ ∀ (r14 : Int32) (I11 : TI) (L12 : TL) (A13 : TA), P9 r14 I11 L12 A13 → (r14 = 0 ∨ r14 = 1) ∧ Q r14 I11 L12 A13) ∧ (¬ x6 < 0 → cxS K o0 = shX7 o0 ∧ aok (cxS K) (o0 + 1) 1 ((72 + x6) + x3) ∧ ∀ v17 : Int64, v17 = (L (o0 + 1) (ix ((72 + x6) + x3))) → ¬ x4 = 0 ∧ (((v17 - v17 / x4 * x4) = 0 → ¬ x4 = 0 ∧ ∀ v20 : Int64, v20 = (v17 / x4) → aok (cxS K) (o0 + 1) 1 (88 + x6) ∧ ∀ L22 : TL, L22 = u2 L (o0 + 1) (ix (88 + x6)) v20 → wp_X7_divides_94 K o0 i1 i2 C41 I L22 A x3 x4 x6 v20 0 Q) ∧ (¬ (v17 - v17 / x4 * x4) = 0 → Q 0 I L A))))
def wp_X7_divides (K : Cx) (I : TI) (L : TL) (A : TA) (o0 : Nat) (i1 : Int32) (i2 : Int32) (Q : Int32 → TI → TL → TA → Prop) : Prop := cxS K o0 = shX7 o0 ∧ ∃ P24 : TI → TL → TA → Prop, ConV K yX7_copy wsX7_copy 0 0 I L A [.ref o0, .int 9, .int i2] P24 ∧ ∀ (I26 : TI) (L27 : TL) (A28 : TA), P24 I26 L27 A28 → ∃ P29 : TI → TL → TA → Prop, ConV K yX7_clear wsX7_clear 0 0 I26 L27 A28 [.ref o0, .int 11] P29 ∧ ∀ (I31 : TI) (L32 : TL) (A33 : TA), P29 I31 L32 A33 → ∃ P34 : Int32 → TI → TL → TA → Prop, ConI K yX7_degreeOf wsX7_degreeOf 0 0 I31 L32 A33 [.ref o0, .int i1] P34 ∧ ∀ (r39 : Int32) (I36 : TI) (L37 : TL) (A38 : TA), P34 r39 I36 L37 A38 → aok (cxS K) (o0 + 1) 1 ((8 * i1) + r39) ∧ ∀ v41 : Int64, v41 = (L37 (o0 + 1) (ix ((8 * i1) + r39))) → ∃ P42 : Int32 → TI → TL → TA → Prop, ConI K yX7_degreeOf wsX7_degreeOf 0 0 I36 L37 A38 [.ref o0, .int i2] P42 ∧ ∀ (r47 : Int32) (I44 : TI) (L45 : TL) (A46 : TA), P42 r47 I44 L45 A46 → ∀ v48 : Int32, v48 = (r47 - r39) → wp_X7_divides_41 K o0 i1 i2 I44 L45 A46 r39 v41 v48 Q
set_option maxHeartbeats 1000000 in
set_option maxRecDepth 100000 in
theorem w_X7_divides (K : Cx) (I : TI) (L : TL) (A : TA) (o0 : Nat) (i1 : Int32) (i2 : Int32) (Q : Int32 → TI → TL → TA → Prop) (hwp : wp_X7_divides K I L A o0 i1 i2 Q) : ConI K yX7_divides wsX7_divides 2 43 I L A [.ref o0, .int i1, .int i2] Q := by
  intro hK sz
  refine Met.ofW (cc := cX7_divides) (maxL := 12) (ret := (some .boolean)) (by decide) rfl ?_
  intro p e s m args below meth c s₁ B hml hv
  obtain ⟨rfl, hsz, hB⟩ := hv
  have hx := B.exec
  have hb := B.bytes
  have hret := B.returns
  have hts := atoms_spec (ws := wsX7_divides) B.pre
  have hown : s.vm.findClass RX7 = some m.cls := findClass_of_methodNamed B.named
  have hlocks := B.notSynchronized
  subst hsz
  have hz : SS K s I L A s.heap [] := PS.start hB
  have hl := lv_entry ([.ref o0, .int i1, .int i2]) (n := 12) (Nat.le_of_ble_eq_true rfl)
  rw [lg_entry_eq]
  generalize (lg_sl ([.ref o0, .int i1, .int i2]) ++ List.replicate (12 - (lg_sl ([.ref o0, .int i1, .int i2])).length) Slot.unset).toArray = ls at hl ⊢
  have hl : lv_has ls 12 [(0, .ref o0), (1, .int i1), (2, .int i2)] := hl
  have hw0 : ∀ w ∈ u_ws RX7 TX7 25, w ∈ wsX7_divides := by decide +kernel
  have hw1 := hts (.fieldLink RX7 7 "GaloisDeskModel" "row" "[J") (by decide +kernel)
  clear hB B
  have wL94 : ∀ (C41 : TI → TL → TA → Int32 → Int64 → Int32 → Prop) (hC41 : ∀ (I : TI) (L : TL) (A : TA) (x3 : Int32) (x4 : Int64) (x6 : Int32) (H : Heap) (locs : List Loc) (ls : Array Slot), C41 I L A x3 x4 x6 → SS K s I L A H locs → lv_has ls 12 [(0, .ref o0), (1, .int i1), (3, .int x3), (4, .long x4), (6, .int x6)] → W p (cxl K) e (headSpec wsX7_divides (rmF 2 43)).room s m ([.ref o0, .int i1, .int i2] : List Value).toArray below meth c H locs 0 0 (MQ below (cxQi K Q) ([.ref o0, .int i1, .int i2] : List Value).toArray s 0 0 (PA (cxb K))) (F0 m 41 ls [])) (I : TI) (L : TL) (A : TA) (x3 : Int32) (x4 : Int64) (x6 : Int32) (x9 : Int64) (x11 : Int32) (H : Heap) (locs : List Loc) (ls : Array Slot), wp_X7_divides_94 K o0 i1 i2 C41 I L A x3 x4 x6 x9 x11 Q → SS K s I L A H locs → lv_has ls 12 [(0, .ref o0), (1, .int i1), (3, .int x3), (4, .long x4), (6, .int x6), (9, .long x9), (11, .int x11)] → W p (cxl K) e (headSpec wsX7_divides (rmF 2 43)).room s m ([.ref o0, .int i1, .int i2] : List Value).toArray below meth c H locs 0 0 (MQ below (cxQi K Q) ([.ref o0, .int i1, .int i2] : List Value).toArray s 0 0 (PA (cxb K))) (F0 m 94 ls []) := by
    intro C41 hC41 I L A x3 x4 x6 x9 x11 H locs ls hwp hz hl
    obtain ⟨Inv, μ, hi, hst⟩ := hwp
    have key : ∀ (μ : Nat) (I : TI) (L : TL) (A : TA) (x3 : Int32) (x4 : Int64) (x6 : Int32) (x9 : Int64) (x11 : Int32) (H : Heap) (locs : List Loc) (ls : Array Slot), Inv μ I L A x3 x4 x6 x9 x11 → SS K s I L A H locs → lv_has ls 12 [(0, .ref o0), (1, .int i1), (3, .int x3), (4, .long x4), (6, .int x6), (9, .long x9), (11, .int x11)] → W p (cxl K) e (headSpec wsX7_divides (rmF 2 43)).room s m ([.ref o0, .int i1, .int i2] : List Value).toArray below meth c H locs 0 0 (MQ below (cxQi K Q) ([.ref o0, .int i1, .int i2] : List Value).toArray s 0 0 (PA (cxb K))) (F0 m 94 ls []) := by
      clear hi hz hl
      intro μ
      induction μ using Nat.strongRecOn with | ind μ ih => ?_
      intro I L A x3 x4 x6 x9 x11 H locs ls hi hz hl
      obtain ⟨C94, hCd⟩ : ∃ C : TI → TL → TA → Int32 → Int64 → Int32 → Int64 → Int32 → Prop, C = fun I L A x3 x4 x6 x9 x11 => ∃ μ', μ' < μ ∧ Inv μ' I L A x3 x4 x6 x9 x11 := ⟨_, rfl⟩
      have hC94 : ∀ (I : TI) (L : TL) (A : TA) (x3 : Int32) (x4 : Int64) (x6 : Int32) (x9 : Int64) (x11 : Int32) (H : Heap) (locs : List Loc) (ls : Array Slot), C94 I L A x3 x4 x6 x9 x11 → SS K s I L A H locs → lv_has ls 12 [(0, .ref o0), (1, .int i1), (3, .int x3), (4, .long x4), (6, .int x6), (9, .long x9), (11, .int x11)] → W p (cxl K) e (headSpec wsX7_divides (rmF 2 43)).room s m ([.ref o0, .int i1, .int i2] : List Value).toArray below meth c H locs 0 0 (MQ below (cxQi K Q) ([.ref o0, .int i1, .int i2] : List Value).toArray s 0 0 (PA (cxb K))) (F0 m 94 ls []) := by
        intro I L A x3 x4 x6 x9 x11 H locs ls hc hz hl
        rw [hCd] at hc
        obtain ⟨μ', hlt, hc⟩ := hc
        exact ih μ' hlt I L A x3 x4 x6 x9 x11 H locs ls hc hz hl
      have hwp := hst μ C94 (fun μ' I L A x3 x4 x6 x9 x11 hlt hc => by rw [hCd]; exact ⟨μ', hlt, hc⟩) I L A x3 x4 x6 x9 x11 hi
      refine lv_iload hx hb dX7_divides_94 (lv_at hl 6 rfl) ?_
      refine lv_iload_n hx hb dX7_divides_96 rfl (lv_at hl 2 rfl) ?_
      refine lv_icmp_gt (tgt := 148) hx hb dX7_divides_97 (by decide) (fun q => ?_) (fun q => ?_)
      · have hwp := hwp.1 q
        obtain ⟨v1, q_v1⟩ : ∃ y : Int32, y = x6 + (-1) := ⟨_, rfl⟩
        have hwp := hwp v1 q_v1
        refine lv_iinc (v := v1) (lv' := [(6, .int v1), (0, .ref o0), (1, .int i1), (3, .int x3), (4, .long x4), (9, .long x9), (11, .int x11)]) hx hb dX7_divides_148 hl (k := 4) rfl (by rw [q_v1]; rfl) (by decide) rfl (fun ls hl => ?_)
        refine lv_goto (tgt := 41) hx hb dX7_divides_151 (by decide) ?_
        exact hC41 _ _ _ _ _ _ _ _ _ hwp hz (lv_sub hl [1, 2, 3, 4, 0] rfl)
      · have hwp := hwp.2 q
        refine lv_aload_n hx hb dX7_divides_100 rfl (lv_at hl 0 rfl) ?_
        obtain ⟨hs2, hwp⟩ := hwp
        refine sw_get (C := RX7) (T := TX7) (N := 25) (v := .ref (o0 + 1)) hx hb hts hw0 hown hK hz hs2 rfl 1 (by decide) hw1 (fun _ h9 => h9) rfl dX7_divides_101 ?_
        refine lv_bipush (v := 72) hx hb dX7_divides_104 (by decide) ?_
        refine lv_iload hx hb dX7_divides_106 (lv_at hl 4 rfl) ?_
        refine lv_iadd hx hb dX7_divides_108 ?_
        refine lv_iload hx hb dX7_divides_109 (lv_at hl 6 rfl) ?_
        refine lv_iadd hx hb dX7_divides_111 ?_
        refine lv_aload_n hx hb dX7_divides_112 rfl (lv_at hl 0 rfl) ?_
        refine sw_get (C := RX7) (T := TX7) (N := 25) (v := .ref (o0 + 1)) hx hb hts hw0 hown hK hz hs2 rfl 1 (by decide) hw1 (fun _ h9 => h9) rfl dX7_divides_113 ?_
        refine lv_bipush (v := 72) hx hb dX7_divides_116 (by decide) ?_
        refine lv_iload hx hb dX7_divides_118 (lv_at hl 4 rfl) ?_
        refine lv_iadd hx hb dX7_divides_120 ?_
        refine lv_iload hx hb dX7_divides_121 (lv_at hl 6 rfl) ?_
        refine lv_iadd hx hb dX7_divides_123 ?_
        obtain ⟨ho3, hwp⟩ := hwp
        refine sw_lald hx hb hK hz ho3 dX7_divides_124 ?_
        refine lv_lload hx hb dX7_divides_125 (lv_at hl 5 rfl) ?_
        refine lv_aload_n hx hb dX7_divides_127 rfl (lv_at hl 0 rfl) ?_
        refine sw_get (C := RX7) (T := TX7) (N := 25) (v := .ref (o0 + 1)) hx hb hts hw0 hown hK hz hs2 rfl 1 (by decide) hw1 (fun _ h9 => h9) rfl dX7_divides_128 ?_
        refine lv_bipush (v := 8) hx hb dX7_divides_131 (by decide) ?_
        refine lv_iload_n hx hb dX7_divides_133 rfl (lv_at hl 1 rfl) ?_
        refine lv_imul hx hb dX7_divides_134 ?_
        refine lv_iload hx hb dX7_divides_135 (lv_at hl 6 rfl) ?_
        refine lv_iadd hx hb dX7_divides_137 ?_
        obtain ⟨ho4, hwp⟩ := hwp
        refine sw_lald hx hb hK hz ho4 dX7_divides_138 ?_
        refine lv_lmul hx hb dX7_divides_139 ?_
        refine lv_lsub hx hb dX7_divides_140 ?_
        obtain ⟨ho5, hwp⟩ := hwp
        refine sw_last hx hb hK hz ho5 dX7_divides_141 (fun H locs L6 e_L6 hz => ?_)
        have hwp := hwp L6 e_L6
        obtain ⟨v7, q_v7⟩ : ∃ y : Int32, y = x11 + 1 := ⟨_, rfl⟩
        have hwp := hwp v7 q_v7
        refine lv_iinc (v := v7) (lv' := [(11, .int v7), (0, .ref o0), (1, .int i1), (3, .int x3), (4, .long x4), (6, .int x6), (9, .long x9)]) hx hb dX7_divides_142 hl (k := 6) rfl (by rw [q_v7]; rfl) (by decide) rfl (fun ls hl => ?_)
        refine lv_goto (tgt := 94) hx hb dX7_divides_145 (by decide) ?_
        exact hC94 _ _ _ _ _ _ _ _ _ _ _ hwp hz (lv_sub hl [1, 2, 3, 4, 5, 6, 0] rfl)
    exact key μ I L A x3 x4 x6 x9 x11 H locs ls hi hz hl
  have wL41 : ∀ (I : TI) (L : TL) (A : TA) (x3 : Int32) (x4 : Int64) (x6 : Int32) (H : Heap) (locs : List Loc) (ls : Array Slot), wp_X7_divides_41 K o0 i1 i2 I L A x3 x4 x6 Q → SS K s I L A H locs → lv_has ls 12 [(0, .ref o0), (1, .int i1), (3, .int x3), (4, .long x4), (6, .int x6)] → W p (cxl K) e (headSpec wsX7_divides (rmF 2 43)).room s m ([.ref o0, .int i1, .int i2] : List Value).toArray below meth c H locs 0 0 (MQ below (cxQi K Q) ([.ref o0, .int i1, .int i2] : List Value).toArray s 0 0 (PA (cxb K))) (F0 m 41 ls []) := by
    intro I L A x3 x4 x6 H locs ls hwp hz hl
    obtain ⟨Inv, μ, hi, hst⟩ := hwp
    have key : ∀ (μ : Nat) (I : TI) (L : TL) (A : TA) (x3 : Int32) (x4 : Int64) (x6 : Int32) (H : Heap) (locs : List Loc) (ls : Array Slot), Inv μ I L A x3 x4 x6 → SS K s I L A H locs → lv_has ls 12 [(0, .ref o0), (1, .int i1), (3, .int x3), (4, .long x4), (6, .int x6)] → W p (cxl K) e (headSpec wsX7_divides (rmF 2 43)).room s m ([.ref o0, .int i1, .int i2] : List Value).toArray below meth c H locs 0 0 (MQ below (cxQi K Q) ([.ref o0, .int i1, .int i2] : List Value).toArray s 0 0 (PA (cxb K))) (F0 m 41 ls []) := by
      clear hi hz hl
      intro μ
      induction μ using Nat.strongRecOn with | ind μ ih => ?_
      intro I L A x3 x4 x6 H locs ls hi hz hl
      obtain ⟨C41, hCd⟩ : ∃ C : TI → TL → TA → Int32 → Int64 → Int32 → Prop, C = fun I L A x3 x4 x6 => ∃ μ', μ' < μ ∧ Inv μ' I L A x3 x4 x6 := ⟨_, rfl⟩
      have hC41 : ∀ (I : TI) (L : TL) (A : TA) (x3 : Int32) (x4 : Int64) (x6 : Int32) (H : Heap) (locs : List Loc) (ls : Array Slot), C41 I L A x3 x4 x6 → SS K s I L A H locs → lv_has ls 12 [(0, .ref o0), (1, .int i1), (3, .int x3), (4, .long x4), (6, .int x6)] → W p (cxl K) e (headSpec wsX7_divides (rmF 2 43)).room s m ([.ref o0, .int i1, .int i2] : List Value).toArray below meth c H locs 0 0 (MQ below (cxQi K Q) ([.ref o0, .int i1, .int i2] : List Value).toArray s 0 0 (PA (cxb K))) (F0 m 41 ls []) := by
        intro I L A x3 x4 x6 H locs ls hc hz hl
        rw [hCd] at hc
        obtain ⟨μ', hlt, hc⟩ := hc
        exact ih μ' hlt I L A x3 x4 x6 H locs ls hc hz hl
      have hwp := hst μ C41 (fun μ' I L A x3 x4 x6 hlt hc => by rw [hCd]; exact ⟨μ', hlt, hc⟩) I L A x3 x4 x6 hi
      refine lv_iload hx hb dX7_divides_41 (lv_at hl 4 rfl) ?_
      refine lv_if_lt (tgt := 154) hx hb dX7_divides_43 (by decide) (fun q => ?_) (fun q => ?_)
      · have hwp := hwp.1 q
        refine lv_aload_n hx hb dX7_divides_154 rfl (lv_at hl 0 rfl) ?_
        refine lv_bipush (v := 9) hx hb dX7_divides_155 (by decide) ?_
        obtain ⟨hs8, hwp⟩ := hwp
        obtain ⟨P9, hc10, hwp⟩ := hwp
        refine sw_calli hz (va_runV (As := [.int 9]) (rest := []) ⟨hx, hb, hml, hown, hts⟩ (hc10 hK _) (cwV 1 hts gX7_divides_X7_isZero rfl rfl rfl (by decide +kernel) ⟨Nat.le_of_ble_eq_true rfl, Nat.le_of_ble_eq_true rfl⟩) (hz.preV hK hs8 rfl) rfl rfl hl.1 rfl (lv_room (Nat.le_of_ble_eq_true rfl)) dX7_divides_157 ⟨Nat.le_of_ble_eq_true rfl, Nat.le_of_ble_eq_true rfl⟩) (fun r14 I11 L12 A13 H locs hp hz => ?_)
        have hwp := hwp r14 I11 L12 A13 hp
        exact sw_zret hx hb hret hlocks hz hwp.1 hwp.2 dX7_divides_160
      · have hwp := hwp.2 q
        refine lv_aload_n hx hb dX7_divides_46 rfl (lv_at hl 0 rfl) ?_
        obtain ⟨hs15, hwp⟩ := hwp
        refine sw_get (C := RX7) (T := TX7) (N := 25) (v := .ref (o0 + 1)) hx hb hts hw0 hown hK hz hs15 rfl 1 (by decide) hw1 (fun _ h9 => h9) rfl dX7_divides_47 ?_
        refine lv_bipush (v := 72) hx hb dX7_divides_50 (by decide) ?_
        refine lv_iload hx hb dX7_divides_52 (lv_at hl 4 rfl) ?_
        refine lv_iadd hx hb dX7_divides_54 ?_
        refine lv_iload_n hx hb dX7_divides_55 rfl (lv_at hl 2 rfl) ?_
        refine lv_iadd hx hb dX7_divides_56 ?_
        obtain ⟨ho16, hwp⟩ := hwp
        refine sw_lald hx hb hK hz ho16 dX7_divides_57 ?_
        refine lv_topl (fun v17 q_v17 => ?_)
        have hwp := hwp v17 q_v17
        refine lv_lstore (lv' := [(7, .long v17), (0, .ref o0), (1, .int i1), (3, .int x3), (4, .long x4), (6, .int x6)]) hx hb dX7_divides_58 hl (by decide) rfl (fun ls hl => ?_)
        refine lv_lload hx hb dX7_divides_60 (lv_at hl 0 rfl) ?_
        refine lv_lload hx hb dX7_divides_62 (lv_at hl 4 rfl) ?_
        obtain ⟨hn18, hwp⟩ := hwp
        refine lv_lrem hx hb dX7_divides_64 hn18 ?_
        refine lv_lconst (v := 0) hx hb dX7_divides_65 (by decide) ?_
        refine W.lcmp hx hb dX7_divides_66 ?_
        refine W.eq (g2 := F0 m 67 ls [.int (lg_cmp (v17 - v17 / x4 * x4) 0)]) rfl ?_
        refine lv_if_eq (tgt := 72) hx hb dX7_divides_67 (by decide) (fun q => ?_) (fun q => ?_)
        · have hwp := hwp.1 ((lg_cmp_eq _ _).mp q)
          refine lv_lload hx hb dX7_divides_72 (lv_at hl 0 rfl) ?_
          refine lv_lload hx hb dX7_divides_74 (lv_at hl 4 rfl) ?_
          obtain ⟨hn19, hwp⟩ := hwp
          refine lv_ldiv hx hb dX7_divides_76 hn19 ?_
          refine lv_topl (fun v20 q_v20 => ?_)
          have hwp := hwp v20 q_v20
          refine lv_lstore (lv' := [(9, .long v20), (7, .long v17), (0, .ref o0), (1, .int i1), (3, .int x3), (4, .long x4), (6, .int x6)]) hx hb dX7_divides_77 hl (by decide) rfl (fun ls hl => ?_)
          refine lv_aload_n hx hb dX7_divides_79 rfl (lv_at hl 2 rfl) ?_
          refine sw_get (C := RX7) (T := TX7) (N := 25) (v := .ref (o0 + 1)) hx hb hts hw0 hown hK hz hs15 rfl 1 (by decide) hw1 (fun _ h9 => h9) rfl dX7_divides_80 ?_
          refine lv_bipush (v := 88) hx hb dX7_divides_83 (by decide) ?_
          refine lv_iload hx hb dX7_divides_85 (lv_at hl 6 rfl) ?_
          refine lv_iadd hx hb dX7_divides_87 ?_
          refine lv_lload hx hb dX7_divides_88 (lv_at hl 0 rfl) ?_
          obtain ⟨ho21, hwp⟩ := hwp
          refine sw_last hx hb hK hz ho21 dX7_divides_90 (fun H locs L22 e_L22 hz => ?_)
          have hwp := hwp L22 e_L22
          refine lv_iconst (v := 0) hx hb dX7_divides_91 (by decide) ?_
          refine lv_istore (lv' := [(11, .int 0), (9, .long v20), (7, .long v17), (0, .ref o0), (1, .int i1), (3, .int x3), (4, .long x4), (6, .int x6)]) hx hb dX7_divides_92 hl (by decide) rfl (fun ls hl => ?_)
          exact wL94 _ hC41 _ _ _ _ _ _ _ _ _ _ _ hwp hz (lv_sub hl [3, 4, 5, 6, 7, 1, 0] rfl)
        · have hwp := hwp.2 (fun h => q ((lg_cmp_eq _ _).mpr h))
          refine lv_iconst (v := 0) hx hb dX7_divides_70 (by decide) ?_
          exact sw_zret hx hb hret hlocks hz (Or.inl rfl) hwp dX7_divides_71
    exact key μ I L A x3 x4 x6 H locs ls hi hz hl
  refine lv_aload_n hx hb dX7_divides_0 rfl (lv_at hl 0 rfl) ?_
  refine lv_bipush (v := 9) hx hb dX7_divides_1 (by decide) ?_
  refine lv_iload_n hx hb dX7_divides_3 rfl (lv_at hl 2 rfl) ?_
  obtain ⟨hs23, hwp⟩ := hwp
  obtain ⟨P24, hc25, hwp⟩ := hwp
  refine sw_callv hz (va_runV (As := [.int 9, .int i2]) (rest := []) ⟨hx, hb, hml, hown, hts⟩ (hc25 hK _) (cwV 2 hts gX7_divides_X7_copy rfl rfl rfl (by decide +kernel) ⟨Nat.le_of_ble_eq_true rfl, Nat.le_of_ble_eq_true rfl⟩) (hz.preV hK hs23 rfl) rfl rfl hl.1 rfl (lv_room (Nat.le_of_ble_eq_true rfl)) dX7_divides_4 ⟨Nat.le_of_ble_eq_true rfl, Nat.le_of_ble_eq_true rfl⟩) (fun I26 L27 A28 H locs hp hz => ?_)
  have hwp := hwp I26 L27 A28 hp
  refine lv_aload_n hx hb dX7_divides_7 rfl (lv_at hl 0 rfl) ?_
  refine lv_bipush (v := 11) hx hb dX7_divides_8 (by decide) ?_
  obtain ⟨P29, hc30, hwp⟩ := hwp
  refine sw_callv hz (va_runV (As := [.int 11]) (rest := []) ⟨hx, hb, hml, hown, hts⟩ (hc30 hK _) (cwV 1 hts gX7_divides_X7_clear rfl rfl rfl (by decide +kernel) ⟨Nat.le_of_ble_eq_true rfl, Nat.le_of_ble_eq_true rfl⟩) (hz.preV hK hs23 rfl) rfl rfl hl.1 rfl (lv_room (Nat.le_of_ble_eq_true rfl)) dX7_divides_10 ⟨Nat.le_of_ble_eq_true rfl, Nat.le_of_ble_eq_true rfl⟩) (fun I31 L32 A33 H locs hp hz => ?_)
  have hwp := hwp I31 L32 A33 hp
  refine lv_aload_n hx hb dX7_divides_13 rfl (lv_at hl 0 rfl) ?_
  refine lv_iload_n hx hb dX7_divides_14 rfl (lv_at hl 1 rfl) ?_
  obtain ⟨P34, hc35, hwp⟩ := hwp
  refine sw_calli hz (va_runV (As := [.int i1]) (rest := []) ⟨hx, hb, hml, hown, hts⟩ (hc35 hK _) (cwV 1 hts gX7_divides_X7_degreeOf rfl rfl rfl (by decide +kernel) ⟨Nat.le_of_ble_eq_true rfl, Nat.le_of_ble_eq_true rfl⟩) (hz.preV hK hs23 rfl) rfl rfl hl.1 rfl (lv_room (Nat.le_of_ble_eq_true rfl)) dX7_divides_15 ⟨Nat.le_of_ble_eq_true rfl, Nat.le_of_ble_eq_true rfl⟩) (fun r39 I36 L37 A38 H locs hp hz => ?_)
  have hwp := hwp r39 I36 L37 A38 hp
  refine lv_istore_n (lv' := [(3, .int r39), (0, .ref o0), (1, .int i1), (2, .int i2)]) hx hb dX7_divides_18 rfl hl (by decide) rfl (fun ls hl => ?_)
  refine lv_aload_n hx hb dX7_divides_19 rfl (lv_at hl 1 rfl) ?_
  refine sw_get (C := RX7) (T := TX7) (N := 25) (v := .ref (o0 + 1)) hx hb hts hw0 hown hK hz hs23 rfl 1 (by decide) hw1 (fun _ h9 => h9) rfl dX7_divides_20 ?_
  refine lv_bipush (v := 8) hx hb dX7_divides_23 (by decide) ?_
  refine lv_iload_n hx hb dX7_divides_25 rfl (lv_at hl 2 rfl) ?_
  refine lv_imul hx hb dX7_divides_26 ?_
  refine lv_iload_n hx hb dX7_divides_27 rfl (lv_at hl 0 rfl) ?_
  refine lv_iadd hx hb dX7_divides_28 ?_
  obtain ⟨ho40, hwp⟩ := hwp
  refine sw_lald hx hb hK hz ho40 dX7_divides_29 ?_
  refine lv_topl (fun v41 q_v41 => ?_)
  have hwp := hwp v41 q_v41
  refine lv_lstore (lv' := [(4, .long v41), (3, .int r39), (0, .ref o0), (1, .int i1), (2, .int i2)]) hx hb dX7_divides_30 hl (by decide) rfl (fun ls hl => ?_)
  refine lv_aload_n hx hb dX7_divides_32 rfl (lv_at hl 2 rfl) ?_
  refine lv_iload_n hx hb dX7_divides_33 rfl (lv_at hl 4 rfl) ?_
  obtain ⟨P42, hc43, hwp⟩ := hwp
  refine sw_calli hz (va_runV (As := [.int i2]) (rest := []) ⟨hx, hb, hml, hown, hts⟩ (hc43 hK _) (cwV 1 hts gX7_divides_X7_degreeOf rfl rfl rfl (by decide +kernel) ⟨Nat.le_of_ble_eq_true rfl, Nat.le_of_ble_eq_true rfl⟩) (hz.preV hK hs23 rfl) rfl rfl hl.1 rfl (lv_room (Nat.le_of_ble_eq_true rfl)) dX7_divides_34 ⟨Nat.le_of_ble_eq_true rfl, Nat.le_of_ble_eq_true rfl⟩) (fun r47 I44 L45 A46 H locs hp hz => ?_)
  have hwp := hwp r47 I44 L45 A46 hp
  refine lv_iload_n hx hb dX7_divides_37 rfl (lv_at hl 1 rfl) ?_
  refine lv_isub hx hb dX7_divides_38 ?_
  refine lv_topi (fun v48 q_v48 => ?_)
  have hwp := hwp v48 q_v48
  refine lv_istore (lv' := [(6, .int v48), (4, .long v41), (3, .int r39), (0, .ref o0), (1, .int i1), (2, .int i2)]) hx hb dX7_divides_39 hl (by decide) rfl (fun ls hl => ?_)
  exact wL41 _ _ _ _ _ _ _ _ _ hwp hz (lv_sub hl [3, 4, 2, 1, 0] rfl)

