def wp_X7_takeOut_39 (K : Cx) (o0 : Nat) (i1 : Int32) (I : TI) (L : TL) (A : TA) (x2 : Int32) (Q : TI → TL → TA → Prop) : Prop := ((x2 ≤ 0 → Q I L A) ∧ (¬ x2 ≤ 0 → cxS K o0 = shX7 o0 ∧ ∃ P2 : TI → TL → TA → Prop, ConV K yX7_addPart wsX7_addPart 1 23 I L A [.ref o0, .int 10, .int x2] P2 ∧ ∀ (I4 : TI) (L5 : TL) (A6 : TA), P2 I4 L5 A6 → Q I4 L5 A6))
def wp_X7_takeOut_2 (K : Cx) (o0 : Nat) (i1 : Int32) (I : TI) (L : TL) (A : TA) (x2 : Int32) (Q : TI → TL → TA → Prop) : Prop := ∃ (Inv : Nat → TI → TL → TA → Int32 → Prop) (μ : Nat), Inv μ I L A x2 ∧ ∀ (μ : Nat) (C2 : TI → TL → TA → Int32 → Prop), (∀ (μ' : Nat) (I : TI) (L : TL) (A : TA) (x2 : Int32) , μ' < μ → Inv μ' I L A x2 → C2 I L A x2) → ∀ (I : TI) (L : TL) (A : TA) (x2 : Int32) , Inv μ I L A x2 → cxS K o0 = shX7 o0 ∧ ∃ P8 : Int32 → TI → TL → TA → Prop, ConI K yX7_degreeOf wsX7_degreeOf 0 0 I L A [.ref o0, .int i1] P8 ∧ ∀ (r13 : Int32) (I10 : TI) (L11 : TL) (A12 : TA), P8 r13 I10 L11 A12 → ∃ P14 : Int32 → TI → TL → TA → Prop, ConI K yX7_degreeOf wsX7_degreeOf 0 0 I10 L11 A12 [.ref o0, .int 10] P14 ∧ ∀ (r19 : Int32) (I16 : TI) (L17 : TL) (A18 : TA), P14 r19 I16 L17 A18 → ((r13 < r19 → wp_X7_takeOut_39 K o0 i1 I16 L17 A18 x2 Q) ∧ (¬ r13 < r19 → ∃ P20 : Int32 → TI → TL → TA → Prop, ConI K yX7_divides wsX7_divides 2 43 I16 L17 A18 [.ref o0, .int 10, .int i1] P20 ∧ ∀ (r25 : Int32) (I22 : TI) (L23 : TL) (A24 : TA), P20 r25 I22 L23 A24 → ((r25 = 0 → wp_X7_takeOut_39 K o0 i1 I22 L23 A24 x2 Q) ∧ (¬ r25 = 0 → ∃ P26 : TI → TL → TA → Prop, ConV K yX7_copy wsX7_copy 0 0 I22 L23 A24 [.ref o0, .int i1, .int 11] P26 ∧ ∀ (I28 : TI) (L29 : TL) (A30 : TA), P26 I28 L29 A30 → ∀ v31 : Int32, v31 = x2 + 1 → C2 I28 L29 A30 v31))))
def wp_X7_takeOut (K : Cx) (I : TI) (L : TL) (A : TA) (o0 : Nat) (i1 : Int32) (Q : TI → TL → TA → Prop) : Prop := wp_X7_takeOut_2 K o0 i1 I L A 0 Q
set_option maxHeartbeats 1000000 in
set_option maxRecDepth 100000 in
theorem w_X7_takeOut (K : Cx) (I : TI) (L : TL) (A : TA) (o0 : Nat) (i1 : Int32) (Q : TI → TL → TA → Prop) (hwp : wp_X7_takeOut K I L A o0 i1 Q) : ConV K yX7_takeOut wsX7_takeOut 3 74 I L A [.ref o0, .int i1] Q := by
  intro hK sz
  refine Met.ofW (cc := cX7_takeOut) (maxL := 3) (ret := none) (by decide) rfl ?_
  intro p e s m args below meth c s₁ B hml hv
  obtain ⟨rfl, hsz, hB⟩ := hv
  have hx := B.exec
  have hb := B.bytes
  have hret := B.returns
  have hts := atoms_spec (ws := wsX7_takeOut) B.pre
  have hown : s.vm.findClass RX7 = some m.cls := findClass_of_methodNamed B.named
  have hlocks := B.notSynchronized
  subst hsz
  have hz : SS K s I L A s.heap [] := PS.start hB
  have hl := lv_entry ([.ref o0, .int i1]) (n := 3) (Nat.le_of_ble_eq_true rfl)
  rw [lg_entry_eq]
  generalize (lg_sl ([.ref o0, .int i1]) ++ List.replicate (3 - (lg_sl ([.ref o0, .int i1])).length) Slot.unset).toArray = ls at hl ⊢
  have hl : lv_has ls 3 [(0, .ref o0), (1, .int i1)] := hl
  clear hB B
  have wL39 : ∀ (I : TI) (L : TL) (A : TA) (x2 : Int32) (H : Heap) (locs : List Loc) (ls : Array Slot), wp_X7_takeOut_39 K o0 i1 I L A x2 Q → SS K s I L A H locs → lv_has ls 3 [(0, .ref o0), (2, .int x2)] → W p (cxl K) e (headSpec wsX7_takeOut (rmF 3 74)).room s m ([.ref o0, .int i1] : List Value).toArray below meth c H locs 0 0 (MQ below (cxQv K Q) ([.ref o0, .int i1] : List Value).toArray s 0 0 (PA (cxb K))) (F0 m 39 ls []) := by
    intro I L A x2 H locs ls hwp hz hl
    refine lv_iload_n hx hb dX7_takeOut_39 rfl (lv_at hl 1 rfl) ?_
    refine lv_if_le (tgt := 50) hx hb dX7_takeOut_40 (by decide) (fun q => ?_) (fun q => ?_)
    · have hwp := hwp.1 q
      exact sw_vret hx hb hret hlocks hz hwp dX7_takeOut_50
    · have hwp := hwp.2 q
      refine lv_aload_n hx hb dX7_takeOut_43 rfl (lv_at hl 0 rfl) ?_
      refine lv_bipush (v := 10) hx hb dX7_takeOut_44 (by decide) ?_
      refine lv_iload_n hx hb dX7_takeOut_46 rfl (lv_at hl 1 rfl) ?_
      obtain ⟨hs1, hwp⟩ := hwp
      obtain ⟨P2, hc3, hwp⟩ := hwp
      refine sw_callv hz (va_runV (As := [.int 10, .int x2]) (rest := []) ⟨hx, hb, hml, hown, hts⟩ (hc3 hK _) (cwV 2 hts gX7_takeOut_X7_addPart rfl rfl rfl (by decide +kernel) ⟨Nat.le_of_ble_eq_true rfl, Nat.le_of_ble_eq_true rfl⟩) (hz.preV hK hs1 rfl) rfl rfl hl.1 rfl (lv_room (Nat.le_of_ble_eq_true rfl)) dX7_takeOut_47 ⟨Nat.le_of_ble_eq_true rfl, Nat.le_of_ble_eq_true rfl⟩) (fun I4 L5 A6 H locs hp hz => ?_)
      have hwp := hwp I4 L5 A6 hp
      exact sw_vret hx hb hret hlocks hz hwp dX7_takeOut_50
  have wL2 : ∀ (I : TI) (L : TL) (A : TA) (x2 : Int32) (H : Heap) (locs : List Loc) (ls : Array Slot), wp_X7_takeOut_2 K o0 i1 I L A x2 Q → SS K s I L A H locs → lv_has ls 3 [(0, .ref o0), (1, .int i1), (2, .int x2)] → W p (cxl K) e (headSpec wsX7_takeOut (rmF 3 74)).room s m ([.ref o0, .int i1] : List Value).toArray below meth c H locs 0 0 (MQ below (cxQv K Q) ([.ref o0, .int i1] : List Value).toArray s 0 0 (PA (cxb K))) (F0 m 2 ls []) := by
    intro I L A x2 H locs ls hwp hz hl
    obtain ⟨Inv, μ, hi, hst⟩ := hwp
    have key : ∀ (μ : Nat) (I : TI) (L : TL) (A : TA) (x2 : Int32) (H : Heap) (locs : List Loc) (ls : Array Slot), Inv μ I L A x2 → SS K s I L A H locs → lv_has ls 3 [(0, .ref o0), (1, .int i1), (2, .int x2)] → W p (cxl K) e (headSpec wsX7_takeOut (rmF 3 74)).room s m ([.ref o0, .int i1] : List Value).toArray below meth c H locs 0 0 (MQ below (cxQv K Q) ([.ref o0, .int i1] : List Value).toArray s 0 0 (PA (cxb K))) (F0 m 2 ls []) := by
      clear hi hz hl
      intro μ
      induction μ using Nat.strongRecOn with | ind μ ih => ?_
      intro I L A x2 H locs ls hi hz hl
      obtain ⟨C2, hCd⟩ : ∃ C : TI → TL → TA → Int32 → Prop, C = fun I L A x2 => ∃ μ', μ' < μ ∧ Inv μ' I L A x2 := ⟨_, rfl⟩
      have hC2 : ∀ (I : TI) (L : TL) (A : TA) (x2 : Int32) (H : Heap) (locs : List Loc) (ls : Array Slot), C2 I L A x2 → SS K s I L A H locs → lv_has ls 3 [(0, .ref o0), (1, .int i1), (2, .int x2)] → W p (cxl K) e (headSpec wsX7_takeOut (rmF 3 74)).room s m ([.ref o0, .int i1] : List Value).toArray below meth c H locs 0 0 (MQ below (cxQv K Q) ([.ref o0, .int i1] : List Value).toArray s 0 0 (PA (cxb K))) (F0 m 2 ls []) := by
        intro I L A x2 H locs ls hc hz hl
        rw [hCd] at hc
        obtain ⟨μ', hlt, hc⟩ := hc
        exact ih μ' hlt I L A x2 H locs ls hc hz hl
      have hwp := hst μ C2 (fun μ' I L A x2 hlt hc => by rw [hCd]; exact ⟨μ', hlt, hc⟩) I L A x2 hi
      refine lv_aload_n hx hb dX7_takeOut_2 rfl (lv_at hl 0 rfl) ?_
      refine lv_iload_n hx hb dX7_takeOut_3 rfl (lv_at hl 1 rfl) ?_
      obtain ⟨hs7, hwp⟩ := hwp
      obtain ⟨P8, hc9, hwp⟩ := hwp
      refine sw_calli hz (va_runV (As := [.int i1]) (rest := []) ⟨hx, hb, hml, hown, hts⟩ (hc9 hK _) (cwV 1 hts gX7_takeOut_X7_degreeOf rfl rfl rfl (by decide +kernel) ⟨Nat.le_of_ble_eq_true rfl, Nat.le_of_ble_eq_true rfl⟩) (hz.preV hK hs7 rfl) rfl rfl hl.1 rfl (lv_room (Nat.le_of_ble_eq_true rfl)) dX7_takeOut_4 ⟨Nat.le_of_ble_eq_true rfl, Nat.le_of_ble_eq_true rfl⟩) (fun r13 I10 L11 A12 H locs hp hz => ?_)
      have hwp := hwp r13 I10 L11 A12 hp
      refine lv_aload_n hx hb dX7_takeOut_7 rfl (lv_at hl 0 rfl) ?_
      refine lv_bipush (v := 10) hx hb dX7_takeOut_8 (by decide) ?_
      obtain ⟨P14, hc15, hwp⟩ := hwp
      refine sw_calli hz (va_runV (As := [.int 10]) (rest := [.int r13]) ⟨hx, hb, hml, hown, hts⟩ (hc15 hK _) (cwV 1 hts gX7_takeOut_X7_degreeOf rfl rfl rfl (by decide +kernel) ⟨Nat.le_of_ble_eq_true rfl, Nat.le_of_ble_eq_true rfl⟩) (hz.preV hK hs7 rfl) rfl rfl hl.1 rfl (lv_room (Nat.le_of_ble_eq_true rfl)) dX7_takeOut_10 ⟨Nat.le_of_ble_eq_true rfl, Nat.le_of_ble_eq_true rfl⟩) (fun r19 I16 L17 A18 H locs hp hz => ?_)
      have hwp := hwp r19 I16 L17 A18 hp
      refine lv_icmp_lt (tgt := 39) hx hb dX7_takeOut_13 (by decide) (fun q => ?_) (fun q => ?_)
      · have hwp := hwp.1 q
        exact wL39 _ _ _ _ _ _ _ hwp hz (lv_sub hl [0, 2] rfl)
      · have hwp := hwp.2 q
        refine lv_aload_n hx hb dX7_takeOut_16 rfl (lv_at hl 0 rfl) ?_
        refine lv_bipush (v := 10) hx hb dX7_takeOut_17 (by decide) ?_
        refine lv_iload_n hx hb dX7_takeOut_19 rfl (lv_at hl 1 rfl) ?_
        obtain ⟨P20, hc21, hwp⟩ := hwp
        refine sw_calli hz (va_runV (As := [.int 10, .int i1]) (rest := []) ⟨hx, hb, hml, hown, hts⟩ (hc21 hK _) (cwV 2 hts gX7_takeOut_X7_divides rfl rfl rfl (by decide +kernel) ⟨Nat.le_of_ble_eq_true rfl, Nat.le_of_ble_eq_true rfl⟩) (hz.preV hK hs7 rfl) rfl rfl hl.1 rfl (lv_room (Nat.le_of_ble_eq_true rfl)) dX7_takeOut_20 ⟨Nat.le_of_ble_eq_true rfl, Nat.le_of_ble_eq_true rfl⟩) (fun r25 I22 L23 A24 H locs hp hz => ?_)
        have hwp := hwp r25 I22 L23 A24 hp
        refine lv_if_eq (tgt := 39) hx hb dX7_takeOut_23 (by decide) (fun q => ?_) (fun q => ?_)
        · have hwp := hwp.1 q
          exact wL39 _ _ _ _ _ _ _ hwp hz (lv_sub hl [0, 2] rfl)
        · have hwp := hwp.2 q
          refine lv_aload_n hx hb dX7_takeOut_26 rfl (lv_at hl 0 rfl) ?_
          refine lv_iload_n hx hb dX7_takeOut_27 rfl (lv_at hl 1 rfl) ?_
          refine lv_bipush (v := 11) hx hb dX7_takeOut_28 (by decide) ?_
          obtain ⟨P26, hc27, hwp⟩ := hwp
          refine sw_callv hz (va_runV (As := [.int i1, .int 11]) (rest := []) ⟨hx, hb, hml, hown, hts⟩ (hc27 hK _) (cwV 2 hts gX7_takeOut_X7_copy rfl rfl rfl (by decide +kernel) ⟨Nat.le_of_ble_eq_true rfl, Nat.le_of_ble_eq_true rfl⟩) (hz.preV hK hs7 rfl) rfl rfl hl.1 rfl (lv_room (Nat.le_of_ble_eq_true rfl)) dX7_takeOut_30 ⟨Nat.le_of_ble_eq_true rfl, Nat.le_of_ble_eq_true rfl⟩) (fun I28 L29 A30 H locs hp hz => ?_)
          have hwp := hwp I28 L29 A30 hp
          obtain ⟨v31, q_v31⟩ : ∃ y : Int32, y = x2 + 1 := ⟨_, rfl⟩
          have hwp := hwp v31 q_v31
          refine lv_iinc (v := v31) (lv' := [(2, .int v31), (0, .ref o0), (1, .int i1)]) hx hb dX7_takeOut_33 hl (k := 2) rfl (by rw [q_v31]; rfl) (by decide) rfl (fun ls hl => ?_)
          refine lv_goto (tgt := 2) hx hb dX7_takeOut_36 (by decide) ?_
          exact hC2 _ _ _ _ _ _ _ hwp hz (lv_sub hl [1, 2, 0] rfl)
    exact key μ I L A x2 H locs ls hi hz hl
  refine lv_iconst (v := 0) hx hb dX7_takeOut_0 (by decide) ?_
  refine lv_istore_n (lv' := [(2, .int 0), (0, .ref o0), (1, .int i1)]) hx hb dX7_takeOut_1 rfl hl (by decide) rfl (fun ls hl => ?_)
  exact wL2 _ _ _ _ _ _ _ hwp hz (lv_sub hl [1, 2, 0] rfl)

def wp_X7_list_20 (K : Cx) (o0 : Nat) (j1 : Int64) (i3 : Int32) (I : TI) (L : TL) (A : TA) (x4 : Int64) (x6 : Int32) (x7 : Int64) (Q : Int32 → TI → TL → TA → Prop) : Prop := ∃ (Inv : Nat → TI → TL → TA → Int64 → Int32 → Int64 → Prop) (μ : Nat), Inv μ I L A x4 x6 x7 ∧ ∀ (μ : Nat) (C20 : TI → TL → TA → Int64 → Int32 → Int64 → Prop), (∀ (μ' : Nat) (I : TI) (L : TL) (A : TA) (x4 : Int64) (x6 : Int32) (x7 : Int64) , μ' < μ → Inv μ' I L A x4 x6 x7 → C20 I L A x4 x6 x7) → ∀ (I : TI) (L : TL) (A : TA) (x4 : Int64) (x6 : Int32) (x7 : Int64) , Inv μ I L A x4 x6 x7 → ((x4 < (x7 * x7) → Q x6 I L A) ∧ (¬ x4 < (x7 * x7) → ¬ x7 = 0 ∧ (((x4 - x4 / x7 * x7) = 0 → cxS K o0 = shX7 o0 ∧ aok (cxS K) (o0 + 7) 0 (i3 + x6) ∧ ∀ I5 : TI, I5 = u2 I (o0 + 7) (ix (i3 + x6)) (Int64.toInt32 x7) → ∀ v6 : Int32, v6 = x6 + 1 → ((x4 ≤ (x7 * x7) → ∀ v7 : Int64, v7 = (x7 + 1) → C20 I5 L A x4 v6 v7) ∧ (¬ x4 ≤ (x7 * x7) → ¬ x7 = 0 ∧ aok (cxS K) (o0 + 7) 0 (i3 + v6) ∧ ∀ I10 : TI, I10 = u2 I5 (o0 + 7) (ix (i3 + v6)) (Int64.toInt32 (x4 / x7)) → ∀ v11 : Int32, v11 = v6 + 1 → ∀ v12 : Int64, v12 = (x7 + 1) → C20 I10 L A x4 v11 v12))) ∧ (¬ (x4 - x4 / x7 * x7) = 0 → ∀ v2 : Int64, v2 = (x7 + 1) → C20 I L A x4 x6 v2))))
def wp_X7_list_12 (K : Cx) (o0 : Nat) (j1 : Int64) (i3 : Int32) (I : TI) (L : TL) (A : TA) (y0 : Int64) (Q : Int32 → TI → TL → TA → Prop) : Prop := wp_X7_list_20 K o0 j1 i3 I L A y0 0 1 Q
def wp_X7_list (K : Cx) (I : TI) (L : TL) (A : TA) (o0 : Nat) (j1 : Int64) (i3 : Int32) (Q : Int32 → TI → TL → TA → Prop) : Prop := ((0 ≤ j1 → wp_X7_list_12 K o0 j1 i3 I L A j1 Q) ∧ (¬ 0 ≤ j1 → wp_X7_list_12 K o0 j1 i3 I L A (-j1) Q))
set_option maxHeartbeats 1000000 in
set_option maxRecDepth 100000 in
theorem w_X7_list (K : Cx) (I : TI) (L : TL) (A : TA) (o0 : Nat) (j1 : Int64) (i3 : Int32) (Q : Int32 → TI → TL → TA → Prop) (hwp : wp_X7_list K I L A o0 j1 i3 Q) : ConI K yX7_list wsX7_list 0 0 I L A [.ref o0, .long j1, .int i3] Q := by
  intro hK sz
  refine Met.ofW (cc := cX7_list) (maxL := 9) (ret := (some .int)) (by decide) rfl ?_
  intro p e s m args below meth c s₁ B hml hv
  obtain ⟨rfl, hsz, hB⟩ := hv
  have hx := B.exec
  have hb := B.bytes
  have hret := B.returns
  have hts := atoms_spec (ws := wsX7_list) B.pre
  have hown : s.vm.findClass RX7 = some m.cls := findClass_of_methodNamed B.named
  have hlocks := B.notSynchronized
  subst hsz
  have hz : SS K s I L A s.heap [] := PS.start hB
  have hl := lv_entry ([.ref o0, .long j1, .int i3]) (n := 9) (Nat.le_of_ble_eq_true rfl)
  rw [lg_entry_eq]
  generalize (lg_sl ([.ref o0, .long j1, .int i3]) ++ List.replicate (9 - (lg_sl ([.ref o0, .long j1, .int i3])).length) Slot.unset).toArray = ls at hl ⊢
  have hl : lv_has ls 9 [(0, .ref o0), (1, .long j1), (3, .int i3)] := hl
  have hw0 : ∀ w ∈ u_ws RX7 TX7 25, w ∈ wsX7_list := by decide +kernel
  have hw1 := hts (.fieldLink RX7 29 "GaloisDeskModel" "divisors" "[I") (by decide +kernel)
  clear hB B
  have wL20 : ∀ (I : TI) (L : TL) (A : TA) (x4 : Int64) (x6 : Int32) (x7 : Int64) (H : Heap) (locs : List Loc) (ls : Array Slot), wp_X7_list_20 K o0 j1 i3 I L A x4 x6 x7 Q → SS K s I L A H locs → lv_has ls 9 [(0, .ref o0), (3, .int i3), (4, .long x4), (6, .int x6), (7, .long x7)] → W p (cxl K) e (headSpec wsX7_list (rmF 0 0)).room s m ([.ref o0, .long j1, .int i3] : List Value).toArray below meth c H locs 0 0 (MQ below (cxQi K Q) ([.ref o0, .long j1, .int i3] : List Value).toArray s 0 0 (PA (cxb K))) (F0 m 20 ls []) := by
    intro I L A x4 x6 x7 H locs ls hwp hz hl
    obtain ⟨Inv, μ, hi, hst⟩ := hwp
    have key : ∀ (μ : Nat) (I : TI) (L : TL) (A : TA) (x4 : Int64) (x6 : Int32) (x7 : Int64) (H : Heap) (locs : List Loc) (ls : Array Slot), Inv μ I L A x4 x6 x7 → SS K s I L A H locs → lv_has ls 9 [(0, .ref o0), (3, .int i3), (4, .long x4), (6, .int x6), (7, .long x7)] → W p (cxl K) e (headSpec wsX7_list (rmF 0 0)).room s m ([.ref o0, .long j1, .int i3] : List Value).toArray below meth c H locs 0 0 (MQ below (cxQi K Q) ([.ref o0, .long j1, .int i3] : List Value).toArray s 0 0 (PA (cxb K))) (F0 m 20 ls []) := by
      clear hi hz hl
      intro μ
      induction μ using Nat.strongRecOn with | ind μ ih => ?_
      intro I L A x4 x6 x7 H locs ls hi hz hl
      obtain ⟨C20, hCd⟩ : ∃ C : TI → TL → TA → Int64 → Int32 → Int64 → Prop, C = fun I L A x4 x6 x7 => ∃ μ', μ' < μ ∧ Inv μ' I L A x4 x6 x7 := ⟨_, rfl⟩
      have hC20 : ∀ (I : TI) (L : TL) (A : TA) (x4 : Int64) (x6 : Int32) (x7 : Int64) (H : Heap) (locs : List Loc) (ls : Array Slot), C20 I L A x4 x6 x7 → SS K s I L A H locs → lv_has ls 9 [(0, .ref o0), (3, .int i3), (4, .long x4), (6, .int x6), (7, .long x7)] → W p (cxl K) e (headSpec wsX7_list (rmF 0 0)).room s m ([.ref o0, .long j1, .int i3] : List Value).toArray below meth c H locs 0 0 (MQ below (cxQi K Q) ([.ref o0, .long j1, .int i3] : List Value).toArray s 0 0 (PA (cxb K))) (F0 m 20 ls []) := by
        intro I L A x4 x6 x7 H locs ls hc hz hl
        rw [hCd] at hc
        obtain ⟨μ', hlt, hc⟩ := hc
        exact ih μ' hlt I L A x4 x6 x7 H locs ls hc hz hl
      have hwp := hst μ C20 (fun μ' I L A x4 x6 x7 hlt hc => by rw [hCd]; exact ⟨μ', hlt, hc⟩) I L A x4 x6 x7 hi
      refine lv_lload hx hb dX7_list_20 (lv_at hl 4 rfl) ?_
      refine lv_lload hx hb dX7_list_22 (lv_at hl 4 rfl) ?_
      refine lv_lmul hx hb dX7_list_24 ?_
      refine lv_lload hx hb dX7_list_25 (lv_at hl 2 rfl) ?_
      refine W.lcmp hx hb dX7_list_27 ?_
      refine W.eq (g2 := F0 m 28 ls [.int (lg_cmp (x7 * x7) x4)]) rfl ?_
      refine lv_if_gt (tgt := 94) hx hb dX7_list_28 (by decide) (fun q => ?_) (fun q => ?_)
      · have hwp := hwp.1 ((lg_cmp_gt _ _).mp q)
        refine lv_iload hx hb dX7_list_94 (lv_at hl 3 rfl) ?_
        exact sw_iret hx hb hret hlocks hz hwp dX7_list_96
      · have hwp := hwp.2 (fun h => q ((lg_cmp_gt _ _).mpr h))
        refine lv_lload hx hb dX7_list_31 (lv_at hl 2 rfl) ?_
        refine lv_lload hx hb dX7_list_33 (lv_at hl 4 rfl) ?_
        obtain ⟨hn1, hwp⟩ := hwp
        refine lv_lrem hx hb dX7_list_35 hn1 ?_
        refine lv_lconst (v := 0) hx hb dX7_list_36 (by decide) ?_
        refine W.lcmp hx hb dX7_list_37 ?_
        refine W.eq (g2 := F0 m 38 ls [.int (lg_cmp (x4 - x4 / x7 * x7) 0)]) rfl ?_
        refine lv_if_ne (tgt := 85) hx hb dX7_list_38 (by decide) (fun q => ?_) (fun q => ?_)
        · have hwp := hwp.2 (fun h => q ((lg_cmp_eq _ _).mpr h))
          refine lv_lload hx hb dX7_list_85 (lv_at hl 4 rfl) ?_
          refine lv_lconst (v := 1) hx hb dX7_list_87 (by decide) ?_
          refine lv_ladd hx hb dX7_list_88 ?_
          refine lv_topl (fun v2 q_v2 => ?_)
          have hwp := hwp v2 q_v2
          refine lv_lstore (lv' := [(7, .long v2), (0, .ref o0), (3, .int i3), (4, .long x4), (6, .int x6)]) hx hb dX7_list_89 hl (by decide) rfl (fun ls hl => ?_)
          refine lv_goto (tgt := 20) hx hb dX7_list_91 (by decide) ?_
          exact hC20 _ _ _ _ _ _ _ _ _ hwp hz (lv_sub hl [1, 2, 3, 4, 0] rfl)
        · have hwp := hwp.1 ((lg_cmp_eq _ _).mp q)
          refine lv_aload_n hx hb dX7_list_41 rfl (lv_at hl 0 rfl) ?_
          obtain ⟨hs3, hwp⟩ := hwp
          refine sw_get (C := RX7) (T := TX7) (N := 25) (v := .ref (o0 + 7)) hx hb hts hw0 hown hK hz hs3 rfl 13 (by decide) hw1 (fun _ h9 => h9) rfl dX7_list_42 ?_
          refine lv_iload_n hx hb dX7_list_45 rfl (lv_at hl 1 rfl) ?_
          refine lv_iload hx hb dX7_list_46 (lv_at hl 3 rfl) ?_
          refine lv_iadd hx hb dX7_list_48 ?_
          refine lv_lload hx hb dX7_list_49 (lv_at hl 4 rfl) ?_
          refine lv_l2i hx hb dX7_list_51 rfl ?_
          obtain ⟨ho4, hwp⟩ := hwp
          refine sw_iast hx hb hK hz ho4 dX7_list_52 (fun H locs I5 e_I5 hz => ?_)
          have hwp := hwp I5 e_I5
          obtain ⟨v6, q_v6⟩ : ∃ y : Int32, y = x6 + 1 := ⟨_, rfl⟩
          have hwp := hwp v6 q_v6
          refine lv_iinc (v := v6) (lv' := [(6, .int v6), (0, .ref o0), (3, .int i3), (4, .long x4), (7, .long x7)]) hx hb dX7_list_53 hl (k := 3) rfl (by rw [q_v6]; rfl) (by decide) rfl (fun ls hl => ?_)
          refine lv_lload hx hb dX7_list_56 (lv_at hl 4 rfl) ?_
          refine lv_lload hx hb dX7_list_58 (lv_at hl 4 rfl) ?_
          refine lv_lmul hx hb dX7_list_60 ?_
          refine lv_lload hx hb dX7_list_61 (lv_at hl 3 rfl) ?_
          refine W.lcmp hx hb dX7_list_63 ?_
          refine W.eq (g2 := F0 m 64 ls [.int (lg_cmp (x7 * x7) x4)]) rfl ?_
          refine lv_if_ge (tgt := 85) hx hb dX7_list_64 (by decide) (fun q => ?_) (fun q => ?_)
          · have hwp := hwp.1 ((lg_cmp_ge _ _).mp q)
            refine lv_lload hx hb dX7_list_85 (lv_at hl 4 rfl) ?_
            refine lv_lconst (v := 1) hx hb dX7_list_87 (by decide) ?_
            refine lv_ladd hx hb dX7_list_88 ?_
            refine lv_topl (fun v7 q_v7 => ?_)
            have hwp := hwp v7 q_v7
            refine lv_lstore (lv' := [(7, .long v7), (6, .int v6), (0, .ref o0), (3, .int i3), (4, .long x4)]) hx hb dX7_list_89 hl (by decide) rfl (fun ls hl => ?_)
            refine lv_goto (tgt := 20) hx hb dX7_list_91 (by decide) ?_
            exact hC20 _ _ _ _ _ _ _ _ _ hwp hz (lv_sub hl [2, 3, 4, 1, 0] rfl)
          · have hwp := hwp.2 (fun h => q ((lg_cmp_ge _ _).mpr h))
            refine lv_aload_n hx hb dX7_list_67 rfl (lv_at hl 1 rfl) ?_
            refine sw_get (C := RX7) (T := TX7) (N := 25) (v := .ref (o0 + 7)) hx hb hts hw0 hown hK hz hs3 rfl 13 (by decide) hw1 (fun _ h9 => h9) rfl dX7_list_68 ?_
            refine lv_iload_n hx hb dX7_list_71 rfl (lv_at hl 2 rfl) ?_
            refine lv_iload hx hb dX7_list_72 (lv_at hl 0 rfl) ?_
            refine lv_iadd hx hb dX7_list_74 ?_
            refine lv_lload hx hb dX7_list_75 (lv_at hl 3 rfl) ?_
            refine lv_lload hx hb dX7_list_77 (lv_at hl 4 rfl) ?_
            obtain ⟨hn8, hwp⟩ := hwp
            refine lv_ldiv hx hb dX7_list_79 hn8 ?_
            refine lv_l2i hx hb dX7_list_80 rfl ?_
            obtain ⟨ho9, hwp⟩ := hwp
            refine sw_iast hx hb hK hz ho9 dX7_list_81 (fun H locs I10 e_I10 hz => ?_)
            have hwp := hwp I10 e_I10
            obtain ⟨v11, q_v11⟩ : ∃ y : Int32, y = v6 + 1 := ⟨_, rfl⟩
            have hwp := hwp v11 q_v11
            refine lv_iinc (v := v11) (lv' := [(6, .int v11), (0, .ref o0), (3, .int i3), (4, .long x4), (7, .long x7)]) hx hb dX7_list_82 hl (k := 0) rfl (by rw [q_v11]; rfl) (by decide) rfl (fun ls hl => ?_)
            refine lv_lload hx hb dX7_list_85 (lv_at hl 4 rfl) ?_
            refine lv_lconst (v := 1) hx hb dX7_list_87 (by decide) ?_
            refine lv_ladd hx hb dX7_list_88 ?_
            refine lv_topl (fun v12 q_v12 => ?_)
            have hwp := hwp v12 q_v12
            refine lv_lstore (lv' := [(7, .long v12), (6, .int v11), (0, .ref o0), (3, .int i3), (4, .long x4)]) hx hb dX7_list_89 hl (by decide) rfl (fun ls hl => ?_)
            refine lv_goto (tgt := 20) hx hb dX7_list_91 (by decide) ?_
            exact hC20 _ _ _ _ _ _ _ _ _ hwp hz (lv_sub hl [2, 3, 4, 1, 0] rfl)
    exact key μ I L A x4 x6 x7 H locs ls hi hz hl
  have wL12 : ∀ (I : TI) (L : TL) (A : TA) (y0 : Int64) (H : Heap) (locs : List Loc) (ls : Array Slot), wp_X7_list_12 K o0 j1 i3 I L A y0 Q → SS K s I L A H locs → lv_has ls 9 [(0, .ref o0), (3, .int i3)] → W p (cxl K) e (headSpec wsX7_list (rmF 0 0)).room s m ([.ref o0, .long j1, .int i3] : List Value).toArray below meth c H locs 0 0 (MQ below (cxQi K Q) ([.ref o0, .long j1, .int i3] : List Value).toArray s 0 0 (PA (cxb K))) (F0 m 12 ls [.long y0]) := by
    intro I L A y0 H locs ls hwp hz hl
    refine lv_lstore (lv' := [(4, .long y0), (0, .ref o0), (3, .int i3)]) hx hb dX7_list_12 hl (by decide) rfl (fun ls hl => ?_)
    refine lv_iconst (v := 0) hx hb dX7_list_14 (by decide) ?_
    refine lv_istore (lv' := [(6, .int 0), (4, .long y0), (0, .ref o0), (3, .int i3)]) hx hb dX7_list_15 hl (by decide) rfl (fun ls hl => ?_)
    refine lv_lconst (v := 1) hx hb dX7_list_17 (by decide) ?_
    refine lv_lstore (lv' := [(7, .long 1), (6, .int 0), (4, .long y0), (0, .ref o0), (3, .int i3)]) hx hb dX7_list_18 hl (by decide) rfl (fun ls hl => ?_)
    exact wL20 _ _ _ _ _ _ _ _ _ hwp hz (lv_sub hl [3, 4, 2, 1, 0] rfl)
  refine lv_lload_n hx hb dX7_list_0 rfl (lv_at hl 1 rfl) ?_
  refine lv_lconst (v := 0) hx hb dX7_list_1 (by decide) ?_
  refine W.lcmp hx hb dX7_list_2 ?_
  refine W.eq (g2 := F0 m 3 ls [.int (lg_cmp j1 0)]) rfl ?_
  refine lv_if_ge (tgt := 11) hx hb dX7_list_3 (by decide) (fun q => ?_) (fun q => ?_)
  · have hwp := hwp.1 ((lg_cmp_ge _ _).mp q)
    refine lv_lload_n hx hb dX7_list_11 rfl (lv_at hl 1 rfl) ?_
    exact wL12 _ _ _ _ _ _ _ hwp hz (lv_sub hl [0, 2] rfl)
  · have hwp := hwp.2 (fun h => q ((lg_cmp_ge _ _).mpr h))
    refine lv_lload_n hx hb dX7_list_6 rfl (lv_at hl 1 rfl) ?_
    refine lv_lneg hx hb dX7_list_7 ?_
    refine lv_goto (tgt := 12) hx hb dX7_list_8 (by decide) ?_
    exact wL12 _ _ _ _ _ _ _ hwp hz (lv_sub hl [0, 2] rfl)

def wp_X7_signed (K : Cx) (I : TI) (L : TL) (A : TA) (i0 : Int32) (i1 : Int32) (Q : Int32 → TI → TL → TA → Prop) : Prop := (((i1 - i1 / 2 * 2) = 0 → Q i0 I L A) ∧ (¬ (i1 - i1 / 2 * 2) = 0 → Q (-i0) I L A))
set_option maxHeartbeats 1000000 in
set_option maxRecDepth 100000 in
theorem w_X7_signed (K : Cx) (I : TI) (L : TL) (A : TA) (i0 : Int32) (i1 : Int32) (Q : Int32 → TI → TL → TA → Prop) (hwp : wp_X7_signed K I L A i0 i1 Q) : ConI K yX7_signed wsX7_signed 0 0 I L A [.int i0, .int i1] Q := by
  intro hK sz
  refine Met.ofW (cc := cX7_signed) (maxL := 2) (ret := (some .int)) (by decide) rfl ?_
  intro p e s m args below meth c s₁ B hml hv
  obtain ⟨rfl, hsz, hB⟩ := hv
  have hx := B.exec
  have hb := B.bytes
  have hret := B.returns
  have hts := atoms_spec (ws := wsX7_signed) B.pre
  have hown : s.vm.findClass RX7 = some m.cls := findClass_of_methodNamed B.named
  have hlocks := B.notSynchronized
  subst hsz
  have hz : SS K s I L A s.heap [] := PS.start hB
  have hl := lv_entry ([.int i0, .int i1]) (n := 2) (Nat.le_of_ble_eq_true rfl)
  rw [lg_entry_eq]
  generalize (lg_sl ([.int i0, .int i1]) ++ List.replicate (2 - (lg_sl ([.int i0, .int i1])).length) Slot.unset).toArray = ls at hl ⊢
  have hl : lv_has ls 2 [(0, .int i0), (1, .int i1)] := hl
  clear hB B
  refine lv_iload_n hx hb dX7_signed_0 rfl (lv_at hl 1 rfl) ?_
  refine lv_iconst (v := 2) hx hb dX7_signed_1 (by decide) ?_
  refine lv_irem hx hb dX7_signed_2 (by decide) ?_
  refine lv_if_ne (tgt := 10) hx hb dX7_signed_3 (by decide) (fun q => ?_) (fun q => ?_)
  · have hwp := hwp.2 q
    refine lv_iload_n hx hb dX7_signed_10 rfl (lv_at hl 0 rfl) ?_
    refine lv_ineg hx hb dX7_signed_11 ?_
    exact sw_iret hx hb hret hlocks hz hwp dX7_signed_12
  · have hwp := hwp.1 q
    refine lv_iload_n hx hb dX7_signed_6 rfl (lv_at hl 0 rfl) ?_
    refine lv_goto (tgt := 12) hx hb dX7_signed_7 (by decide) ?_
    exact sw_iret hx hb hret hlocks hz hwp dX7_signed_12

def wp_X7_isRoot (K : Cx) (I : TI) (L : TL) (A : TA) (o0 : Nat) (i1 : Int32) (Q : Int32 → TI → TL → TA → Prop) : Prop := cxS K o0 = shX7 o0 ∧ ∃ P2 : Int32 → TI → TL → TA → Prop, ConI K yX7_degreeOf wsX7_degreeOf 0 0 I L A [.ref o0, .int i1] P2 ∧ ∀ (r7 : Int32) (I4 : TI) (L5 : TL) (A6 : TA), P2 r7 I4 L5 A6 → ((r7 < 1 → Q 0 I4 L5 A6) ∧ (¬ r7 < 1 → ∃ P8 : Int32 → TI → TL → TA → Prop, ConI K yX7_divides wsX7_divides 2 43 I4 L5 A6 [.ref o0, .int 10, .int i1] P8 ∧ ∀ (r13 : Int32) (I10 : TI) (L11 : TL) (A12 : TA), P8 r13 I10 L11 A12 → ((r13 = 0 → Q 0 I10 L11 A12) ∧ (¬ r13 = 0 → Q 1 I10 L11 A12))))
set_option maxHeartbeats 1000000 in
set_option maxRecDepth 100000 in
theorem w_X7_isRoot (K : Cx) (I : TI) (L : TL) (A : TA) (o0 : Nat) (i1 : Int32) (Q : Int32 → TI → TL → TA → Prop) (hwp : wp_X7_isRoot K I L A o0 i1 Q) : ConI K yX7_isRoot wsX7_isRoot 3 74 I L A [.ref o0, .int i1] Q := by
  intro hK sz
  refine Met.ofW (cc := cX7_isRoot) (maxL := 2) (ret := (some .boolean)) (by decide) rfl ?_
  intro p e s m args below meth c s₁ B hml hv
  obtain ⟨rfl, hsz, hB⟩ := hv
  have hx := B.exec
  have hb := B.bytes
  have hret := B.returns
  have hts := atoms_spec (ws := wsX7_isRoot) B.pre
  have hown : s.vm.findClass RX7 = some m.cls := findClass_of_methodNamed B.named
  have hlocks := B.notSynchronized
  subst hsz
  have hz : SS K s I L A s.heap [] := PS.start hB
  have hl := lv_entry ([.ref o0, .int i1]) (n := 2) (Nat.le_of_ble_eq_true rfl)
  rw [lg_entry_eq]
  generalize (lg_sl ([.ref o0, .int i1]) ++ List.replicate (2 - (lg_sl ([.ref o0, .int i1])).length) Slot.unset).toArray = ls at hl ⊢
  have hl : lv_has ls 2 [(0, .ref o0), (1, .int i1)] := hl
  clear hB B
  refine lv_aload_n hx hb dX7_isRoot_0 rfl (lv_at hl 0 rfl) ?_
  refine lv_iload_n hx hb dX7_isRoot_1 rfl (lv_at hl 1 rfl) ?_
  obtain ⟨hs1, hwp⟩ := hwp
  obtain ⟨P2, hc3, hwp⟩ := hwp
  refine sw_calli hz (va_runV (As := [.int i1]) (rest := []) ⟨hx, hb, hml, hown, hts⟩ (hc3 hK _) (cwV 1 hts gX7_isRoot_X7_degreeOf rfl rfl rfl (by decide +kernel) ⟨Nat.le_of_ble_eq_true rfl, Nat.le_of_ble_eq_true rfl⟩) (hz.preV hK hs1 rfl) rfl rfl hl.1 rfl (lv_room (Nat.le_of_ble_eq_true rfl)) dX7_isRoot_2 ⟨Nat.le_of_ble_eq_true rfl, Nat.le_of_ble_eq_true rfl⟩) (fun r7 I4 L5 A6 H locs hp hz => ?_)
  have hwp := hwp r7 I4 L5 A6 hp
  refine lv_iconst (v := 1) hx hb dX7_isRoot_5 (by decide) ?_
  refine lv_icmp_lt (tgt := 23) hx hb dX7_isRoot_6 (by decide) (fun q => ?_) (fun q => ?_)
  · have hwp := hwp.1 q
    refine lv_iconst (v := 0) hx hb dX7_isRoot_23 (by decide) ?_
    exact sw_zret hx hb hret hlocks hz (Or.inl rfl) hwp dX7_isRoot_24
  · have hwp := hwp.2 q
    refine lv_aload_n hx hb dX7_isRoot_9 rfl (lv_at hl 0 rfl) ?_
    refine lv_bipush (v := 10) hx hb dX7_isRoot_10 (by decide) ?_
    refine lv_iload_n hx hb dX7_isRoot_12 rfl (lv_at hl 1 rfl) ?_
    obtain ⟨P8, hc9, hwp⟩ := hwp
    refine sw_calli hz (va_runV (As := [.int 10, .int i1]) (rest := []) ⟨hx, hb, hml, hown, hts⟩ (hc9 hK _) (cwV 2 hts gX7_isRoot_X7_divides rfl rfl rfl (by decide +kernel) ⟨Nat.le_of_ble_eq_true rfl, Nat.le_of_ble_eq_true rfl⟩) (hz.preV hK hs1 rfl) rfl rfl hl.1 rfl (lv_room (Nat.le_of_ble_eq_true rfl)) dX7_isRoot_13 ⟨Nat.le_of_ble_eq_true rfl, Nat.le_of_ble_eq_true rfl⟩) (fun r13 I10 L11 A12 H locs hp hz => ?_)
    have hwp := hwp r13 I10 L11 A12 hp
    refine lv_if_eq (tgt := 23) hx hb dX7_isRoot_16 (by decide) (fun q => ?_) (fun q => ?_)
    · have hwp := hwp.1 q
      refine lv_iconst (v := 0) hx hb dX7_isRoot_23 (by decide) ?_
      exact sw_zret hx hb hret hlocks hz (Or.inl rfl) hwp dX7_isRoot_24
    · have hwp := hwp.2 q
      refine lv_iconst (v := 1) hx hb dX7_isRoot_19 (by decide) ?_
      refine lv_goto (tgt := 24) hx hb dX7_isRoot_20 (by decide) ?_
      exact sw_zret hx hb hret hlocks hz (Or.inr rfl) hwp dX7_isRoot_24

def wp_X7_findFirst_83 (K : Cx) (o0 : Nat) (i1 : Int32) (C72 : TI → TL → TA → Int32 → Prop) (I : TI) (L : TL) (A : TA) (x3 : Int32) (x4 : Int32) (Q : TI → TL → TA → Prop) : Prop := ∃ (Inv : Nat → TI → TL → TA → Int32 → Int32 → Prop) (μ : Nat), Inv μ I L A x3 x4 ∧ ∀ (μ : Nat) (C83 : TI → TL → TA → Int32 → Int32 → Prop), (∀ (μ' : Nat) (I : TI) (L : TL) (A : TA) (x3 : Int32) (x4 : Int32) , μ' < μ → Inv μ' I L A x3 x4 → C83 I L A x3 x4) → ∀ (I : TI) (L : TL) (A : TA) (x3 : Int32) (x4 : Int32) , Inv μ I L A x3 x4 → cxS K o0 = shX7 o0 ∧ (((2 * (I o0 14)) ≤ x4 → ∀ v2 : Int32, v2 = x3 + 1 → C72 I L A v2) ∧ (¬ (2 * (I o0 14)) ≤ x4 → ∃ P3 : TI → TL → TA → Prop, ConV K yX7_clear wsX7_clear 0 0 I L A [.ref o0, .int 10] P3 ∧ ∀ (I5 : TI) (L6 : TL) (A7 : TA), P3 I5 L6 A7 → aok (cxS K) (o0 + 7) 0 (100 + (x4 / 2)) ∧ ∃ P9 : Int32 → TI → TL → TA → Prop, ConI K yX7_signed wsX7_signed 0 0 I5 L6 A7 [.int (I5 (o0 + 7) (ix (100 + (x4 / 2)))), .int x4] P9 ∧ ∀ (r14 : Int32) (I11 : TI) (L12 : TL) (A13 : TA), P9 r14 I11 L12 A13 → aok (cxS K) (o0 + 1) 1 80 ∧ ∀ L16 : TL, L16 = u2 L12 (o0 + 1) (ix 80) (Int32.toInt64 r14) → aok (cxS K) (o0 + 7) 0 x3 ∧ aok (cxS K) (o0 + 1) 1 81 ∧ ∀ L19 : TL, L19 = u2 L16 (o0 + 1) (ix 81) (Int32.toInt64 (I11 (o0 + 7) (ix x3))) → aok (cxS K) (o0 + 1) 1 80 ∧ aok (cxS K) (o0 + 1) 1 81 ∧ ∃ P22 : Int64 → TI → TL → TA → Prop, ConL K yX7_gcd wsX7_gcd 0 0 I11 L19 A13 [.long (L19 (o0 + 1) (ix 80)), .long (L19 (o0 + 1) (ix 81))] P22 ∧ ∀ (r27 : Int64) (I24 : TI) (L25 : TL) (A26 : TA), P22 r27 I24 L25 A26 → ((r27 = 1 → ∃ P29 : Int32 → TI → TL → TA → Prop, ConI K yX7_isRoot wsX7_isRoot 3 74 I24 L25 A26 [.ref o0, .int i1] P29 ∧ ∀ (r34 : Int32) (I31 : TI) (L32 : TL) (A33 : TA), P29 r34 I31 L32 A33 → ((r34 = 0 → ∀ v35 : Int32, v35 = x4 + 1 → C83 I31 L32 A33 x3 v35) ∧ (¬ r34 = 0 → ∃ P36 : TI → TL → TA → Prop, ConV K yX7_takeOut wsX7_takeOut 3 74 I31 L32 A33 [.ref o0, .int i1] P36 ∧ ∀ (I38 : TI) (L39 : TL) (A40 : TA), P36 I38 L39 A40 → ∀ v41 : Int32, v41 = x4 + 1 → C83 I38 L39 A40 x3 v41))) ∧ (¬ r27 = 1 → ∀ v28 : Int32, v28 = x4 + 1 → C83 I24 L25 A26 x3 v28))))
def wp_X7_findFirst_72 (K : Cx) (o0 : Nat) (i1 : Int32) (I : TI) (L : TL) (A : TA) (x3 : Int32) (Q : TI → TL → TA → Prop) : Prop := ∃ (Inv : Nat → TI → TL → TA → Int32 → Prop) (μ : Nat), Inv μ I L A x3 ∧ ∀ (μ : Nat) (C72 : TI → TL → TA → Int32 → Prop), (∀ (μ' : Nat) (I : TI) (L : TL) (A : TA) (x3 : Int32) , μ' < μ → Inv μ' I L A x3 → C72 I L A x3) → ∀ (I : TI) (L : TL) (A : TA) (x3 : Int32) , Inv μ I L A x3 → cxS K o0 = shX7 o0 ∧ (((I o0 17) ≤ x3 → Q I L A) ∧ (¬ (I o0 17) ≤ x3 → wp_X7_findFirst_83 K o0 i1 C72 I L A x3 0 Q))
def wp_X7_findFirst (K : Cx) (I : TI) (L : TL) (A : TA) (o0 : Nat) (i1 : Int32) (Q : TI → TL → TA → Prop) : Prop := cxS K o0 = shX7 o0 ∧ ∃ P44 : TI → TL → TA → Prop, ConV K yX7_clear wsX7_clear 0 0 I L A [.ref o0, .int 10] P44 ∧ ∀ (I46 : TI) (L47 : TL) (A48 : TA), P44 I46 L47 A48 → aok (cxS K) (o0 + 1) 1 81 ∧ ∀ L50 : TL, L50 = u2 L47 (o0 + 1) (ix 81) 1 → ∃ P51 : TI → TL → TA → Prop, ConV K yX7_takeOut wsX7_takeOut 3 74 I46 L50 A48 [.ref o0, .int i1] P51 ∧ ∀ (I53 : TI) (L54 : TL) (A55 : TA), P51 I53 L54 A55 → ∃ P56 : Int32 → TI → TL → TA → Prop, ConI K yX7_degreeOf wsX7_degreeOf 0 0 I53 L54 A55 [.ref o0, .int i1] P56 ∧ ∀ (r61 : Int32) (I58 : TI) (L59 : TL) (A60 : TA), P56 r61 I58 L59 A60 → ((1 ≤ r61 → aok (cxS K) (o0 + 1) 1 ((8 * i1) + r61) ∧ ∃ P63 : Int32 → TI → TL → TA → Prop, ConI K yX7_list wsX7_list 0 0 I58 L59 A60 [.ref o0, .long (L59 (o0 + 1) (ix ((8 * i1) + r61))), .int 0] P63 ∧ ∀ (r68 : Int32) (I65 : TI) (L66 : TL) (A67 : TA), P63 r68 I65 L66 A67 → ∀ I69 : TI, I69 = u2 I65 o0 17 r68 → aok (cxS K) (o0 + 1) 1 (8 * i1) ∧ ∃ P71 : Int32 → TI → TL → TA → Prop, ConI K yX7_list wsX7_list 0 0 I69 L66 A67 [.ref o0, .long (L66 (o0 + 1) (ix (8 * i1))), .int 100] P71 ∧ ∀ (r76 : Int32) (I73 : TI) (L74 : TL) (A75 : TA), P71 r76 I73 L74 A75 → ∀ I77 : TI, I77 = u2 I73 o0 14 r76 → wp_X7_findFirst_72 K o0 i1 I77 L74 A75 0 Q) ∧ (¬ 1 ≤ r61 → Q I58 L59 A60))
set_option maxHeartbeats 1000000 in
set_option maxRecDepth 100000 in
theorem w_X7_findFirst (K : Cx) (I : TI) (L : TL) (A : TA) (o0 : Nat) (i1 : Int32) (Q : TI → TL → TA → Prop) (hwp : wp_X7_findFirst K I L A o0 i1 Q) : ConV K yX7_findFirst wsX7_findFirst 4 96 I L A [.ref o0, .int i1] Q := by
  intro hK sz
  refine Met.ofW (cc := cX7_findFirst) (maxL := 5) (ret := none) (by decide) rfl ?_
  intro p e s m args below meth c s₁ B hml hv
  obtain ⟨rfl, hsz, hB⟩ := hv
  have hx := B.exec
  have hb := B.bytes
  have hret := B.returns
  have hts := atoms_spec (ws := wsX7_findFirst) B.pre
  have hown : s.vm.findClass RX7 = some m.cls := findClass_of_methodNamed B.named
  have hlocks := B.notSynchronized
  subst hsz
  have hz : SS K s I L A s.heap [] := PS.start hB
  have hl := lv_entry ([.ref o0, .int i1]) (n := 5) (Nat.le_of_ble_eq_true rfl)
  rw [lg_entry_eq]
  generalize (lg_sl ([.ref o0, .int i1]) ++ List.replicate (5 - (lg_sl ([.ref o0, .int i1])).length) Slot.unset).toArray = ls at hl ⊢
  have hl : lv_has ls 5 [(0, .ref o0), (1, .int i1)] := hl
  have hw0 : ∀ w ∈ u_ws RX7 TX7 25, w ∈ wsX7_findFirst := by decide +kernel
  have hw1 := hts (.fieldLink RX7 96 "GaloisDeskModel" "lows" "I") (by decide +kernel)
  have hw2 := hts (.fieldLink RX7 7 "GaloisDeskModel" "row" "[J") (by decide +kernel)
  have hw3 := hts (.fieldLink RX7 29 "GaloisDeskModel" "divisors" "[I") (by decide +kernel)
  have hw4 := hts (.fieldLink RX7 93 "GaloisDeskModel" "leads" "I") (by decide +kernel)
  clear hB B
  have wL83 : ∀ (C72 : TI → TL → TA → Int32 → Prop) (hC72 : ∀ (I : TI) (L : TL) (A : TA) (x3 : Int32) (H : Heap) (locs : List Loc) (ls : Array Slot), C72 I L A x3 → SS K s I L A H locs → lv_has ls 5 [(0, .ref o0), (1, .int i1), (3, .int x3)] → W p (cxl K) e (headSpec wsX7_findFirst (rmF 4 96)).room s m ([.ref o0, .int i1] : List Value).toArray below meth c H locs 0 0 (MQ below (cxQv K Q) ([.ref o0, .int i1] : List Value).toArray s 0 0 (PA (cxb K))) (F0 m 72 ls [])) (I : TI) (L : TL) (A : TA) (x3 : Int32) (x4 : Int32) (H : Heap) (locs : List Loc) (ls : Array Slot), wp_X7_findFirst_83 K o0 i1 C72 I L A x3 x4 Q → SS K s I L A H locs → lv_has ls 5 [(0, .ref o0), (1, .int i1), (3, .int x3), (4, .int x4)] → W p (cxl K) e (headSpec wsX7_findFirst (rmF 4 96)).room s m ([.ref o0, .int i1] : List Value).toArray below meth c H locs 0 0 (MQ below (cxQv K Q) ([.ref o0, .int i1] : List Value).toArray s 0 0 (PA (cxb K))) (F0 m 83 ls []) := by
    intro C72 hC72 I L A x3 x4 H locs ls hwp hz hl
    obtain ⟨Inv, μ, hi, hst⟩ := hwp
    have key : ∀ (μ : Nat) (I : TI) (L : TL) (A : TA) (x3 : Int32) (x4 : Int32) (H : Heap) (locs : List Loc) (ls : Array Slot), Inv μ I L A x3 x4 → SS K s I L A H locs → lv_has ls 5 [(0, .ref o0), (1, .int i1), (3, .int x3), (4, .int x4)] → W p (cxl K) e (headSpec wsX7_findFirst (rmF 4 96)).room s m ([.ref o0, .int i1] : List Value).toArray below meth c H locs 0 0 (MQ below (cxQv K Q) ([.ref o0, .int i1] : List Value).toArray s 0 0 (PA (cxb K))) (F0 m 83 ls []) := by
      clear hi hz hl
      intro μ
      induction μ using Nat.strongRecOn with | ind μ ih => ?_
      intro I L A x3 x4 H locs ls hi hz hl
      obtain ⟨C83, hCd⟩ : ∃ C : TI → TL → TA → Int32 → Int32 → Prop, C = fun I L A x3 x4 => ∃ μ', μ' < μ ∧ Inv μ' I L A x3 x4 := ⟨_, rfl⟩
      have hC83 : ∀ (I : TI) (L : TL) (A : TA) (x3 : Int32) (x4 : Int32) (H : Heap) (locs : List Loc) (ls : Array Slot), C83 I L A x3 x4 → SS K s I L A H locs → lv_has ls 5 [(0, .ref o0), (1, .int i1), (3, .int x3), (4, .int x4)] → W p (cxl K) e (headSpec wsX7_findFirst (rmF 4 96)).room s m ([.ref o0, .int i1] : List Value).toArray below meth c H locs 0 0 (MQ below (cxQv K Q) ([.ref o0, .int i1] : List Value).toArray s 0 0 (PA (cxb K))) (F0 m 83 ls []) := by
        intro I L A x3 x4 H locs ls hc hz hl
        rw [hCd] at hc
        obtain ⟨μ', hlt, hc⟩ := hc
        exact ih μ' hlt I L A x3 x4 H locs ls hc hz hl
      have hwp := hst μ C83 (fun μ' I L A x3 x4 hlt hc => by rw [hCd]; exact ⟨μ', hlt, hc⟩) I L A x3 x4 hi
      refine lv_iload hx hb dX7_findFirst_83 (lv_at hl 3 rfl) ?_
      refine lv_iconst (v := 2) hx hb dX7_findFirst_85 (by decide) ?_
      refine lv_aload_n hx hb dX7_findFirst_86 rfl (lv_at hl 0 rfl) ?_
      obtain ⟨hs1, hwp⟩ := hwp
      refine sw_get (C := RX7) (T := TX7) (N := 25) (v := .int (I o0 14)) hx hb hts hw0 hown hK hz hs1 rfl 14 (by decide) hw1 (fun _ h9 => h9) rfl dX7_findFirst_87 ?_
      refine lv_imul hx hb dX7_findFirst_90 ?_
      refine lv_icmp_ge (tgt := 180) hx hb dX7_findFirst_91 (by decide) (fun q => ?_) (fun q => ?_)
      · have hwp := hwp.1 q
        obtain ⟨v2, q_v2⟩ : ∃ y : Int32, y = x3 + 1 := ⟨_, rfl⟩
        have hwp := hwp v2 q_v2
        refine lv_iinc (v := v2) (lv' := [(3, .int v2), (0, .ref o0), (1, .int i1), (4, .int x4)]) hx hb dX7_findFirst_180 hl (k := 2) rfl (by rw [q_v2]; rfl) (by decide) rfl (fun ls hl => ?_)
        refine lv_goto (tgt := 72) hx hb dX7_findFirst_183 (by decide) ?_
        exact hC72 _ _ _ _ _ _ _ hwp hz (lv_sub hl [1, 2, 0] rfl)
      · have hwp := hwp.2 q
        refine lv_aload_n hx hb dX7_findFirst_94 rfl (lv_at hl 0 rfl) ?_
        refine lv_bipush (v := 10) hx hb dX7_findFirst_95 (by decide) ?_
        obtain ⟨P3, hc4, hwp⟩ := hwp
        refine sw_callv hz (va_runV (As := [.int 10]) (rest := []) ⟨hx, hb, hml, hown, hts⟩ (hc4 hK _) (cwV 1 hts gX7_findFirst_X7_clear rfl rfl rfl (by decide +kernel) ⟨Nat.le_of_ble_eq_true rfl, Nat.le_of_ble_eq_true rfl⟩) (hz.preV hK hs1 rfl) rfl rfl hl.1 rfl (lv_room (Nat.le_of_ble_eq_true rfl)) dX7_findFirst_97 ⟨Nat.le_of_ble_eq_true rfl, Nat.le_of_ble_eq_true rfl⟩) (fun I5 L6 A7 H locs hp hz => ?_)
        have hwp := hwp I5 L6 A7 hp
        refine lv_aload_n hx hb dX7_findFirst_100 rfl (lv_at hl 0 rfl) ?_
        refine sw_get (C := RX7) (T := TX7) (N := 25) (v := .ref (o0 + 1)) hx hb hts hw0 hown hK hz hs1 rfl 1 (by decide) hw2 (fun _ h9 => h9) rfl dX7_findFirst_101 ?_
        refine lv_bipush (v := 80) hx hb dX7_findFirst_104 (by decide) ?_
        refine lv_aload_n hx hb dX7_findFirst_106 rfl (lv_at hl 0 rfl) ?_
        refine sw_get (C := RX7) (T := TX7) (N := 25) (v := .ref (o0 + 7)) hx hb hts hw0 hown hK hz hs1 rfl 13 (by decide) hw3 (fun _ h9 => h9) rfl dX7_findFirst_107 ?_
        refine lv_bipush (v := 100) hx hb dX7_findFirst_110 (by decide) ?_
        refine lv_iload hx hb dX7_findFirst_112 (lv_at hl 3 rfl) ?_
        refine lv_iconst (v := 2) hx hb dX7_findFirst_114 (by decide) ?_
        refine lv_idiv hx hb dX7_findFirst_115 (by decide) ?_
        refine lv_iadd hx hb dX7_findFirst_116 ?_
        obtain ⟨ho8, hwp⟩ := hwp
        refine sw_iald hx hb hK hz ho8 dX7_findFirst_117 ?_
        refine lv_iload hx hb dX7_findFirst_118 (lv_at hl 3 rfl) ?_
        obtain ⟨P9, hc10, hwp⟩ := hwp
        refine sw_calli hz (va_runS (As := [.int (I5 (o0 + 7) (ix (100 + (x4 / 2)))), .int x4]) (rest := [.int 80, .ref (o0 + 1)]) ⟨hx, hb, hml, hown, hts⟩ (hc10 hK _) (va_cwS 2 hts gX7_findFirst_X7_signed rfl rfl rfl (by decide +kernel) ⟨Nat.le_of_ble_eq_true rfl, Nat.le_of_ble_eq_true rfl⟩) hz.preS rfl rfl hl.1 rfl (lv_room (Nat.le_of_ble_eq_true rfl)) dX7_findFirst_120 ⟨Nat.le_of_ble_eq_true rfl, Nat.le_of_ble_eq_true rfl⟩) (fun r14 I11 L12 A13 H locs hp hz => ?_)
        have hwp := hwp r14 I11 L12 A13 hp
        refine lv_i2l hx hb dX7_findFirst_123 rfl ?_
        obtain ⟨ho15, hwp⟩ := hwp
        refine sw_last hx hb hK hz ho15 dX7_findFirst_124 (fun H locs L16 e_L16 hz => ?_)
        have hwp := hwp L16 e_L16
        refine lv_aload_n hx hb dX7_findFirst_125 rfl (lv_at hl 0 rfl) ?_
        refine sw_get (C := RX7) (T := TX7) (N := 25) (v := .ref (o0 + 1)) hx hb hts hw0 hown hK hz hs1 rfl 1 (by decide) hw2 (fun _ h9 => h9) rfl dX7_findFirst_126 ?_
        refine lv_bipush (v := 81) hx hb dX7_findFirst_129 (by decide) ?_
        refine lv_aload_n hx hb dX7_findFirst_131 rfl (lv_at hl 0 rfl) ?_
        refine sw_get (C := RX7) (T := TX7) (N := 25) (v := .ref (o0 + 7)) hx hb hts hw0 hown hK hz hs1 rfl 13 (by decide) hw3 (fun _ h9 => h9) rfl dX7_findFirst_132 ?_
        refine lv_iload_n hx hb dX7_findFirst_135 rfl (lv_at hl 2 rfl) ?_
        obtain ⟨ho17, hwp⟩ := hwp
        refine sw_iald hx hb hK hz ho17 dX7_findFirst_136 ?_
        refine lv_i2l hx hb dX7_findFirst_137 rfl ?_
        obtain ⟨ho18, hwp⟩ := hwp
        refine sw_last hx hb hK hz ho18 dX7_findFirst_138 (fun H locs L19 e_L19 hz => ?_)
        have hwp := hwp L19 e_L19
        refine lv_aload_n hx hb dX7_findFirst_139 rfl (lv_at hl 0 rfl) ?_
        refine sw_get (C := RX7) (T := TX7) (N := 25) (v := .ref (o0 + 1)) hx hb hts hw0 hown hK hz hs1 rfl 1 (by decide) hw2 (fun _ h9 => h9) rfl dX7_findFirst_140 ?_
        refine lv_bipush (v := 80) hx hb dX7_findFirst_143 (by decide) ?_
        obtain ⟨ho20, hwp⟩ := hwp
        refine sw_lald hx hb hK hz ho20 dX7_findFirst_145 ?_
        refine lv_aload_n hx hb dX7_findFirst_146 rfl (lv_at hl 0 rfl) ?_
        refine sw_get (C := RX7) (T := TX7) (N := 25) (v := .ref (o0 + 1)) hx hb hts hw0 hown hK hz hs1 rfl 1 (by decide) hw2 (fun _ h9 => h9) rfl dX7_findFirst_147 ?_
        refine lv_bipush (v := 81) hx hb dX7_findFirst_150 (by decide) ?_
        obtain ⟨ho21, hwp⟩ := hwp
        refine sw_lald hx hb hK hz ho21 dX7_findFirst_152 ?_
        obtain ⟨P22, hc23, hwp⟩ := hwp
        refine sw_calll hz (va_runS (As := [.long (L19 (o0 + 1) (ix 80)), .long (L19 (o0 + 1) (ix 81))]) (rest := []) ⟨hx, hb, hml, hown, hts⟩ (hc23 hK _) (va_cwS 2 hts gX7_findFirst_X7_gcd rfl rfl rfl (by decide +kernel) ⟨Nat.le_of_ble_eq_true rfl, Nat.le_of_ble_eq_true rfl⟩) hz.preS rfl rfl hl.1 rfl (lv_room (Nat.le_of_ble_eq_true rfl)) dX7_findFirst_153 ⟨Nat.le_of_ble_eq_true rfl, Nat.le_of_ble_eq_true rfl⟩) (fun r27 I24 L25 A26 H locs hp hz => ?_)
        have hwp := hwp r27 I24 L25 A26 hp
        refine lv_lconst (v := 1) hx hb dX7_findFirst_156 (by decide) ?_
        refine W.lcmp hx hb dX7_findFirst_157 ?_
        refine W.eq (g2 := F0 m 158 ls [.int (lg_cmp r27 1)]) rfl ?_
        refine lv_if_ne (tgt := 174) hx hb dX7_findFirst_158 (by decide) (fun q => ?_) (fun q => ?_)
        · have hwp := hwp.2 (fun h => q ((lg_cmp_eq _ _).mpr h))
          obtain ⟨v28, q_v28⟩ : ∃ y : Int32, y = x4 + 1 := ⟨_, rfl⟩
          have hwp := hwp v28 q_v28
          refine lv_iinc (v := v28) (lv' := [(4, .int v28), (0, .ref o0), (1, .int i1), (3, .int x3)]) hx hb dX7_findFirst_174 hl (k := 3) rfl (by rw [q_v28]; rfl) (by decide) rfl (fun ls hl => ?_)
          refine lv_goto (tgt := 83) hx hb dX7_findFirst_177 (by decide) ?_
          exact hC83 _ _ _ _ _ _ _ _ hwp hz (lv_sub hl [1, 2, 3, 0] rfl)
        · have hwp := hwp.1 ((lg_cmp_eq _ _).mp q)
          refine lv_aload_n hx hb dX7_findFirst_161 rfl (lv_at hl 0 rfl) ?_
          refine lv_iload_n hx hb dX7_findFirst_162 rfl (lv_at hl 1 rfl) ?_
          obtain ⟨P29, hc30, hwp⟩ := hwp
          refine sw_calli hz (va_runV (As := [.int i1]) (rest := []) ⟨hx, hb, hml, hown, hts⟩ (hc30 hK _) (cwV 1 hts gX7_findFirst_X7_isRoot rfl rfl rfl (by decide +kernel) ⟨Nat.le_of_ble_eq_true rfl, Nat.le_of_ble_eq_true rfl⟩) (hz.preV hK hs1 rfl) rfl rfl hl.1 rfl (lv_room (Nat.le_of_ble_eq_true rfl)) dX7_findFirst_163 ⟨Nat.le_of_ble_eq_true rfl, Nat.le_of_ble_eq_true rfl⟩) (fun r34 I31 L32 A33 H locs hp hz => ?_)
          have hwp := hwp r34 I31 L32 A33 hp
          refine lv_if_eq (tgt := 174) hx hb dX7_findFirst_166 (by decide) (fun q => ?_) (fun q => ?_)
          · have hwp := hwp.1 q
            obtain ⟨v35, q_v35⟩ : ∃ y : Int32, y = x4 + 1 := ⟨_, rfl⟩
            have hwp := hwp v35 q_v35
            refine lv_iinc (v := v35) (lv' := [(4, .int v35), (0, .ref o0), (1, .int i1), (3, .int x3)]) hx hb dX7_findFirst_174 hl (k := 3) rfl (by rw [q_v35]; rfl) (by decide) rfl (fun ls hl => ?_)
            refine lv_goto (tgt := 83) hx hb dX7_findFirst_177 (by decide) ?_
            exact hC83 _ _ _ _ _ _ _ _ hwp hz (lv_sub hl [1, 2, 3, 0] rfl)
          · have hwp := hwp.2 q
            refine lv_aload_n hx hb dX7_findFirst_169 rfl (lv_at hl 0 rfl) ?_
            refine lv_iload_n hx hb dX7_findFirst_170 rfl (lv_at hl 1 rfl) ?_
            obtain ⟨P36, hc37, hwp⟩ := hwp
            refine sw_callv hz (va_runV (As := [.int i1]) (rest := []) ⟨hx, hb, hml, hown, hts⟩ (hc37 hK _) (cwV 1 hts gX7_findFirst_X7_takeOut rfl rfl rfl (by decide +kernel) ⟨Nat.le_of_ble_eq_true rfl, Nat.le_of_ble_eq_true rfl⟩) (hz.preV hK hs1 rfl) rfl rfl hl.1 rfl (lv_room (Nat.le_of_ble_eq_true rfl)) dX7_findFirst_171 ⟨Nat.le_of_ble_eq_true rfl, Nat.le_of_ble_eq_true rfl⟩) (fun I38 L39 A40 H locs hp hz => ?_)
            have hwp := hwp I38 L39 A40 hp
            obtain ⟨v41, q_v41⟩ : ∃ y : Int32, y = x4 + 1 := ⟨_, rfl⟩
            have hwp := hwp v41 q_v41
            refine lv_iinc (v := v41) (lv' := [(4, .int v41), (0, .ref o0), (1, .int i1), (3, .int x3)]) hx hb dX7_findFirst_174 hl (k := 3) rfl (by rw [q_v41]; rfl) (by decide) rfl (fun ls hl => ?_)
            refine lv_goto (tgt := 83) hx hb dX7_findFirst_177 (by decide) ?_
            exact hC83 _ _ _ _ _ _ _ _ hwp hz (lv_sub hl [1, 2, 3, 0] rfl)
    exact key μ I L A x3 x4 H locs ls hi hz hl
  have wL72 : ∀ (I : TI) (L : TL) (A : TA) (x3 : Int32) (H : Heap) (locs : List Loc) (ls : Array Slot), wp_X7_findFirst_72 K o0 i1 I L A x3 Q → SS K s I L A H locs → lv_has ls 5 [(0, .ref o0), (1, .int i1), (3, .int x3)] → W p (cxl K) e (headSpec wsX7_findFirst (rmF 4 96)).room s m ([.ref o0, .int i1] : List Value).toArray below meth c H locs 0 0 (MQ below (cxQv K Q) ([.ref o0, .int i1] : List Value).toArray s 0 0 (PA (cxb K))) (F0 m 72 ls []) := by
    intro I L A x3 H locs ls hwp hz hl
    obtain ⟨Inv, μ, hi, hst⟩ := hwp
    have key : ∀ (μ : Nat) (I : TI) (L : TL) (A : TA) (x3 : Int32) (H : Heap) (locs : List Loc) (ls : Array Slot), Inv μ I L A x3 → SS K s I L A H locs → lv_has ls 5 [(0, .ref o0), (1, .int i1), (3, .int x3)] → W p (cxl K) e (headSpec wsX7_findFirst (rmF 4 96)).room s m ([.ref o0, .int i1] : List Value).toArray below meth c H locs 0 0 (MQ below (cxQv K Q) ([.ref o0, .int i1] : List Value).toArray s 0 0 (PA (cxb K))) (F0 m 72 ls []) := by
      clear hi hz hl
      intro μ
      induction μ using Nat.strongRecOn with | ind μ ih => ?_
      intro I L A x3 H locs ls hi hz hl
      obtain ⟨C72, hCd⟩ : ∃ C : TI → TL → TA → Int32 → Prop, C = fun I L A x3 => ∃ μ', μ' < μ ∧ Inv μ' I L A x3 := ⟨_, rfl⟩
      have hC72 : ∀ (I : TI) (L : TL) (A : TA) (x3 : Int32) (H : Heap) (locs : List Loc) (ls : Array Slot), C72 I L A x3 → SS K s I L A H locs → lv_has ls 5 [(0, .ref o0), (1, .int i1), (3, .int x3)] → W p (cxl K) e (headSpec wsX7_findFirst (rmF 4 96)).room s m ([.ref o0, .int i1] : List Value).toArray below meth c H locs 0 0 (MQ below (cxQv K Q) ([.ref o0, .int i1] : List Value).toArray s 0 0 (PA (cxb K))) (F0 m 72 ls []) := by
        intro I L A x3 H locs ls hc hz hl
        rw [hCd] at hc
        obtain ⟨μ', hlt, hc⟩ := hc
        exact ih μ' hlt I L A x3 H locs ls hc hz hl
      have hwp := hst μ C72 (fun μ' I L A x3 hlt hc => by rw [hCd]; exact ⟨μ', hlt, hc⟩) I L A x3 hi
      refine lv_iload_n hx hb dX7_findFirst_72 rfl (lv_at hl 2 rfl) ?_
      refine lv_aload_n hx hb dX7_findFirst_73 rfl (lv_at hl 0 rfl) ?_
      obtain ⟨hs42, hwp⟩ := hwp
      refine sw_get (C := RX7) (T := TX7) (N := 25) (v := .int (I o0 17)) hx hb hts hw0 hown hK hz hs42 rfl 17 (by decide) hw4 (fun _ h9 => h9) rfl dX7_findFirst_74 ?_
      refine lv_icmp_ge (tgt := 186) hx hb dX7_findFirst_77 (by decide) (fun q => ?_) (fun q => ?_)
      · have hwp := hwp.1 q
        exact sw_vret hx hb hret hlocks hz hwp dX7_findFirst_186
      · have hwp := hwp.2 q
        refine lv_iconst (v := 0) hx hb dX7_findFirst_80 (by decide) ?_
        refine lv_istore (lv' := [(4, .int 0), (0, .ref o0), (1, .int i1), (3, .int x3)]) hx hb dX7_findFirst_81 hl (by decide) rfl (fun ls hl => ?_)
        exact wL83 _ hC72 _ _ _ _ _ _ _ _ hwp hz (lv_sub hl [1, 2, 3, 0] rfl)
    exact key μ I L A x3 H locs ls hi hz hl
  refine lv_aload_n hx hb dX7_findFirst_0 rfl (lv_at hl 0 rfl) ?_
  refine lv_bipush (v := 10) hx hb dX7_findFirst_1 (by decide) ?_
  obtain ⟨hs43, hwp⟩ := hwp
  obtain ⟨P44, hc45, hwp⟩ := hwp
  refine sw_callv hz (va_runV (As := [.int 10]) (rest := []) ⟨hx, hb, hml, hown, hts⟩ (hc45 hK _) (cwV 1 hts gX7_findFirst_X7_clear rfl rfl rfl (by decide +kernel) ⟨Nat.le_of_ble_eq_true rfl, Nat.le_of_ble_eq_true rfl⟩) (hz.preV hK hs43 rfl) rfl rfl hl.1 rfl (lv_room (Nat.le_of_ble_eq_true rfl)) dX7_findFirst_3 ⟨Nat.le_of_ble_eq_true rfl, Nat.le_of_ble_eq_true rfl⟩) (fun I46 L47 A48 H locs hp hz => ?_)
  have hwp := hwp I46 L47 A48 hp
  refine lv_aload_n hx hb dX7_findFirst_6 rfl (lv_at hl 0 rfl) ?_
  refine sw_get (C := RX7) (T := TX7) (N := 25) (v := .ref (o0 + 1)) hx hb hts hw0 hown hK hz hs43 rfl 1 (by decide) hw2 (fun _ h9 => h9) rfl dX7_findFirst_7 ?_
  refine lv_bipush (v := 81) hx hb dX7_findFirst_10 (by decide) ?_
  refine lv_lconst (v := 1) hx hb dX7_findFirst_12 (by decide) ?_
  obtain ⟨ho49, hwp⟩ := hwp
  refine sw_last hx hb hK hz ho49 dX7_findFirst_13 (fun H locs L50 e_L50 hz => ?_)
  have hwp := hwp L50 e_L50
  refine lv_aload_n hx hb dX7_findFirst_14 rfl (lv_at hl 0 rfl) ?_
  refine lv_iload_n hx hb dX7_findFirst_15 rfl (lv_at hl 1 rfl) ?_
  obtain ⟨P51, hc52, hwp⟩ := hwp
  refine sw_callv hz (va_runV (As := [.int i1]) (rest := []) ⟨hx, hb, hml, hown, hts⟩ (hc52 hK _) (cwV 1 hts gX7_findFirst_X7_takeOut rfl rfl rfl (by decide +kernel) ⟨Nat.le_of_ble_eq_true rfl, Nat.le_of_ble_eq_true rfl⟩) (hz.preV hK hs43 rfl) rfl rfl hl.1 rfl (lv_room (Nat.le_of_ble_eq_true rfl)) dX7_findFirst_16 ⟨Nat.le_of_ble_eq_true rfl, Nat.le_of_ble_eq_true rfl⟩) (fun I53 L54 A55 H locs hp hz => ?_)
  have hwp := hwp I53 L54 A55 hp
  refine lv_aload_n hx hb dX7_findFirst_19 rfl (lv_at hl 0 rfl) ?_
  refine lv_iload_n hx hb dX7_findFirst_20 rfl (lv_at hl 1 rfl) ?_
  obtain ⟨P56, hc57, hwp⟩ := hwp
  refine sw_calli hz (va_runV (As := [.int i1]) (rest := []) ⟨hx, hb, hml, hown, hts⟩ (hc57 hK _) (cwV 1 hts gX7_findFirst_X7_degreeOf rfl rfl rfl (by decide +kernel) ⟨Nat.le_of_ble_eq_true rfl, Nat.le_of_ble_eq_true rfl⟩) (hz.preV hK hs43 rfl) rfl rfl hl.1 rfl (lv_room (Nat.le_of_ble_eq_true rfl)) dX7_findFirst_21 ⟨Nat.le_of_ble_eq_true rfl, Nat.le_of_ble_eq_true rfl⟩) (fun r61 I58 L59 A60 H locs hp hz => ?_)
  have hwp := hwp r61 I58 L59 A60 hp
  refine lv_istore_n (lv' := [(2, .int r61), (0, .ref o0), (1, .int i1)]) hx hb dX7_findFirst_24 rfl hl (by decide) rfl (fun ls hl => ?_)
  refine lv_iload_n hx hb dX7_findFirst_25 rfl (lv_at hl 0 rfl) ?_
  refine lv_iconst (v := 1) hx hb dX7_findFirst_26 (by decide) ?_
  refine lv_icmp_ge (tgt := 31) hx hb dX7_findFirst_27 (by decide) (fun q => ?_) (fun q => ?_)
  · have hwp := hwp.1 q
    refine lv_aload_n hx hb dX7_findFirst_31 rfl (lv_at hl 1 rfl) ?_
    refine lv_aload_n hx hb dX7_findFirst_32 rfl (lv_at hl 1 rfl) ?_
    refine lv_aload_n hx hb dX7_findFirst_33 rfl (lv_at hl 1 rfl) ?_
    refine sw_get (C := RX7) (T := TX7) (N := 25) (v := .ref (o0 + 1)) hx hb hts hw0 hown hK hz hs43 rfl 1 (by decide) hw2 (fun _ h9 => h9) rfl dX7_findFirst_34 ?_
    refine lv_bipush (v := 8) hx hb dX7_findFirst_37 (by decide) ?_
    refine lv_iload_n hx hb dX7_findFirst_39 rfl (lv_at hl 2 rfl) ?_
    refine lv_imul hx hb dX7_findFirst_40 ?_
    refine lv_iload_n hx hb dX7_findFirst_41 rfl (lv_at hl 0 rfl) ?_
    refine lv_iadd hx hb dX7_findFirst_42 ?_
    obtain ⟨ho62, hwp⟩ := hwp
    refine sw_lald hx hb hK hz ho62 dX7_findFirst_43 ?_
    refine lv_iconst (v := 0) hx hb dX7_findFirst_44 (by decide) ?_
    obtain ⟨P63, hc64, hwp⟩ := hwp
    refine sw_calli hz (va_runV (As := [.long (L59 (o0 + 1) (ix ((8 * i1) + r61))), .int 0]) (rest := [.ref o0]) ⟨hx, hb, hml, hown, hts⟩ (hc64 hK _) (cwV 2 hts gX7_findFirst_X7_list rfl rfl rfl (by decide +kernel) ⟨Nat.le_of_ble_eq_true rfl, Nat.le_of_ble_eq_true rfl⟩) (hz.preV hK hs43 rfl) rfl rfl hl.1 rfl (lv_room (Nat.le_of_ble_eq_true rfl)) dX7_findFirst_45 ⟨Nat.le_of_ble_eq_true rfl, Nat.le_of_ble_eq_true rfl⟩) (fun r68 I65 L66 A67 H locs hp hz => ?_)
    have hwp := hwp r68 I65 L66 A67 hp
    refine sw_putI (C := RX7) (T := TX7) (N := 25) hx hb hts hw0 tyX7 tyX7_ok nmX7 hown hK hz hs43 rfl 17 (by decide) hw4 (fun _ h9 => h9) rfl (by decide +kernel) rfl dX7_findFirst_48 (fun H locs I69 e_I69 hz => ?_)
    have hwp := hwp I69 e_I69
    refine lv_aload_n hx hb dX7_findFirst_51 rfl (lv_at hl 1 rfl) ?_
    refine lv_aload_n hx hb dX7_findFirst_52 rfl (lv_at hl 1 rfl) ?_
    refine lv_aload_n hx hb dX7_findFirst_53 rfl (lv_at hl 1 rfl) ?_
    refine sw_get (C := RX7) (T := TX7) (N := 25) (v := .ref (o0 + 1)) hx hb hts hw0 hown hK hz hs43 rfl 1 (by decide) hw2 (fun _ h9 => h9) rfl dX7_findFirst_54 ?_
    refine lv_bipush (v := 8) hx hb dX7_findFirst_57 (by decide) ?_
    refine lv_iload_n hx hb dX7_findFirst_59 rfl (lv_at hl 2 rfl) ?_
    refine lv_imul hx hb dX7_findFirst_60 ?_
    obtain ⟨ho70, hwp⟩ := hwp
    refine sw_lald hx hb hK hz ho70 dX7_findFirst_61 ?_
    refine lv_bipush (v := 100) hx hb dX7_findFirst_62 (by decide) ?_
    obtain ⟨P71, hc72, hwp⟩ := hwp
    refine sw_calli hz (va_runV (As := [.long (L66 (o0 + 1) (ix (8 * i1))), .int 100]) (rest := [.ref o0]) ⟨hx, hb, hml, hown, hts⟩ (hc72 hK _) (cwV 2 hts gX7_findFirst_X7_list rfl rfl rfl (by decide +kernel) ⟨Nat.le_of_ble_eq_true rfl, Nat.le_of_ble_eq_true rfl⟩) (hz.preV hK hs43 rfl) rfl rfl hl.1 rfl (lv_room (Nat.le_of_ble_eq_true rfl)) dX7_findFirst_64 ⟨Nat.le_of_ble_eq_true rfl, Nat.le_of_ble_eq_true rfl⟩) (fun r76 I73 L74 A75 H locs hp hz => ?_)
    have hwp := hwp r76 I73 L74 A75 hp
    refine sw_putI (C := RX7) (T := TX7) (N := 25) hx hb hts hw0 tyX7 tyX7_ok nmX7 hown hK hz hs43 rfl 14 (by decide) hw1 (fun _ h9 => h9) rfl (by decide +kernel) rfl dX7_findFirst_67 (fun H locs I77 e_I77 hz => ?_)
    have hwp := hwp I77 e_I77
    refine lv_iconst (v := 0) hx hb dX7_findFirst_70 (by decide) ?_
    refine lv_istore_n (lv' := [(3, .int 0), (2, .int r61), (0, .ref o0), (1, .int i1)]) hx hb dX7_findFirst_71 rfl hl (by decide) rfl (fun ls hl => ?_)
    exact wL72 _ _ _ _ _ _ _ hwp hz (lv_sub hl [2, 3, 0] rfl)
  · have hwp := hwp.2 q
    exact sw_vret hx hb hret hlocks hz hwp dX7_findFirst_30

def wp_X7_valueAt_6 (K : Cx) (o0 : Nat) (i1 : Int32) (i2 : Int32) (I : TI) (L : TL) (A : TA) (x3 : Int64) (x5 : Int32) (Q : Int64 → TI → TL → TA → Prop) : Prop := ∃ (Inv : Nat → TI → TL → TA → Int64 → Int32 → Prop) (μ : Nat), Inv μ I L A x3 x5 ∧ ∀ (μ : Nat) (C6 : TI → TL → TA → Int64 → Int32 → Prop), (∀ (μ' : Nat) (I : TI) (L : TL) (A : TA) (x3 : Int64) (x5 : Int32) , μ' < μ → Inv μ' I L A x3 x5 → C6 I L A x3 x5) → ∀ (I : TI) (L : TL) (A : TA) (x3 : Int64) (x5 : Int32) , Inv μ I L A x3 x5 → ((x5 < 0 → Q x3 I L A) ∧ (¬ x5 < 0 → cxS K o0 = shX7 o0 ∧ aok (cxS K) (o0 + 1) 1 ((8 * i1) + x5) ∧ ∀ v3 : Int64, v3 = ((x3 * (Int32.toInt64 i2)) + (L (o0 + 1) (ix ((8 * i1) + x5)))) → ∀ v4 : Int32, v4 = x5 + (-1) → C6 I L A v3 v4))
def wp_X7_valueAt (K : Cx) (I : TI) (L : TL) (A : TA) (o0 : Nat) (i1 : Int32) (i2 : Int32) (Q : Int64 → TI → TL → TA → Prop) : Prop := wp_X7_valueAt_6 K o0 i1 i2 I L A 0 7 Q
set_option maxHeartbeats 1000000 in
set_option maxRecDepth 100000 in
theorem w_X7_valueAt (K : Cx) (I : TI) (L : TL) (A : TA) (o0 : Nat) (i1 : Int32) (i2 : Int32) (Q : Int64 → TI → TL → TA → Prop) (hwp : wp_X7_valueAt K I L A o0 i1 i2 Q) : ConL K yX7_valueAt wsX7_valueAt 0 0 I L A [.ref o0, .int i1, .int i2] Q := by
  intro hK sz
  refine Met.ofW (cc := cX7_valueAt) (maxL := 6) (ret := (some .long)) (by decide) rfl ?_
  intro p e s m args below meth c s₁ B hml hv
  obtain ⟨rfl, hsz, hB⟩ := hv
  have hx := B.exec
  have hb := B.bytes
  have hret := B.returns
  have hts := atoms_spec (ws := wsX7_valueAt) B.pre
  have hown : s.vm.findClass RX7 = some m.cls := findClass_of_methodNamed B.named
  have hlocks := B.notSynchronized
  subst hsz
  have hz : SS K s I L A s.heap [] := PS.start hB
  have hl := lv_entry ([.ref o0, .int i1, .int i2]) (n := 6) (Nat.le_of_ble_eq_true rfl)
  rw [lg_entry_eq]
  generalize (lg_sl ([.ref o0, .int i1, .int i2]) ++ List.replicate (6 - (lg_sl ([.ref o0, .int i1, .int i2])).length) Slot.unset).toArray = ls at hl ⊢
  have hl : lv_has ls 6 [(0, .ref o0), (1, .int i1), (2, .int i2)] := hl
  have hw0 : ∀ w ∈ u_ws RX7 TX7 25, w ∈ wsX7_valueAt := by decide +kernel
  have hw1 := hts (.fieldLink RX7 7 "GaloisDeskModel" "row" "[J") (by decide +kernel)
  clear hB B
  have wL6 : ∀ (I : TI) (L : TL) (A : TA) (x3 : Int64) (x5 : Int32) (H : Heap) (locs : List Loc) (ls : Array Slot), wp_X7_valueAt_6 K o0 i1 i2 I L A x3 x5 Q → SS K s I L A H locs → lv_has ls 6 [(0, .ref o0), (1, .int i1), (2, .int i2), (3, .long x3), (5, .int x5)] → W p (cxl K) e (headSpec wsX7_valueAt (rmF 0 0)).room s m ([.ref o0, .int i1, .int i2] : List Value).toArray below meth c H locs 0 0 (MQ below (cxQl K Q) ([.ref o0, .int i1, .int i2] : List Value).toArray s 0 0 (PA (cxb K))) (F0 m 6 ls []) := by
    intro I L A x3 x5 H locs ls hwp hz hl
    obtain ⟨Inv, μ, hi, hst⟩ := hwp
    have key : ∀ (μ : Nat) (I : TI) (L : TL) (A : TA) (x3 : Int64) (x5 : Int32) (H : Heap) (locs : List Loc) (ls : Array Slot), Inv μ I L A x3 x5 → SS K s I L A H locs → lv_has ls 6 [(0, .ref o0), (1, .int i1), (2, .int i2), (3, .long x3), (5, .int x5)] → W p (cxl K) e (headSpec wsX7_valueAt (rmF 0 0)).room s m ([.ref o0, .int i1, .int i2] : List Value).toArray below meth c H locs 0 0 (MQ below (cxQl K Q) ([.ref o0, .int i1, .int i2] : List Value).toArray s 0 0 (PA (cxb K))) (F0 m 6 ls []) := by
      clear hi hz hl
      intro μ
      induction μ using Nat.strongRecOn with | ind μ ih => ?_
      intro I L A x3 x5 H locs ls hi hz hl
      obtain ⟨C6, hCd⟩ : ∃ C : TI → TL → TA → Int64 → Int32 → Prop, C = fun I L A x3 x5 => ∃ μ', μ' < μ ∧ Inv μ' I L A x3 x5 := ⟨_, rfl⟩
      have hC6 : ∀ (I : TI) (L : TL) (A : TA) (x3 : Int64) (x5 : Int32) (H : Heap) (locs : List Loc) (ls : Array Slot), C6 I L A x3 x5 → SS K s I L A H locs → lv_has ls 6 [(0, .ref o0), (1, .int i1), (2, .int i2), (3, .long x3), (5, .int x5)] → W p (cxl K) e (headSpec wsX7_valueAt (rmF 0 0)).room s m ([.ref o0, .int i1, .int i2] : List Value).toArray below meth c H locs 0 0 (MQ below (cxQl K Q) ([.ref o0, .int i1, .int i2] : List Value).toArray s 0 0 (PA (cxb K))) (F0 m 6 ls []) := by
        intro I L A x3 x5 H locs ls hc hz hl
        rw [hCd] at hc
        obtain ⟨μ', hlt, hc⟩ := hc
        exact ih μ' hlt I L A x3 x5 H locs ls hc hz hl
      have hwp := hst μ C6 (fun μ' I L A x3 x5 hlt hc => by rw [hCd]; exact ⟨μ', hlt, hc⟩) I L A x3 x5 hi
      refine lv_iload hx hb dX7_valueAt_6 (lv_at hl 4 rfl) ?_
      refine lv_if_lt (tgt := 35) hx hb dX7_valueAt_8 (by decide) (fun q => ?_) (fun q => ?_)
      · have hwp := hwp.1 q
        refine lv_lload_n hx hb dX7_valueAt_35 rfl (lv_at hl 3 rfl) ?_
        exact sw_lret hx hb hret hlocks hz hwp dX7_valueAt_36
      · have hwp := hwp.2 q
        refine lv_lload_n hx hb dX7_valueAt_11 rfl (lv_at hl 3 rfl) ?_
        refine lv_iload_n hx hb dX7_valueAt_12 rfl (lv_at hl 2 rfl) ?_
        refine lv_i2l hx hb dX7_valueAt_13 rfl ?_
        refine lv_lmul hx hb dX7_valueAt_14 ?_
        refine lv_aload_n hx hb dX7_valueAt_15 rfl (lv_at hl 0 rfl) ?_
        obtain ⟨hs1, hwp⟩ := hwp
        refine sw_get (C := RX7) (T := TX7) (N := 25) (v := .ref (o0 + 1)) hx hb hts hw0 hown hK hz hs1 rfl 1 (by decide) hw1 (fun _ h9 => h9) rfl dX7_valueAt_16 ?_
        refine lv_bipush (v := 8) hx hb dX7_valueAt_19 (by decide) ?_
        refine lv_iload_n hx hb dX7_valueAt_21 rfl (lv_at hl 1 rfl) ?_
        refine lv_imul hx hb dX7_valueAt_22 ?_
        refine lv_iload hx hb dX7_valueAt_23 (lv_at hl 4 rfl) ?_
        refine lv_iadd hx hb dX7_valueAt_25 ?_
        obtain ⟨ho2, hwp⟩ := hwp
        refine sw_lald hx hb hK hz ho2 dX7_valueAt_26 ?_
        refine lv_ladd hx hb dX7_valueAt_27 ?_
        refine lv_topl (fun v3 q_v3 => ?_)
        have hwp := hwp v3 q_v3
        refine lv_lstore_n (lv' := [(3, .long v3), (0, .ref o0), (1, .int i1), (2, .int i2), (5, .int x5)]) hx hb dX7_valueAt_28 rfl hl (by decide) rfl (fun ls hl => ?_)
        obtain ⟨v4, q_v4⟩ : ∃ y : Int32, y = x5 + (-1) := ⟨_, rfl⟩
        have hwp := hwp v4 q_v4
        refine lv_iinc (v := v4) (lv' := [(5, .int v4), (3, .long v3), (0, .ref o0), (1, .int i1), (2, .int i2)]) hx hb dX7_valueAt_29 hl (k := 4) rfl (by rw [q_v4]; rfl) (by decide) rfl (fun ls hl => ?_)
        refine lv_goto (tgt := 6) hx hb dX7_valueAt_32 (by decide) ?_
        exact hC6 _ _ _ _ _ _ _ _ hwp hz (lv_sub hl [2, 3, 4, 1, 0] rfl)
    exact key μ I L A x3 x5 H locs ls hi hz hl
  refine lv_lconst (v := 0) hx hb dX7_valueAt_0 (by decide) ?_
  refine lv_lstore_n (lv' := [(3, .long 0), (0, .ref o0), (1, .int i1), (2, .int i2)]) hx hb dX7_valueAt_1 rfl hl (by decide) rfl (fun ls hl => ?_)
  refine lv_bipush (v := 7) hx hb dX7_valueAt_2 (by decide) ?_
  refine lv_istore (lv' := [(5, .int 7), (3, .long 0), (0, .ref o0), (1, .int i1), (2, .int i2)]) hx hb dX7_valueAt_4 hl (by decide) rfl (fun ls hl => ?_)
  exact wL6 _ _ _ _ _ _ _ _ hwp hz (lv_sub hl [2, 3, 4, 1, 0] rfl)

def wp_X7_prepare (K : Cx) (I : TI) (L : TL) (A : TA) (o0 : Nat) (i1 : Int32) (Q : TI → TL → TA → Prop) : Prop := cxS K o0 = shX7 o0 ∧ ∃ P2 : Int32 → TI → TL → TA → Prop, ConI K yX7_degreeOf wsX7_degreeOf 0 0 I L A [.ref o0, .int i1] P2 ∧ ∀ (r7 : Int32) (I4 : TI) (L5 : TL) (A6 : TA), P2 r7 I4 L5 A6 → aok (cxS K) (o0 + 1) 1 ((8 * i1) + r7) ∧ ∃ P9 : Int32 → TI → TL → TA → Prop, ConI K yX7_list wsX7_list 0 0 I4 L5 A6 [.ref o0, .long (L5 (o0 + 1) (ix ((8 * i1) + r7))), .int 0] P9 ∧ ∀ (r14 : Int32) (I11 : TI) (L12 : TL) (A13 : TA), P9 r14 I11 L12 A13 → ∀ I15 : TI, I15 = u2 I11 o0 17 r14 → aok (cxS K) (o0 + 1) 1 (8 * i1) ∧ ∃ P17 : Int32 → TI → TL → TA → Prop, ConI K yX7_list wsX7_list 0 0 I15 L12 A13 [.ref o0, .long (L12 (o0 + 1) (ix (8 * i1))), .int 100] P17 ∧ ∀ (r22 : Int32) (I19 : TI) (L20 : TL) (A21 : TA), P17 r22 I19 L20 A21 → ∀ I23 : TI, I23 = u2 I19 o0 14 r22 → ∃ P24 : Int64 → TI → TL → TA → Prop, ConL K yX7_valueAt wsX7_valueAt 0 0 I23 L20 A21 [.ref o0, .int i1, .int 1] P24 ∧ ∀ (r29 : Int64) (I26 : TI) (L27 : TL) (A28 : TA), P24 r29 I26 L27 A28 → ∃ P30 : Int32 → TI → TL → TA → Prop, ConI K yX7_list wsX7_list 0 0 I26 L27 A28 [.ref o0, .long r29, .int 200] P30 ∧ ∀ (r35 : Int32) (I32 : TI) (L33 : TL) (A34 : TA), P30 r35 I32 L33 A34 → ∀ I36 : TI, I36 = u2 I32 o0 15 r35 → ∃ P37 : Int64 → TI → TL → TA → Prop, ConL K yX7_valueAt wsX7_valueAt 0 0 I36 L33 A34 [.ref o0, .int i1, .int (-1)] P37 ∧ ∀ (r42 : Int64) (I39 : TI) (L40 : TL) (A41 : TA), P37 r42 I39 L40 A41 → ∃ P43 : Int32 → TI → TL → TA → Prop, ConI K yX7_list wsX7_list 0 0 I39 L40 A41 [.ref o0, .long r42, .int 400] P43 ∧ ∀ (r48 : Int32) (I45 : TI) (L46 : TL) (A47 : TA), P43 r48 I45 L46 A47 → ∀ I49 : TI, I49 = u2 I45 o0 16 r48 → Q I49 L46 A47
set_option maxHeartbeats 1000000 in
set_option maxRecDepth 100000 in
theorem w_X7_prepare (K : Cx) (I : TI) (L : TL) (A : TA) (o0 : Nat) (i1 : Int32) (Q : TI → TL → TA → Prop) (hwp : wp_X7_prepare K I L A o0 i1 Q) : ConV K yX7_prepare wsX7_prepare 1 28 I L A [.ref o0, .int i1] Q := by
  intro hK sz
  refine Met.ofW (cc := cX7_prepare) (maxL := 2) (ret := none) (by decide) rfl ?_
  intro p e s m args below meth c s₁ B hml hv
  obtain ⟨rfl, hsz, hB⟩ := hv
  have hx := B.exec
  have hb := B.bytes
  have hret := B.returns
  have hts := atoms_spec (ws := wsX7_prepare) B.pre
  have hown : s.vm.findClass RX7 = some m.cls := findClass_of_methodNamed B.named
  have hlocks := B.notSynchronized
  subst hsz
  have hz : SS K s I L A s.heap [] := PS.start hB
  have hl := lv_entry ([.ref o0, .int i1]) (n := 2) (Nat.le_of_ble_eq_true rfl)
  rw [lg_entry_eq]
  generalize (lg_sl ([.ref o0, .int i1]) ++ List.replicate (2 - (lg_sl ([.ref o0, .int i1])).length) Slot.unset).toArray = ls at hl ⊢
  have hl : lv_has ls 2 [(0, .ref o0), (1, .int i1)] := hl
  have hw0 : ∀ w ∈ u_ws RX7 TX7 25, w ∈ wsX7_prepare := by decide +kernel
  have hw1 := hts (.fieldLink RX7 7 "GaloisDeskModel" "row" "[J") (by decide +kernel)
  have hw2 := hts (.fieldLink RX7 93 "GaloisDeskModel" "leads" "I") (by decide +kernel)
  have hw3 := hts (.fieldLink RX7 96 "GaloisDeskModel" "lows" "I") (by decide +kernel)
  have hw4 := hts (.fieldLink RX7 110 "GaloisDeskModel" "ones" "I") (by decide +kernel)
  have hw5 := hts (.fieldLink RX7 113 "GaloisDeskModel" "minus" "I") (by decide +kernel)
  clear hB B
  refine lv_aload_n hx hb dX7_prepare_0 rfl (lv_at hl 0 rfl) ?_
  refine lv_aload_n hx hb dX7_prepare_1 rfl (lv_at hl 0 rfl) ?_
  refine lv_aload_n hx hb dX7_prepare_2 rfl (lv_at hl 0 rfl) ?_
  obtain ⟨hs1, hwp⟩ := hwp
  refine sw_get (C := RX7) (T := TX7) (N := 25) (v := .ref (o0 + 1)) hx hb hts hw0 hown hK hz hs1 rfl 1 (by decide) hw1 (fun _ h9 => h9) rfl dX7_prepare_3 ?_
  refine lv_bipush (v := 8) hx hb dX7_prepare_6 (by decide) ?_
  refine lv_iload_n hx hb dX7_prepare_8 rfl (lv_at hl 1 rfl) ?_
  refine lv_imul hx hb dX7_prepare_9 ?_
  refine lv_aload_n hx hb dX7_prepare_10 rfl (lv_at hl 0 rfl) ?_
  refine lv_iload_n hx hb dX7_prepare_11 rfl (lv_at hl 1 rfl) ?_
  obtain ⟨P2, hc3, hwp⟩ := hwp
  refine sw_calli hz (va_runV (As := [.int i1]) (rest := [.int (8 * i1), .ref (o0 + 1), .ref o0, .ref o0]) ⟨hx, hb, hml, hown, hts⟩ (hc3 hK _) (cwV 1 hts gX7_prepare_X7_degreeOf rfl rfl rfl (by decide +kernel) ⟨Nat.le_of_ble_eq_true rfl, Nat.le_of_ble_eq_true rfl⟩) (hz.preV hK hs1 rfl) rfl rfl hl.1 rfl (lv_room (Nat.le_of_ble_eq_true rfl)) dX7_prepare_12 ⟨Nat.le_of_ble_eq_true rfl, Nat.le_of_ble_eq_true rfl⟩) (fun r7 I4 L5 A6 H locs hp hz => ?_)
  have hwp := hwp r7 I4 L5 A6 hp
  refine lv_iadd hx hb dX7_prepare_15 ?_
  obtain ⟨ho8, hwp⟩ := hwp
  refine sw_lald hx hb hK hz ho8 dX7_prepare_16 ?_
  refine lv_iconst (v := 0) hx hb dX7_prepare_17 (by decide) ?_
  obtain ⟨P9, hc10, hwp⟩ := hwp
  refine sw_calli hz (va_runV (As := [.long (L5 (o0 + 1) (ix ((8 * i1) + r7))), .int 0]) (rest := [.ref o0]) ⟨hx, hb, hml, hown, hts⟩ (hc10 hK _) (cwV 2 hts gX7_prepare_X7_list rfl rfl rfl (by decide +kernel) ⟨Nat.le_of_ble_eq_true rfl, Nat.le_of_ble_eq_true rfl⟩) (hz.preV hK hs1 rfl) rfl rfl hl.1 rfl (lv_room (Nat.le_of_ble_eq_true rfl)) dX7_prepare_18 ⟨Nat.le_of_ble_eq_true rfl, Nat.le_of_ble_eq_true rfl⟩) (fun r14 I11 L12 A13 H locs hp hz => ?_)
  have hwp := hwp r14 I11 L12 A13 hp
  refine sw_putI (C := RX7) (T := TX7) (N := 25) hx hb hts hw0 tyX7 tyX7_ok nmX7 hown hK hz hs1 rfl 17 (by decide) hw2 (fun _ h9 => h9) rfl (by decide +kernel) rfl dX7_prepare_21 (fun H locs I15 e_I15 hz => ?_)
  have hwp := hwp I15 e_I15
  refine lv_aload_n hx hb dX7_prepare_24 rfl (lv_at hl 0 rfl) ?_
  refine lv_aload_n hx hb dX7_prepare_25 rfl (lv_at hl 0 rfl) ?_
  refine lv_aload_n hx hb dX7_prepare_26 rfl (lv_at hl 0 rfl) ?_
  refine sw_get (C := RX7) (T := TX7) (N := 25) (v := .ref (o0 + 1)) hx hb hts hw0 hown hK hz hs1 rfl 1 (by decide) hw1 (fun _ h9 => h9) rfl dX7_prepare_27 ?_
  refine lv_bipush (v := 8) hx hb dX7_prepare_30 (by decide) ?_
  refine lv_iload_n hx hb dX7_prepare_32 rfl (lv_at hl 1 rfl) ?_
  refine lv_imul hx hb dX7_prepare_33 ?_
  obtain ⟨ho16, hwp⟩ := hwp
  refine sw_lald hx hb hK hz ho16 dX7_prepare_34 ?_
  refine lv_bipush (v := 100) hx hb dX7_prepare_35 (by decide) ?_
  obtain ⟨P17, hc18, hwp⟩ := hwp
  refine sw_calli hz (va_runV (As := [.long (L12 (o0 + 1) (ix (8 * i1))), .int 100]) (rest := [.ref o0]) ⟨hx, hb, hml, hown, hts⟩ (hc18 hK _) (cwV 2 hts gX7_prepare_X7_list rfl rfl rfl (by decide +kernel) ⟨Nat.le_of_ble_eq_true rfl, Nat.le_of_ble_eq_true rfl⟩) (hz.preV hK hs1 rfl) rfl rfl hl.1 rfl (lv_room (Nat.le_of_ble_eq_true rfl)) dX7_prepare_37 ⟨Nat.le_of_ble_eq_true rfl, Nat.le_of_ble_eq_true rfl⟩) (fun r22 I19 L20 A21 H locs hp hz => ?_)
  have hwp := hwp r22 I19 L20 A21 hp
  refine sw_putI (C := RX7) (T := TX7) (N := 25) hx hb hts hw0 tyX7 tyX7_ok nmX7 hown hK hz hs1 rfl 14 (by decide) hw3 (fun _ h9 => h9) rfl (by decide +kernel) rfl dX7_prepare_40 (fun H locs I23 e_I23 hz => ?_)
  have hwp := hwp I23 e_I23
  refine lv_aload_n hx hb dX7_prepare_43 rfl (lv_at hl 0 rfl) ?_
  refine lv_aload_n hx hb dX7_prepare_44 rfl (lv_at hl 0 rfl) ?_
  refine lv_aload_n hx hb dX7_prepare_45 rfl (lv_at hl 0 rfl) ?_
  refine lv_iload_n hx hb dX7_prepare_46 rfl (lv_at hl 1 rfl) ?_
  refine lv_iconst (v := 1) hx hb dX7_prepare_47 (by decide) ?_
  obtain ⟨P24, hc25, hwp⟩ := hwp
  refine sw_calll hz (va_runV (As := [.int i1, .int 1]) (rest := [.ref o0, .ref o0]) ⟨hx, hb, hml, hown, hts⟩ (hc25 hK _) (cwV 2 hts gX7_prepare_X7_valueAt rfl rfl rfl (by decide +kernel) ⟨Nat.le_of_ble_eq_true rfl, Nat.le_of_ble_eq_true rfl⟩) (hz.preV hK hs1 rfl) rfl rfl hl.1 rfl (lv_room (Nat.le_of_ble_eq_true rfl)) dX7_prepare_48 ⟨Nat.le_of_ble_eq_true rfl, Nat.le_of_ble_eq_true rfl⟩) (fun r29 I26 L27 A28 H locs hp hz => ?_)
  have hwp := hwp r29 I26 L27 A28 hp
  refine lv_sipush (v := 200) hx hb dX7_prepare_51 (by decide) ?_
  obtain ⟨P30, hc31, hwp⟩ := hwp
  refine sw_calli hz (va_runV (As := [.long r29, .int 200]) (rest := [.ref o0]) ⟨hx, hb, hml, hown, hts⟩ (hc31 hK _) (cwV 2 hts gX7_prepare_X7_list rfl rfl rfl (by decide +kernel) ⟨Nat.le_of_ble_eq_true rfl, Nat.le_of_ble_eq_true rfl⟩) (hz.preV hK hs1 rfl) rfl rfl hl.1 rfl (lv_room (Nat.le_of_ble_eq_true rfl)) dX7_prepare_54 ⟨Nat.le_of_ble_eq_true rfl, Nat.le_of_ble_eq_true rfl⟩) (fun r35 I32 L33 A34 H locs hp hz => ?_)
  have hwp := hwp r35 I32 L33 A34 hp
  refine sw_putI (C := RX7) (T := TX7) (N := 25) hx hb hts hw0 tyX7 tyX7_ok nmX7 hown hK hz hs1 rfl 15 (by decide) hw4 (fun _ h9 => h9) rfl (by decide +kernel) rfl dX7_prepare_57 (fun H locs I36 e_I36 hz => ?_)
  have hwp := hwp I36 e_I36
  refine lv_aload_n hx hb dX7_prepare_60 rfl (lv_at hl 0 rfl) ?_
  refine lv_aload_n hx hb dX7_prepare_61 rfl (lv_at hl 0 rfl) ?_
  refine lv_aload_n hx hb dX7_prepare_62 rfl (lv_at hl 0 rfl) ?_
  refine lv_iload_n hx hb dX7_prepare_63 rfl (lv_at hl 1 rfl) ?_
  refine lv_iconst (v := (-1)) hx hb dX7_prepare_64 (by decide) ?_
  obtain ⟨P37, hc38, hwp⟩ := hwp
  refine sw_calll hz (va_runV (As := [.int i1, .int (-1)]) (rest := [.ref o0, .ref o0]) ⟨hx, hb, hml, hown, hts⟩ (hc38 hK _) (cwV 2 hts gX7_prepare_X7_valueAt rfl rfl rfl (by decide +kernel) ⟨Nat.le_of_ble_eq_true rfl, Nat.le_of_ble_eq_true rfl⟩) (hz.preV hK hs1 rfl) rfl rfl hl.1 rfl (lv_room (Nat.le_of_ble_eq_true rfl)) dX7_prepare_65 ⟨Nat.le_of_ble_eq_true rfl, Nat.le_of_ble_eq_true rfl⟩) (fun r42 I39 L40 A41 H locs hp hz => ?_)
  have hwp := hwp r42 I39 L40 A41 hp
  refine lv_sipush (v := 400) hx hb dX7_prepare_68 (by decide) ?_
  obtain ⟨P43, hc44, hwp⟩ := hwp
  refine sw_calli hz (va_runV (As := [.long r42, .int 400]) (rest := [.ref o0]) ⟨hx, hb, hml, hown, hts⟩ (hc44 hK _) (cwV 2 hts gX7_prepare_X7_list rfl rfl rfl (by decide +kernel) ⟨Nat.le_of_ble_eq_true rfl, Nat.le_of_ble_eq_true rfl⟩) (hz.preV hK hs1 rfl) rfl rfl hl.1 rfl (lv_room (Nat.le_of_ble_eq_true rfl)) dX7_prepare_71 ⟨Nat.le_of_ble_eq_true rfl, Nat.le_of_ble_eq_true rfl⟩) (fun r48 I45 L46 A47 H locs hp hz => ?_)
  have hwp := hwp r48 I45 L46 A47 hp
  refine sw_putI (C := RX7) (T := TX7) (N := 25) hx hb hts hw0 tyX7 tyX7_ok nmX7 hown hK hz hs1 rfl 16 (by decide) hw5 (fun _ h9 => h9) rfl (by decide +kernel) rfl dX7_prepare_74 (fun H locs I49 e_I49 hz => ?_)
  have hwp := hwp I49 e_I49
  exact sw_vret hx hb hret hlocks hz hwp dX7_prepare_77

def wp_X7_trySecond (K : Cx) (I : TI) (L : TL) (A : TA) (o0 : Nat) (i1 : Int32) (i2 : Int32) (i3 : Int32) (i4 : Int32) (Q : TI → TL → TA → Prop) : Prop := ∀ v1 : Int32, v1 = ((i4 - i2) - i3) → ∀ v2 : Int32, v2 = ((i2 - v1) + i3) → ((v2 = 0 → Q I L A) ∧ (¬ v2 = 0 → cxS K o0 = shX7 o0 ∧ ∃ P4 : Int64 → TI → TL → TA → Prop, ConL K yX7_valueAt wsX7_valueAt 0 0 I L A [.ref o0, .int i1, .int (-1)] P4 ∧ ∀ (r9 : Int64) (I6 : TI) (L7 : TL) (A8 : TA), P4 r9 I6 L7 A8 → ¬ (Int32.toInt64 v2) = 0 ∧ (((r9 - r9 / (Int32.toInt64 v2) * (Int32.toInt64 v2)) = 0 → ∃ P11 : TI → TL → TA → Prop, ConV K yX7_clear wsX7_clear 0 0 I6 L7 A8 [.ref o0, .int 10] P11 ∧ ∀ (I13 : TI) (L14 : TL) (A15 : TA), P11 I13 L14 A15 → aok (cxS K) (o0 + 1) 1 80 ∧ ∀ L17 : TL, L17 = u2 L14 (o0 + 1) (ix 80) (Int32.toInt64 i3) → aok (cxS K) (o0 + 1) 1 81 ∧ ∀ L19 : TL, L19 = u2 L17 (o0 + 1) (ix 81) (Int32.toInt64 v1) → aok (cxS K) (o0 + 1) 1 82 ∧ ∀ L21 : TL, L21 = u2 L19 (o0 + 1) (ix 82) (Int32.toInt64 i2) → ∃ P22 : Int64 → TI → TL → TA → Prop, ConL K yX7_gcd wsX7_gcd 0 0 I13 L21 A15 [.long (Int32.toInt64 i2), .long (Int32.toInt64 v1)] P22 ∧ ∀ (r27 : Int64) (I24 : TI) (L25 : TL) (A26 : TA), P22 r27 I24 L25 A26 → ∃ P28 : Int64 → TI → TL → TA → Prop, ConL K yX7_gcd wsX7_gcd 0 0 I24 L25 A26 [.long r27, .long (Int32.toInt64 i3)] P28 ∧ ∀ (r33 : Int64) (I30 : TI) (L31 : TL) (A32 : TA), P28 r33 I30 L31 A32 → ((r33 = 1 → ∃ P34 : TI → TL → TA → Prop, ConV K yX7_takeOut wsX7_takeOut 3 74 I30 L31 A32 [.ref o0, .int i1] P34 ∧ ∀ (I36 : TI) (L37 : TL) (A38 : TA), P34 I36 L37 A38 → Q I36 L37 A38) ∧ (¬ r33 = 1 → Q I30 L31 A32))) ∧ (¬ (r9 - r9 / (Int32.toInt64 v2) * (Int32.toInt64 v2)) = 0 → Q I6 L7 A8))))
set_option maxHeartbeats 1000000 in
set_option maxRecDepth 100000 in
theorem w_X7_trySecond (K : Cx) (I : TI) (L : TL) (A : TA) (o0 : Nat) (i1 : Int32) (i2 : Int32) (i3 : Int32) (i4 : Int32) (Q : TI → TL → TA → Prop) (hwp : wp_X7_trySecond K I L A o0 i1 i2 i3 i4 Q) : ConV K yX7_trySecond wsX7_trySecond 4 96 I L A [.ref o0, .int i1, .int i2, .int i3, .int i4] Q := by
  intro hK sz
  refine Met.ofW (cc := cX7_trySecond) (maxL := 7) (ret := none) (by decide) rfl ?_
  intro p e s m args below meth c s₁ B hml hv
  obtain ⟨rfl, hsz, hB⟩ := hv
  have hx := B.exec
  have hb := B.bytes
  have hret := B.returns
  have hts := atoms_spec (ws := wsX7_trySecond) B.pre
  have hown : s.vm.findClass RX7 = some m.cls := findClass_of_methodNamed B.named
  have hlocks := B.notSynchronized
  subst hsz
  have hz : SS K s I L A s.heap [] := PS.start hB
  have hl := lv_entry ([.ref o0, .int i1, .int i2, .int i3, .int i4]) (n := 7) (Nat.le_of_ble_eq_true rfl)
  rw [lg_entry_eq]
  generalize (lg_sl ([.ref o0, .int i1, .int i2, .int i3, .int i4]) ++ List.replicate (7 - (lg_sl ([.ref o0, .int i1, .int i2, .int i3, .int i4])).length) Slot.unset).toArray = ls at hl ⊢
  have hl : lv_has ls 7 [(0, .ref o0), (1, .int i1), (2, .int i2), (3, .int i3), (4, .int i4)] := hl
  have hw0 : ∀ w ∈ u_ws RX7 TX7 25, w ∈ wsX7_trySecond := by decide +kernel
  have hw1 := hts (.fieldLink RX7 7 "GaloisDeskModel" "row" "[J") (by decide +kernel)
  clear hB B
  refine lv_iload hx hb dX7_trySecond_0 (lv_at hl 4 rfl) ?_
  refine lv_iload_n hx hb dX7_trySecond_2 rfl (lv_at hl 2 rfl) ?_
  refine lv_isub hx hb dX7_trySecond_3 ?_
  refine lv_iload_n hx hb dX7_trySecond_4 rfl (lv_at hl 3 rfl) ?_
  refine lv_isub hx hb dX7_trySecond_5 ?_
  refine lv_topi (fun v1 q_v1 => ?_)
  have hwp := hwp v1 q_v1
  refine lv_istore (lv' := [(5, .int v1), (0, .ref o0), (1, .int i1), (2, .int i2), (3, .int i3), (4, .int i4)]) hx hb dX7_trySecond_6 hl (by decide) rfl (fun ls hl => ?_)
  refine lv_iload_n hx hb dX7_trySecond_8 rfl (lv_at hl 3 rfl) ?_
  refine lv_iload hx hb dX7_trySecond_9 (lv_at hl 0 rfl) ?_
  refine lv_isub hx hb dX7_trySecond_11 ?_
  refine lv_iload_n hx hb dX7_trySecond_12 rfl (lv_at hl 4 rfl) ?_
  refine lv_iadd hx hb dX7_trySecond_13 ?_
  refine lv_topi (fun v2 q_v2 => ?_)
  have hwp := hwp v2 q_v2
  refine lv_istore (lv' := [(6, .int v2), (5, .int v1), (0, .ref o0), (1, .int i1), (2, .int i2), (3, .int i3), (4, .int i4)]) hx hb dX7_trySecond_14 hl (by decide) rfl (fun ls hl => ?_)
  refine lv_iload hx hb dX7_trySecond_16 (lv_at hl 0 rfl) ?_
  refine lv_if_eq (tgt := 36) hx hb dX7_trySecond_18 (by decide) (fun q => ?_) (fun q => ?_)
  · have hwp := hwp.1 q
    exact sw_vret hx hb hret hlocks hz hwp dX7_trySecond_36
  · have hwp := hwp.2 q
    refine lv_aload_n hx hb dX7_trySecond_21 rfl (lv_at hl 2 rfl) ?_
    refine lv_iload_n hx hb dX7_trySecond_22 rfl (lv_at hl 3 rfl) ?_
    refine lv_iconst (v := (-1)) hx hb dX7_trySecond_23 (by decide) ?_
    obtain ⟨hs3, hwp⟩ := hwp
    obtain ⟨P4, hc5, hwp⟩ := hwp
    refine sw_calll hz (va_runV (As := [.int i1, .int (-1)]) (rest := []) ⟨hx, hb, hml, hown, hts⟩ (hc5 hK _) (cwV 2 hts gX7_trySecond_X7_valueAt rfl rfl rfl (by decide +kernel) ⟨Nat.le_of_ble_eq_true rfl, Nat.le_of_ble_eq_true rfl⟩) (hz.preV hK hs3 rfl) rfl rfl hl.1 rfl (lv_room (Nat.le_of_ble_eq_true rfl)) dX7_trySecond_24 ⟨Nat.le_of_ble_eq_true rfl, Nat.le_of_ble_eq_true rfl⟩) (fun r9 I6 L7 A8 H locs hp hz => ?_)
    have hwp := hwp r9 I6 L7 A8 hp
    refine lv_iload hx hb dX7_trySecond_27 (lv_at hl 0 rfl) ?_
    refine lv_i2l hx hb dX7_trySecond_29 rfl ?_
    obtain ⟨hn10, hwp⟩ := hwp
    refine lv_lrem hx hb dX7_trySecond_30 hn10 ?_
    refine lv_lconst (v := 0) hx hb dX7_trySecond_31 (by decide) ?_
    refine W.lcmp hx hb dX7_trySecond_32 ?_
    refine W.eq (g2 := F0 m 33 ls [.int (lg_cmp (r9 - r9 / (Int32.toInt64 v2) * (Int32.toInt64 v2)) 0)]) rfl ?_
    refine lv_if_eq (tgt := 37) hx hb dX7_trySecond_33 (by decide) (fun q => ?_) (fun q => ?_)
    · have hwp := hwp.1 ((lg_cmp_eq _ _).mp q)
      refine lv_aload_n hx hb dX7_trySecond_37 rfl (lv_at hl 2 rfl) ?_
      refine lv_bipush (v := 10) hx hb dX7_trySecond_38 (by decide) ?_
      obtain ⟨P11, hc12, hwp⟩ := hwp
      refine sw_callv hz (va_runV (As := [.int 10]) (rest := []) ⟨hx, hb, hml, hown, hts⟩ (hc12 hK _) (cwV 1 hts gX7_trySecond_X7_clear rfl rfl rfl (by decide +kernel) ⟨Nat.le_of_ble_eq_true rfl, Nat.le_of_ble_eq_true rfl⟩) (hz.preV hK hs3 rfl) rfl rfl hl.1 rfl (lv_room (Nat.le_of_ble_eq_true rfl)) dX7_trySecond_40 ⟨Nat.le_of_ble_eq_true rfl, Nat.le_of_ble_eq_true rfl⟩) (fun I13 L14 A15 H locs hp hz => ?_)
      have hwp := hwp I13 L14 A15 hp
      refine lv_aload_n hx hb dX7_trySecond_43 rfl (lv_at hl 2 rfl) ?_
      refine sw_get (C := RX7) (T := TX7) (N := 25) (v := .ref (o0 + 1)) hx hb hts hw0 hown hK hz hs3 rfl 1 (by decide) hw1 (fun _ h9 => h9) rfl dX7_trySecond_44 ?_
      refine lv_bipush (v := 80) hx hb dX7_trySecond_47 (by decide) ?_
      refine lv_iload_n hx hb dX7_trySecond_49 rfl (lv_at hl 5 rfl) ?_
      refine lv_i2l hx hb dX7_trySecond_50 rfl ?_
      obtain ⟨ho16, hwp⟩ := hwp
      refine sw_last hx hb hK hz ho16 dX7_trySecond_51 (fun H locs L17 e_L17 hz => ?_)
      have hwp := hwp L17 e_L17
      refine lv_aload_n hx hb dX7_trySecond_52 rfl (lv_at hl 2 rfl) ?_
      refine sw_get (C := RX7) (T := TX7) (N := 25) (v := .ref (o0 + 1)) hx hb hts hw0 hown hK hz hs3 rfl 1 (by decide) hw1 (fun _ h9 => h9) rfl dX7_trySecond_53 ?_
      refine lv_bipush (v := 81) hx hb dX7_trySecond_56 (by decide) ?_
      refine lv_iload hx hb dX7_trySecond_58 (lv_at hl 1 rfl) ?_
      refine lv_i2l hx hb dX7_trySecond_60 rfl ?_
      obtain ⟨ho18, hwp⟩ := hwp
      refine sw_last hx hb hK hz ho18 dX7_trySecond_61 (fun H locs L19 e_L19 hz => ?_)
      have hwp := hwp L19 e_L19
      refine lv_aload_n hx hb dX7_trySecond_62 rfl (lv_at hl 2 rfl) ?_
      refine sw_get (C := RX7) (T := TX7) (N := 25) (v := .ref (o0 + 1)) hx hb hts hw0 hown hK hz hs3 rfl 1 (by decide) hw1 (fun _ h9 => h9) rfl dX7_trySecond_63 ?_
      refine lv_bipush (v := 82) hx hb dX7_trySecond_66 (by decide) ?_
      refine lv_iload_n hx hb dX7_trySecond_68 rfl (lv_at hl 4 rfl) ?_
      refine lv_i2l hx hb dX7_trySecond_69 rfl ?_
      obtain ⟨ho20, hwp⟩ := hwp
      refine sw_last hx hb hK hz ho20 dX7_trySecond_70 (fun H locs L21 e_L21 hz => ?_)
      have hwp := hwp L21 e_L21
      refine lv_iload_n hx hb dX7_trySecond_71 rfl (lv_at hl 4 rfl) ?_
      refine lv_i2l hx hb dX7_trySecond_72 rfl ?_
      refine lv_iload hx hb dX7_trySecond_73 (lv_at hl 1 rfl) ?_
      refine lv_i2l hx hb dX7_trySecond_75 rfl ?_
      obtain ⟨P22, hc23, hwp⟩ := hwp
      refine sw_calll hz (va_runS (As := [.long (Int32.toInt64 i2), .long (Int32.toInt64 v1)]) (rest := []) ⟨hx, hb, hml, hown, hts⟩ (hc23 hK _) (va_cwS 2 hts gX7_trySecond_X7_gcd rfl rfl rfl (by decide +kernel) ⟨Nat.le_of_ble_eq_true rfl, Nat.le_of_ble_eq_true rfl⟩) hz.preS rfl rfl hl.1 rfl (lv_room (Nat.le_of_ble_eq_true rfl)) dX7_trySecond_76 ⟨Nat.le_of_ble_eq_true rfl, Nat.le_of_ble_eq_true rfl⟩) (fun r27 I24 L25 A26 H locs hp hz => ?_)
      have hwp := hwp r27 I24 L25 A26 hp
      refine lv_iload_n hx hb dX7_trySecond_79 rfl (lv_at hl 5 rfl) ?_
      refine lv_i2l hx hb dX7_trySecond_80 rfl ?_
      obtain ⟨P28, hc29, hwp⟩ := hwp
      refine sw_calll hz (va_runS (As := [.long r27, .long (Int32.toInt64 i3)]) (rest := []) ⟨hx, hb, hml, hown, hts⟩ (hc29 hK _) (va_cwS 2 hts gX7_trySecond_X7_gcd rfl rfl rfl (by decide +kernel) ⟨Nat.le_of_ble_eq_true rfl, Nat.le_of_ble_eq_true rfl⟩) hz.preS rfl rfl hl.1 rfl (lv_room (Nat.le_of_ble_eq_true rfl)) dX7_trySecond_81 ⟨Nat.le_of_ble_eq_true rfl, Nat.le_of_ble_eq_true rfl⟩) (fun r33 I30 L31 A32 H locs hp hz => ?_)
      have hwp := hwp r33 I30 L31 A32 hp
      refine lv_lconst (v := 1) hx hb dX7_trySecond_84 (by decide) ?_
      refine W.lcmp hx hb dX7_trySecond_85 ?_
      refine W.eq (g2 := F0 m 86 ls [.int (lg_cmp r33 1)]) rfl ?_
      refine lv_if_ne (tgt := 94) hx hb dX7_trySecond_86 (by decide) (fun q => ?_) (fun q => ?_)
      · have hwp := hwp.2 (fun h => q ((lg_cmp_eq _ _).mpr h))
        exact sw_vret hx hb hret hlocks hz hwp dX7_trySecond_94
      · have hwp := hwp.1 ((lg_cmp_eq _ _).mp q)
        refine lv_aload_n hx hb dX7_trySecond_89 rfl (lv_at hl 2 rfl) ?_
        refine lv_iload_n hx hb dX7_trySecond_90 rfl (lv_at hl 3 rfl) ?_
        obtain ⟨P34, hc35, hwp⟩ := hwp
        refine sw_callv hz (va_runV (As := [.int i1]) (rest := []) ⟨hx, hb, hml, hown, hts⟩ (hc35 hK _) (cwV 1 hts gX7_trySecond_X7_takeOut rfl rfl rfl (by decide +kernel) ⟨Nat.le_of_ble_eq_true rfl, Nat.le_of_ble_eq_true rfl⟩) (hz.preV hK hs3 rfl) rfl rfl hl.1 rfl (lv_room (Nat.le_of_ble_eq_true rfl)) dX7_trySecond_91 ⟨Nat.le_of_ble_eq_true rfl, Nat.le_of_ble_eq_true rfl⟩) (fun I36 L37 A38 H locs hp hz => ?_)
        have hwp := hwp I36 L37 A38 hp
        exact sw_vret hx hb hret hlocks hz hwp dX7_trySecond_94
    · have hwp := hwp.2 (fun h => q ((lg_cmp_eq _ _).mpr h))
      exact sw_vret hx hb hret hlocks hz hwp dX7_trySecond_36

def wp_X7_findSecond_40 (K : Cx) (o0 : Nat) (i1 : Int32) (C17 : TI → TL → TA → Int32 → Prop) (C27 : TI → TL → TA → Int32 → Int32 → Prop) (I : TI) (L : TL) (A : TA) (x2 : Int32) (x3 : Int32) (x4 : Int32) (Q : TI → TL → TA → Prop) : Prop := ∃ (Inv : Nat → TI → TL → TA → Int32 → Int32 → Int32 → Prop) (μ : Nat), Inv μ I L A x2 x3 x4 ∧ ∀ (μ : Nat) (C40 : TI → TL → TA → Int32 → Int32 → Int32 → Prop), (∀ (μ' : Nat) (I : TI) (L : TL) (A : TA) (x2 : Int32) (x3 : Int32) (x4 : Int32) , μ' < μ → Inv μ' I L A x2 x3 x4 → C40 I L A x2 x3 x4) → ∀ (I : TI) (L : TL) (A : TA) (x2 : Int32) (x3 : Int32) (x4 : Int32) , Inv μ I L A x2 x3 x4 → cxS K o0 = shX7 o0 ∧ (((2 * (I o0 15)) ≤ x4 → ∀ v2 : Int32, v2 = x3 + 1 → C27 I L A x2 v2) ∧ (¬ (2 * (I o0 15)) ≤ x4 → ∃ P3 : Int32 → TI → TL → TA → Prop, ConI K yX7_degreeOf wsX7_degreeOf 0 0 I L A [.ref o0, .int i1] P3 ∧ ∀ (r8 : Int32) (I5 : TI) (L6 : TL) (A7 : TA), P3 r8 I5 L6 A7 → ((r8 < 4 → ∀ v9 : Int32, v9 = x3 + 1 → C27 I5 L6 A7 x2 v9) ∧ (¬ r8 < 4 → aok (cxS K) (o0 + 7) 0 x2 ∧ aok (cxS K) (o0 + 7) 0 (100 + (x3 / 2)) ∧ ∃ P12 : Int32 → TI → TL → TA → Prop, ConI K yX7_signed wsX7_signed 0 0 I5 L6 A7 [.int (I5 (o0 + 7) (ix (100 + (x3 / 2)))), .int x3] P12 ∧ ∀ (r17 : Int32) (I14 : TI) (L15 : TL) (A16 : TA), P12 r17 I14 L15 A16 → aok (cxS K) (o0 + 7) 0 (200 + (x4 / 2)) ∧ ∃ P19 : Int32 → TI → TL → TA → Prop, ConI K yX7_signed wsX7_signed 0 0 I14 L15 A16 [.int (I14 (o0 + 7) (ix (200 + (x4 / 2)))), .int x4] P19 ∧ ∀ (r24 : Int32) (I21 : TI) (L22 : TL) (A23 : TA), P19 r24 I21 L22 A23 → ∃ P25 : TI → TL → TA → Prop, ConV K yX7_trySecond wsX7_trySecond 4 96 I21 L22 A23 [.ref o0, .int i1, .int (I5 (o0 + 7) (ix x2)), .int r17, .int r24] P25 ∧ ∀ (I27 : TI) (L28 : TL) (A29 : TA), P25 I27 L28 A29 → ∀ v30 : Int32, v30 = x4 + 1 → C40 I27 L28 A29 x2 x3 v30))))
def wp_X7_findSecond_27 (K : Cx) (o0 : Nat) (i1 : Int32) (C17 : TI → TL → TA → Int32 → Prop) (I : TI) (L : TL) (A : TA) (x2 : Int32) (x3 : Int32) (Q : TI → TL → TA → Prop) : Prop := ∃ (Inv : Nat → TI → TL → TA → Int32 → Int32 → Prop) (μ : Nat), Inv μ I L A x2 x3 ∧ ∀ (μ : Nat) (C27 : TI → TL → TA → Int32 → Int32 → Prop), (∀ (μ' : Nat) (I : TI) (L : TL) (A : TA) (x2 : Int32) (x3 : Int32) , μ' < μ → Inv μ' I L A x2 x3 → C27 I L A x2 x3) → ∀ (I : TI) (L : TL) (A : TA) (x2 : Int32) (x3 : Int32) , Inv μ I L A x2 x3 → cxS K o0 = shX7 o0 ∧ (((2 * (I o0 14)) ≤ x3 → ∀ v32 : Int32, v32 = x2 + 1 → C17 I L A v32) ∧ (¬ (2 * (I o0 14)) ≤ x3 → wp_X7_findSecond_40 K o0 i1 C17 C27 I L A x2 x3 0 Q))
def wp_X7_findSecond_17 (K : Cx) (o0 : Nat) (i1 : Int32) (I : TI) (L : TL) (A : TA) (x2 : Int32) (Q : TI → TL → TA → Prop) : Prop := ∃ (Inv : Nat → TI → TL → TA → Int32 → Prop) (μ : Nat), Inv μ I L A x2 ∧ ∀ (μ : Nat) (C17 : TI → TL → TA → Int32 → Prop), (∀ (μ' : Nat) (I : TI) (L : TL) (A : TA) (x2 : Int32) , μ' < μ → Inv μ' I L A x2 → C17 I L A x2) → ∀ (I : TI) (L : TL) (A : TA) (x2 : Int32) , Inv μ I L A x2 → cxS K o0 = shX7 o0 ∧ (((I o0 17) ≤ x2 → Q I L A) ∧ (¬ (I o0 17) ≤ x2 → wp_X7_findSecond_27 K o0 i1 C17 I L A x2 0 Q))
def wp_X7_findSecond (K : Cx) (I : TI) (L : TL) (A : TA) (o0 : Nat) (i1 : Int32) (Q : TI → TL → TA → Prop) : Prop := cxS K o0 = shX7 o0 ∧ ∃ P35 : Int32 → TI → TL → TA → Prop, ConI K yX7_degreeOf wsX7_degreeOf 0 0 I L A [.ref o0, .int i1] P35 ∧ ∀ (r40 : Int32) (I37 : TI) (L38 : TL) (A39 : TA), P35 r40 I37 L38 A39 → ((4 ≤ r40 → ∃ P41 : TI → TL → TA → Prop, ConV K yX7_prepare wsX7_prepare 1 28 I37 L38 A39 [.ref o0, .int i1] P41 ∧ ∀ (I43 : TI) (L44 : TL) (A45 : TA), P41 I43 L44 A45 → wp_X7_findSecond_17 K o0 i1 I43 L44 A45 0 Q) ∧ (¬ 4 ≤ r40 → Q I37 L38 A39))
set_option maxHeartbeats 1000000 in
set_option maxRecDepth 100000 in
theorem w_X7_findSecond (K : Cx) (I : TI) (L : TL) (A : TA) (o0 : Nat) (i1 : Int32) (Q : TI → TL → TA → Prop) (hwp : wp_X7_findSecond K I L A o0 i1 Q) : ConV K yX7_findSecond wsX7_findSecond 5 122 I L A [.ref o0, .int i1] Q := by
  intro hK sz
  refine Met.ofW (cc := cX7_findSecond) (maxL := 5) (ret := none) (by decide) rfl ?_
  intro p e s m args below meth c s₁ B hml hv
  obtain ⟨rfl, hsz, hB⟩ := hv
  have hx := B.exec
  have hb := B.bytes
  have hret := B.returns
  have hts := atoms_spec (ws := wsX7_findSecond) B.pre
  have hown : s.vm.findClass RX7 = some m.cls := findClass_of_methodNamed B.named
  have hlocks := B.notSynchronized
  subst hsz
  have hz : SS K s I L A s.heap [] := PS.start hB
  have hl := lv_entry ([.ref o0, .int i1]) (n := 5) (Nat.le_of_ble_eq_true rfl)
  rw [lg_entry_eq]
  generalize (lg_sl ([.ref o0, .int i1]) ++ List.replicate (5 - (lg_sl ([.ref o0, .int i1])).length) Slot.unset).toArray = ls at hl ⊢
  have hl : lv_has ls 5 [(0, .ref o0), (1, .int i1)] := hl
  have hw0 : ∀ w ∈ u_ws RX7 TX7 25, w ∈ wsX7_findSecond := by decide +kernel
  have hw1 := hts (.fieldLink RX7 110 "GaloisDeskModel" "ones" "I") (by decide +kernel)
  have hw2 := hts (.fieldLink RX7 29 "GaloisDeskModel" "divisors" "[I") (by decide +kernel)
  have hw3 := hts (.fieldLink RX7 96 "GaloisDeskModel" "lows" "I") (by decide +kernel)
  have hw4 := hts (.fieldLink RX7 93 "GaloisDeskModel" "leads" "I") (by decide +kernel)
  clear hB B
  have wL40 : ∀ (C17 : TI → TL → TA → Int32 → Prop) (C27 : TI → TL → TA → Int32 → Int32 → Prop) (hC17 : ∀ (I : TI) (L : TL) (A : TA) (x2 : Int32) (H : Heap) (locs : List Loc) (ls : Array Slot), C17 I L A x2 → SS K s I L A H locs → lv_has ls 5 [(0, .ref o0), (1, .int i1), (2, .int x2)] → W p (cxl K) e (headSpec wsX7_findSecond (rmF 5 122)).room s m ([.ref o0, .int i1] : List Value).toArray below meth c H locs 0 0 (MQ below (cxQv K Q) ([.ref o0, .int i1] : List Value).toArray s 0 0 (PA (cxb K))) (F0 m 17 ls [])) (hC27 : ∀ (I : TI) (L : TL) (A : TA) (x2 : Int32) (x3 : Int32) (H : Heap) (locs : List Loc) (ls : Array Slot), C27 I L A x2 x3 → SS K s I L A H locs → lv_has ls 5 [(0, .ref o0), (1, .int i1), (2, .int x2), (3, .int x3)] → W p (cxl K) e (headSpec wsX7_findSecond (rmF 5 122)).room s m ([.ref o0, .int i1] : List Value).toArray below meth c H locs 0 0 (MQ below (cxQv K Q) ([.ref o0, .int i1] : List Value).toArray s 0 0 (PA (cxb K))) (F0 m 27 ls [])) (I : TI) (L : TL) (A : TA) (x2 : Int32) (x3 : Int32) (x4 : Int32) (H : Heap) (locs : List Loc) (ls : Array Slot), wp_X7_findSecond_40 K o0 i1 C17 C27 I L A x2 x3 x4 Q → SS K s I L A H locs → lv_has ls 5 [(0, .ref o0), (1, .int i1), (2, .int x2), (3, .int x3), (4, .int x4)] → W p (cxl K) e (headSpec wsX7_findSecond (rmF 5 122)).room s m ([.ref o0, .int i1] : List Value).toArray below meth c H locs 0 0 (MQ below (cxQv K Q) ([.ref o0, .int i1] : List Value).toArray s 0 0 (PA (cxb K))) (F0 m 40 ls []) := by
    intro C17 C27 hC17 hC27 I L A x2 x3 x4 H locs ls hwp hz hl
    obtain ⟨Inv, μ, hi, hst⟩ := hwp
    have key : ∀ (μ : Nat) (I : TI) (L : TL) (A : TA) (x2 : Int32) (x3 : Int32) (x4 : Int32) (H : Heap) (locs : List Loc) (ls : Array Slot), Inv μ I L A x2 x3 x4 → SS K s I L A H locs → lv_has ls 5 [(0, .ref o0), (1, .int i1), (2, .int x2), (3, .int x3), (4, .int x4)] → W p (cxl K) e (headSpec wsX7_findSecond (rmF 5 122)).room s m ([.ref o0, .int i1] : List Value).toArray below meth c H locs 0 0 (MQ below (cxQv K Q) ([.ref o0, .int i1] : List Value).toArray s 0 0 (PA (cxb K))) (F0 m 40 ls []) := by
      clear hi hz hl
      intro μ
      induction μ using Nat.strongRecOn with | ind μ ih => ?_
      intro I L A x2 x3 x4 H locs ls hi hz hl
      obtain ⟨C40, hCd⟩ : ∃ C : TI → TL → TA → Int32 → Int32 → Int32 → Prop, C = fun I L A x2 x3 x4 => ∃ μ', μ' < μ ∧ Inv μ' I L A x2 x3 x4 := ⟨_, rfl⟩
      have hC40 : ∀ (I : TI) (L : TL) (A : TA) (x2 : Int32) (x3 : Int32) (x4 : Int32) (H : Heap) (locs : List Loc) (ls : Array Slot), C40 I L A x2 x3 x4 → SS K s I L A H locs → lv_has ls 5 [(0, .ref o0), (1, .int i1), (2, .int x2), (3, .int x3), (4, .int x4)] → W p (cxl K) e (headSpec wsX7_findSecond (rmF 5 122)).room s m ([.ref o0, .int i1] : List Value).toArray below meth c H locs 0 0 (MQ below (cxQv K Q) ([.ref o0, .int i1] : List Value).toArray s 0 0 (PA (cxb K))) (F0 m 40 ls []) := by
        intro I L A x2 x3 x4 H locs ls hc hz hl
        rw [hCd] at hc
        obtain ⟨μ', hlt, hc⟩ := hc
        exact ih μ' hlt I L A x2 x3 x4 H locs ls hc hz hl
      have hwp := hst μ C40 (fun μ' I L A x2 x3 x4 hlt hc => by rw [hCd]; exact ⟨μ', hlt, hc⟩) I L A x2 x3 x4 hi
      refine lv_iload hx hb dX7_findSecond_40 (lv_at hl 4 rfl) ?_
      refine lv_iconst (v := 2) hx hb dX7_findSecond_42 (by decide) ?_
      refine lv_aload_n hx hb dX7_findSecond_43 rfl (lv_at hl 0 rfl) ?_
      obtain ⟨hs1, hwp⟩ := hwp
      refine sw_get (C := RX7) (T := TX7) (N := 25) (v := .int (I o0 15)) hx hb hts hw0 hown hK hz hs1 rfl 15 (by decide) hw1 (fun _ h9 => h9) rfl dX7_findSecond_44 ?_
      refine lv_imul hx hb dX7_findSecond_47 ?_
      refine lv_icmp_ge (tgt := 110) hx hb dX7_findSecond_48 (by decide) (fun q => ?_) (fun q => ?_)
      · have hwp := hwp.1 q
        obtain ⟨v2, q_v2⟩ : ∃ y : Int32, y = x3 + 1 := ⟨_, rfl⟩
        have hwp := hwp v2 q_v2
        refine lv_iinc (v := v2) (lv' := [(3, .int v2), (0, .ref o0), (1, .int i1), (2, .int x2), (4, .int x4)]) hx hb dX7_findSecond_110 hl (k := 3) rfl (by rw [q_v2]; rfl) (by decide) rfl (fun ls hl => ?_)
        refine lv_goto (tgt := 27) hx hb dX7_findSecond_113 (by decide) ?_
        exact hC27 _ _ _ _ _ _ _ _ hwp hz (lv_sub hl [1, 2, 3, 0] rfl)
      · have hwp := hwp.2 q
        refine lv_aload_n hx hb dX7_findSecond_51 rfl (lv_at hl 0 rfl) ?_
        refine lv_iload_n hx hb dX7_findSecond_52 rfl (lv_at hl 1 rfl) ?_
        obtain ⟨P3, hc4, hwp⟩ := hwp
        refine sw_calli hz (va_runV (As := [.int i1]) (rest := []) ⟨hx, hb, hml, hown, hts⟩ (hc4 hK _) (cwV 1 hts gX7_findSecond_X7_degreeOf rfl rfl rfl (by decide +kernel) ⟨Nat.le_of_ble_eq_true rfl, Nat.le_of_ble_eq_true rfl⟩) (hz.preV hK hs1 rfl) rfl rfl hl.1 rfl (lv_room (Nat.le_of_ble_eq_true rfl)) dX7_findSecond_53 ⟨Nat.le_of_ble_eq_true rfl, Nat.le_of_ble_eq_true rfl⟩) (fun r8 I5 L6 A7 H locs hp hz => ?_)
        have hwp := hwp r8 I5 L6 A7 hp
        refine lv_iconst (v := 4) hx hb dX7_findSecond_56 (by decide) ?_
        refine lv_icmp_lt (tgt := 110) hx hb dX7_findSecond_57 (by decide) (fun q => ?_) (fun q => ?_)
        · have hwp := hwp.1 q
          obtain ⟨v9, q_v9⟩ : ∃ y : Int32, y = x3 + 1 := ⟨_, rfl⟩
          have hwp := hwp v9 q_v9
          refine lv_iinc (v := v9) (lv' := [(3, .int v9), (0, .ref o0), (1, .int i1), (2, .int x2), (4, .int x4)]) hx hb dX7_findSecond_110 hl (k := 3) rfl (by rw [q_v9]; rfl) (by decide) rfl (fun ls hl => ?_)
          refine lv_goto (tgt := 27) hx hb dX7_findSecond_113 (by decide) ?_
          exact hC27 _ _ _ _ _ _ _ _ hwp hz (lv_sub hl [1, 2, 3, 0] rfl)
        · have hwp := hwp.2 q
          refine lv_aload_n hx hb dX7_findSecond_60 rfl (lv_at hl 0 rfl) ?_
          refine lv_iload_n hx hb dX7_findSecond_61 rfl (lv_at hl 1 rfl) ?_
          refine lv_aload_n hx hb dX7_findSecond_62 rfl (lv_at hl 0 rfl) ?_
          refine sw_get (C := RX7) (T := TX7) (N := 25) (v := .ref (o0 + 7)) hx hb hts hw0 hown hK hz hs1 rfl 13 (by decide) hw2 (fun _ h9 => h9) rfl dX7_findSecond_63 ?_
          refine lv_iload_n hx hb dX7_findSecond_66 rfl (lv_at hl 2 rfl) ?_
          obtain ⟨ho10, hwp⟩ := hwp
          refine sw_iald hx hb hK hz ho10 dX7_findSecond_67 ?_
          refine lv_aload_n hx hb dX7_findSecond_68 rfl (lv_at hl 0 rfl) ?_
          refine sw_get (C := RX7) (T := TX7) (N := 25) (v := .ref (o0 + 7)) hx hb hts hw0 hown hK hz hs1 rfl 13 (by decide) hw2 (fun _ h9 => h9) rfl dX7_findSecond_69 ?_
          refine lv_bipush (v := 100) hx hb dX7_findSecond_72 (by decide) ?_
          refine lv_iload_n hx hb dX7_findSecond_74 rfl (lv_at hl 3 rfl) ?_
          refine lv_iconst (v := 2) hx hb dX7_findSecond_75 (by decide) ?_
          refine lv_idiv hx hb dX7_findSecond_76 (by decide) ?_
          refine lv_iadd hx hb dX7_findSecond_77 ?_
          obtain ⟨ho11, hwp⟩ := hwp
          refine sw_iald hx hb hK hz ho11 dX7_findSecond_78 ?_
          refine lv_iload_n hx hb dX7_findSecond_79 rfl (lv_at hl 3 rfl) ?_
          obtain ⟨P12, hc13, hwp⟩ := hwp
          refine sw_calli hz (va_runS (As := [.int (I5 (o0 + 7) (ix (100 + (x3 / 2)))), .int x3]) (rest := [.int (I5 (o0 + 7) (ix x2)), .int i1, .ref o0]) ⟨hx, hb, hml, hown, hts⟩ (hc13 hK _) (va_cwS 2 hts gX7_findSecond_X7_signed rfl rfl rfl (by decide +kernel) ⟨Nat.le_of_ble_eq_true rfl, Nat.le_of_ble_eq_true rfl⟩) hz.preS rfl rfl hl.1 rfl (lv_room (Nat.le_of_ble_eq_true rfl)) dX7_findSecond_80 ⟨Nat.le_of_ble_eq_true rfl, Nat.le_of_ble_eq_true rfl⟩) (fun r17 I14 L15 A16 H locs hp hz => ?_)
          have hwp := hwp r17 I14 L15 A16 hp
          refine lv_aload_n hx hb dX7_findSecond_83 rfl (lv_at hl 0 rfl) ?_
          refine sw_get (C := RX7) (T := TX7) (N := 25) (v := .ref (o0 + 7)) hx hb hts hw0 hown hK hz hs1 rfl 13 (by decide) hw2 (fun _ h9 => h9) rfl dX7_findSecond_84 ?_
          refine lv_sipush (v := 200) hx hb dX7_findSecond_87 (by decide) ?_
          refine lv_iload hx hb dX7_findSecond_90 (lv_at hl 4 rfl) ?_
          refine lv_iconst (v := 2) hx hb dX7_findSecond_92 (by decide) ?_
          refine lv_idiv hx hb dX7_findSecond_93 (by decide) ?_
          refine lv_iadd hx hb dX7_findSecond_94 ?_
          obtain ⟨ho18, hwp⟩ := hwp
          refine sw_iald hx hb hK hz ho18 dX7_findSecond_95 ?_
          refine lv_iload hx hb dX7_findSecond_96 (lv_at hl 4 rfl) ?_
          obtain ⟨P19, hc20, hwp⟩ := hwp
          refine sw_calli hz (va_runS (As := [.int (I14 (o0 + 7) (ix (200 + (x4 / 2)))), .int x4]) (rest := [.int r17, .int (I5 (o0 + 7) (ix x2)), .int i1, .ref o0]) ⟨hx, hb, hml, hown, hts⟩ (hc20 hK _) (va_cwS 2 hts gX7_findSecond_X7_signed rfl rfl rfl (by decide +kernel) ⟨Nat.le_of_ble_eq_true rfl, Nat.le_of_ble_eq_true rfl⟩) hz.preS rfl rfl hl.1 rfl (lv_room (Nat.le_of_ble_eq_true rfl)) dX7_findSecond_98 ⟨Nat.le_of_ble_eq_true rfl, Nat.le_of_ble_eq_true rfl⟩) (fun r24 I21 L22 A23 H locs hp hz => ?_)
          have hwp := hwp r24 I21 L22 A23 hp
          obtain ⟨P25, hc26, hwp⟩ := hwp
          refine sw_callv hz (va_runV (As := [.int i1, .int (I5 (o0 + 7) (ix x2)), .int r17, .int r24]) (rest := []) ⟨hx, hb, hml, hown, hts⟩ (hc26 hK _) (cwV 4 hts gX7_findSecond_X7_trySecond rfl rfl rfl (by decide +kernel) ⟨Nat.le_of_ble_eq_true rfl, Nat.le_of_ble_eq_true rfl⟩) (hz.preV hK hs1 rfl) rfl rfl hl.1 rfl (lv_room (Nat.le_of_ble_eq_true rfl)) dX7_findSecond_101 ⟨Nat.le_of_ble_eq_true rfl, Nat.le_of_ble_eq_true rfl⟩) (fun I27 L28 A29 H locs hp hz => ?_)
          have hwp := hwp I27 L28 A29 hp
          obtain ⟨v30, q_v30⟩ : ∃ y : Int32, y = x4 + 1 := ⟨_, rfl⟩
          have hwp := hwp v30 q_v30
          refine lv_iinc (v := v30) (lv' := [(4, .int v30), (0, .ref o0), (1, .int i1), (2, .int x2), (3, .int x3)]) hx hb dX7_findSecond_104 hl (k := 4) rfl (by rw [q_v30]; rfl) (by decide) rfl (fun ls hl => ?_)
          refine lv_goto (tgt := 40) hx hb dX7_findSecond_107 (by decide) ?_
          exact hC40 _ _ _ _ _ _ _ _ _ hwp hz (lv_sub hl [1, 2, 3, 4, 0] rfl)
    exact key μ I L A x2 x3 x4 H locs ls hi hz hl
  have wL27 : ∀ (C17 : TI → TL → TA → Int32 → Prop) (hC17 : ∀ (I : TI) (L : TL) (A : TA) (x2 : Int32) (H : Heap) (locs : List Loc) (ls : Array Slot), C17 I L A x2 → SS K s I L A H locs → lv_has ls 5 [(0, .ref o0), (1, .int i1), (2, .int x2)] → W p (cxl K) e (headSpec wsX7_findSecond (rmF 5 122)).room s m ([.ref o0, .int i1] : List Value).toArray below meth c H locs 0 0 (MQ below (cxQv K Q) ([.ref o0, .int i1] : List Value).toArray s 0 0 (PA (cxb K))) (F0 m 17 ls [])) (I : TI) (L : TL) (A : TA) (x2 : Int32) (x3 : Int32) (H : Heap) (locs : List Loc) (ls : Array Slot), wp_X7_findSecond_27 K o0 i1 C17 I L A x2 x3 Q → SS K s I L A H locs → lv_has ls 5 [(0, .ref o0), (1, .int i1), (2, .int x2), (3, .int x3)] → W p (cxl K) e (headSpec wsX7_findSecond (rmF 5 122)).room s m ([.ref o0, .int i1] : List Value).toArray below meth c H locs 0 0 (MQ below (cxQv K Q) ([.ref o0, .int i1] : List Value).toArray s 0 0 (PA (cxb K))) (F0 m 27 ls []) := by
    intro C17 hC17 I L A x2 x3 H locs ls hwp hz hl
    obtain ⟨Inv, μ, hi, hst⟩ := hwp
    have key : ∀ (μ : Nat) (I : TI) (L : TL) (A : TA) (x2 : Int32) (x3 : Int32) (H : Heap) (locs : List Loc) (ls : Array Slot), Inv μ I L A x2 x3 → SS K s I L A H locs → lv_has ls 5 [(0, .ref o0), (1, .int i1), (2, .int x2), (3, .int x3)] → W p (cxl K) e (headSpec wsX7_findSecond (rmF 5 122)).room s m ([.ref o0, .int i1] : List Value).toArray below meth c H locs 0 0 (MQ below (cxQv K Q) ([.ref o0, .int i1] : List Value).toArray s 0 0 (PA (cxb K))) (F0 m 27 ls []) := by
      clear hi hz hl
      intro μ
      induction μ using Nat.strongRecOn with | ind μ ih => ?_
      intro I L A x2 x3 H locs ls hi hz hl
      obtain ⟨C27, hCd⟩ : ∃ C : TI → TL → TA → Int32 → Int32 → Prop, C = fun I L A x2 x3 => ∃ μ', μ' < μ ∧ Inv μ' I L A x2 x3 := ⟨_, rfl⟩
      have hC27 : ∀ (I : TI) (L : TL) (A : TA) (x2 : Int32) (x3 : Int32) (H : Heap) (locs : List Loc) (ls : Array Slot), C27 I L A x2 x3 → SS K s I L A H locs → lv_has ls 5 [(0, .ref o0), (1, .int i1), (2, .int x2), (3, .int x3)] → W p (cxl K) e (headSpec wsX7_findSecond (rmF 5 122)).room s m ([.ref o0, .int i1] : List Value).toArray below meth c H locs 0 0 (MQ below (cxQv K Q) ([.ref o0, .int i1] : List Value).toArray s 0 0 (PA (cxb K))) (F0 m 27 ls []) := by
        intro I L A x2 x3 H locs ls hc hz hl
        rw [hCd] at hc
        obtain ⟨μ', hlt, hc⟩ := hc
        exact ih μ' hlt I L A x2 x3 H locs ls hc hz hl
      have hwp := hst μ C27 (fun μ' I L A x2 x3 hlt hc => by rw [hCd]; exact ⟨μ', hlt, hc⟩) I L A x2 x3 hi
      refine lv_iload_n hx hb dX7_findSecond_27 rfl (lv_at hl 3 rfl) ?_
      refine lv_iconst (v := 2) hx hb dX7_findSecond_28 (by decide) ?_
      refine lv_aload_n hx hb dX7_findSecond_29 rfl (lv_at hl 0 rfl) ?_
      obtain ⟨hs31, hwp⟩ := hwp
      refine sw_get (C := RX7) (T := TX7) (N := 25) (v := .int (I o0 14)) hx hb hts hw0 hown hK hz hs31 rfl 14 (by decide) hw3 (fun _ h9 => h9) rfl dX7_findSecond_30 ?_
      refine lv_imul hx hb dX7_findSecond_33 ?_
      refine lv_icmp_ge (tgt := 116) hx hb dX7_findSecond_34 (by decide) (fun q => ?_) (fun q => ?_)
      · have hwp := hwp.1 q
        obtain ⟨v32, q_v32⟩ : ∃ y : Int32, y = x2 + 1 := ⟨_, rfl⟩
        have hwp := hwp v32 q_v32
        refine lv_iinc (v := v32) (lv' := [(2, .int v32), (0, .ref o0), (1, .int i1), (3, .int x3)]) hx hb dX7_findSecond_116 hl (k := 2) rfl (by rw [q_v32]; rfl) (by decide) rfl (fun ls hl => ?_)
        refine lv_goto (tgt := 17) hx hb dX7_findSecond_119 (by decide) ?_
        exact hC17 _ _ _ _ _ _ _ hwp hz (lv_sub hl [1, 2, 0] rfl)
      · have hwp := hwp.2 q
        refine lv_iconst (v := 0) hx hb dX7_findSecond_37 (by decide) ?_
        refine lv_istore (lv' := [(4, .int 0), (0, .ref o0), (1, .int i1), (2, .int x2), (3, .int x3)]) hx hb dX7_findSecond_38 hl (by decide) rfl (fun ls hl => ?_)
        exact wL40 _ _ hC17 hC27 _ _ _ _ _ _ _ _ _ hwp hz (lv_sub hl [1, 2, 3, 4, 0] rfl)
    exact key μ I L A x2 x3 H locs ls hi hz hl
  have wL17 : ∀ (I : TI) (L : TL) (A : TA) (x2 : Int32) (H : Heap) (locs : List Loc) (ls : Array Slot), wp_X7_findSecond_17 K o0 i1 I L A x2 Q → SS K s I L A H locs → lv_has ls 5 [(0, .ref o0), (1, .int i1), (2, .int x2)] → W p (cxl K) e (headSpec wsX7_findSecond (rmF 5 122)).room s m ([.ref o0, .int i1] : List Value).toArray below meth c H locs 0 0 (MQ below (cxQv K Q) ([.ref o0, .int i1] : List Value).toArray s 0 0 (PA (cxb K))) (F0 m 17 ls []) := by
    intro I L A x2 H locs ls hwp hz hl
    obtain ⟨Inv, μ, hi, hst⟩ := hwp
    have key : ∀ (μ : Nat) (I : TI) (L : TL) (A : TA) (x2 : Int32) (H : Heap) (locs : List Loc) (ls : Array Slot), Inv μ I L A x2 → SS K s I L A H locs → lv_has ls 5 [(0, .ref o0), (1, .int i1), (2, .int x2)] → W p (cxl K) e (headSpec wsX7_findSecond (rmF 5 122)).room s m ([.ref o0, .int i1] : List Value).toArray below meth c H locs 0 0 (MQ below (cxQv K Q) ([.ref o0, .int i1] : List Value).toArray s 0 0 (PA (cxb K))) (F0 m 17 ls []) := by
      clear hi hz hl
      intro μ
      induction μ using Nat.strongRecOn with | ind μ ih => ?_
      intro I L A x2 H locs ls hi hz hl
      obtain ⟨C17, hCd⟩ : ∃ C : TI → TL → TA → Int32 → Prop, C = fun I L A x2 => ∃ μ', μ' < μ ∧ Inv μ' I L A x2 := ⟨_, rfl⟩
      have hC17 : ∀ (I : TI) (L : TL) (A : TA) (x2 : Int32) (H : Heap) (locs : List Loc) (ls : Array Slot), C17 I L A x2 → SS K s I L A H locs → lv_has ls 5 [(0, .ref o0), (1, .int i1), (2, .int x2)] → W p (cxl K) e (headSpec wsX7_findSecond (rmF 5 122)).room s m ([.ref o0, .int i1] : List Value).toArray below meth c H locs 0 0 (MQ below (cxQv K Q) ([.ref o0, .int i1] : List Value).toArray s 0 0 (PA (cxb K))) (F0 m 17 ls []) := by
        intro I L A x2 H locs ls hc hz hl
        rw [hCd] at hc
        obtain ⟨μ', hlt, hc⟩ := hc
        exact ih μ' hlt I L A x2 H locs ls hc hz hl
      have hwp := hst μ C17 (fun μ' I L A x2 hlt hc => by rw [hCd]; exact ⟨μ', hlt, hc⟩) I L A x2 hi
      refine lv_iload_n hx hb dX7_findSecond_17 rfl (lv_at hl 2 rfl) ?_
      refine lv_aload_n hx hb dX7_findSecond_18 rfl (lv_at hl 0 rfl) ?_
      obtain ⟨hs33, hwp⟩ := hwp
      refine sw_get (C := RX7) (T := TX7) (N := 25) (v := .int (I o0 17)) hx hb hts hw0 hown hK hz hs33 rfl 17 (by decide) hw4 (fun _ h9 => h9) rfl dX7_findSecond_19 ?_
      refine lv_icmp_ge (tgt := 122) hx hb dX7_findSecond_22 (by decide) (fun q => ?_) (fun q => ?_)
      · have hwp := hwp.1 q
        exact sw_vret hx hb hret hlocks hz hwp dX7_findSecond_122
      · have hwp := hwp.2 q
        refine lv_iconst (v := 0) hx hb dX7_findSecond_25 (by decide) ?_
        refine lv_istore_n (lv' := [(3, .int 0), (0, .ref o0), (1, .int i1), (2, .int x2)]) hx hb dX7_findSecond_26 rfl hl (by decide) rfl (fun ls hl => ?_)
        exact wL27 _ hC17 _ _ _ _ _ _ _ _ hwp hz (lv_sub hl [1, 2, 3, 0] rfl)
    exact key μ I L A x2 H locs ls hi hz hl
  refine lv_aload_n hx hb dX7_findSecond_0 rfl (lv_at hl 0 rfl) ?_
  refine lv_iload_n hx hb dX7_findSecond_1 rfl (lv_at hl 1 rfl) ?_
  obtain ⟨hs34, hwp⟩ := hwp
  obtain ⟨P35, hc36, hwp⟩ := hwp
  refine sw_calli hz (va_runV (As := [.int i1]) (rest := []) ⟨hx, hb, hml, hown, hts⟩ (hc36 hK _) (cwV 1 hts gX7_findSecond_X7_degreeOf rfl rfl rfl (by decide +kernel) ⟨Nat.le_of_ble_eq_true rfl, Nat.le_of_ble_eq_true rfl⟩) (hz.preV hK hs34 rfl) rfl rfl hl.1 rfl (lv_room (Nat.le_of_ble_eq_true rfl)) dX7_findSecond_2 ⟨Nat.le_of_ble_eq_true rfl, Nat.le_of_ble_eq_true rfl⟩) (fun r40 I37 L38 A39 H locs hp hz => ?_)
  have hwp := hwp r40 I37 L38 A39 hp
  refine lv_iconst (v := 4) hx hb dX7_findSecond_5 (by decide) ?_
  refine lv_icmp_ge (tgt := 10) hx hb dX7_findSecond_6 (by decide) (fun q => ?_) (fun q => ?_)
  · have hwp := hwp.1 q
    refine lv_aload_n hx hb dX7_findSecond_10 rfl (lv_at hl 0 rfl) ?_
    refine lv_iload_n hx hb dX7_findSecond_11 rfl (lv_at hl 1 rfl) ?_
    obtain ⟨P41, hc42, hwp⟩ := hwp
    refine sw_callv hz (va_runV (As := [.int i1]) (rest := []) ⟨hx, hb, hml, hown, hts⟩ (hc42 hK _) (cwV 1 hts gX7_findSecond_X7_prepare rfl rfl rfl (by decide +kernel) ⟨Nat.le_of_ble_eq_true rfl, Nat.le_of_ble_eq_true rfl⟩) (hz.preV hK hs34 rfl) rfl rfl hl.1 rfl (lv_room (Nat.le_of_ble_eq_true rfl)) dX7_findSecond_12 ⟨Nat.le_of_ble_eq_true rfl, Nat.le_of_ble_eq_true rfl⟩) (fun I43 L44 A45 H locs hp hz => ?_)
    have hwp := hwp I43 L44 A45 hp
    refine lv_iconst (v := 0) hx hb dX7_findSecond_15 (by decide) ?_
    refine lv_istore_n (lv' := [(2, .int 0), (0, .ref o0), (1, .int i1)]) hx hb dX7_findSecond_16 rfl hl (by decide) rfl (fun ls hl => ?_)
    exact wL17 _ _ _ _ _ _ _ hwp hz (lv_sub hl [1, 2, 0] rfl)
  · have hwp := hwp.2 q
    exact sw_vret hx hb hret hlocks hz hwp dX7_findSecond_9

def wp_X7_tryThird_15 (K : Cx) (o0 : Nat) (i1 : Int32) (i2 : Int32) (i3 : Int32) (C3 : TI → TL → TA → Int32 → Prop) (I : TI) (L : TL) (A : TA) (x4 : Int32) (x5 : Int32) (Q : TI → TL → TA → Prop) : Prop := ∃ (Inv : Nat → TI → TL → TA → Int32 → Int32 → Prop) (μ : Nat), Inv μ I L A x4 x5 ∧ ∀ (μ : Nat) (C15 : TI → TL → TA → Int32 → Int32 → Prop), (∀ (μ' : Nat) (I : TI) (L : TL) (A : TA) (x4 : Int32) (x5 : Int32) , μ' < μ → Inv μ' I L A x4 x5 → C15 I L A x4 x5) → ∀ (I : TI) (L : TL) (A : TA) (x4 : Int32) (x5 : Int32) , Inv μ I L A x4 x5 → cxS K o0 = shX7 o0 ∧ (((2 * (I o0 14)) ≤ x5 → ∀ v2 : Int32, v2 = x4 + 1 → C3 I L A v2) ∧ (¬ (2 * (I o0 14)) ≤ x5 → ∃ P3 : Int32 → TI → TL → TA → Prop, ConI K yX7_degreeOf wsX7_degreeOf 0 0 I L A [.ref o0, .int i1] P3 ∧ ∀ (r8 : Int32) (I5 : TI) (L6 : TL) (A7 : TA), P3 r8 I5 L6 A7 → ((r8 = 6 → ∃ P10 : TI → TL → TA → Prop, ConV K yX7_clear wsX7_clear 0 0 I5 L6 A7 [.ref o0, .int 10] P10 ∧ ∀ (I12 : TI) (L13 : TL) (A14 : TA), P10 I12 L13 A14 → aok (cxS K) (o0 + 7) 0 (100 + (x5 / 2)) ∧ ∃ P16 : Int32 → TI → TL → TA → Prop, ConI K yX7_signed wsX7_signed 0 0 I12 L13 A14 [.int (I12 (o0 + 7) (ix (100 + (x5 / 2)))), .int x5] P16 ∧ ∀ (r21 : Int32) (I18 : TI) (L19 : TL) (A20 : TA), P16 r21 I18 L19 A20 → aok (cxS K) (o0 + 1) 1 80 ∧ ∀ L23 : TL, L23 = u2 L19 (o0 + 1) (ix 80) (Int32.toInt64 r21) → aok (cxS K) (o0 + 1) 1 82 ∧ ∀ L25 : TL, L25 = u2 L23 (o0 + 1) (ix 82) (Int32.toInt64 (i2 - r21)) → aok (cxS K) (o0 + 7) 0 x4 ∧ aok (cxS K) (o0 + 1) 1 83 ∧ ∀ L28 : TL, L28 = u2 L25 (o0 + 1) (ix 83) (Int32.toInt64 (I18 (o0 + 7) (ix x4))) → aok (cxS K) (o0 + 7) 0 x4 ∧ aok (cxS K) (o0 + 1) 1 81 ∧ ∀ L31 : TL, L31 = u2 L28 (o0 + 1) (ix 81) (Int32.toInt64 (i3 - (I18 (o0 + 7) (ix x4)))) → ∃ P32 : Int64 → TI → TL → TA → Prop, ConL K yX7_valueAt wsX7_valueAt 0 0 I18 L31 A20 [.ref o0, .int 10, .int 2] P32 ∧ ∀ (r37 : Int64) (I34 : TI) (L35 : TL) (A36 : TA), P32 r37 I34 L35 A36 → ((r37 = 0 → ∀ v38 : Int32, v38 = x5 + 1 → C15 I34 L35 A36 x4 v38) ∧ (¬ r37 = 0 → ∃ P39 : Int64 → TI → TL → TA → Prop, ConL K yX7_valueAt wsX7_valueAt 0 0 I34 L35 A36 [.ref o0, .int i1, .int 2] P39 ∧ ∀ (r44 : Int64) (I41 : TI) (L42 : TL) (A43 : TA), P39 r44 I41 L42 A43 → ¬ r37 = 0 ∧ (((r44 - r44 / r37 * r37) = 0 → ∃ P47 : Int32 → TI → TL → TA → Prop, ConI K yX7_divides wsX7_divides 2 43 I41 L42 A43 [.ref o0, .int 10, .int i1] P47 ∧ ∀ (r52 : Int32) (I49 : TI) (L50 : TL) (A51 : TA), P47 r52 I49 L50 A51 → ((r52 = 0 → ∀ v53 : Int32, v53 = x5 + 1 → C15 I49 L50 A51 x4 v53) ∧ (¬ r52 = 0 → ∃ P54 : TI → TL → TA → Prop, ConV K yX7_takeOut wsX7_takeOut 3 74 I49 L50 A51 [.ref o0, .int i1] P54 ∧ ∀ (I56 : TI) (L57 : TL) (A58 : TA), P54 I56 L57 A58 → ∀ v59 : Int32, v59 = x5 + 1 → C15 I56 L57 A58 x4 v59))) ∧ (¬ (r44 - r44 / r37 * r37) = 0 → ∀ v46 : Int32, v46 = x5 + 1 → C15 I41 L42 A43 x4 v46))))) ∧ (¬ r8 = 6 → ∀ v9 : Int32, v9 = x4 + 1 → C3 I5 L6 A7 v9))))
def wp_X7_tryThird_3 (K : Cx) (o0 : Nat) (i1 : Int32) (i2 : Int32) (i3 : Int32) (I : TI) (L : TL) (A : TA) (x4 : Int32) (Q : TI → TL → TA → Prop) : Prop := ∃ (Inv : Nat → TI → TL → TA → Int32 → Prop) (μ : Nat), Inv μ I L A x4 ∧ ∀ (μ : Nat) (C3 : TI → TL → TA → Int32 → Prop), (∀ (μ' : Nat) (I : TI) (L : TL) (A : TA) (x4 : Int32) , μ' < μ → Inv μ' I L A x4 → C3 I L A x4) → ∀ (I : TI) (L : TL) (A : TA) (x4 : Int32) , Inv μ I L A x4 → cxS K o0 = shX7 o0 ∧ (((I o0 17) ≤ x4 → Q I L A) ∧ (¬ (I o0 17) ≤ x4 → wp_X7_tryThird_15 K o0 i1 i2 i3 C3 I L A x4 0 Q))
def wp_X7_tryThird (K : Cx) (I : TI) (L : TL) (A : TA) (o0 : Nat) (i1 : Int32) (i2 : Int32) (i3 : Int32) (Q : TI → TL → TA → Prop) : Prop := wp_X7_tryThird_3 K o0 i1 i2 i3 I L A 0 Q
set_option maxHeartbeats 1000000 in
set_option maxRecDepth 100000 in
theorem w_X7_tryThird (K : Cx) (I : TI) (L : TL) (A : TA) (o0 : Nat) (i1 : Int32) (i2 : Int32) (i3 : Int32) (Q : TI → TL → TA → Prop) (hwp : wp_X7_tryThird K I L A o0 i1 i2 i3 Q) : ConV K yX7_tryThird wsX7_tryThird 4 96 I L A [.ref o0, .int i1, .int i2, .int i3] Q := by
  intro hK sz
  refine Met.ofW (cc := cX7_tryThird) (maxL := 9) (ret := none) (by decide) rfl ?_
  intro p e s m args below meth c s₁ B hml hv
  obtain ⟨rfl, hsz, hB⟩ := hv
  have hx := B.exec
  have hb := B.bytes
  have hret := B.returns
  have hts := atoms_spec (ws := wsX7_tryThird) B.pre
  have hown : s.vm.findClass RX7 = some m.cls := findClass_of_methodNamed B.named
  have hlocks := B.notSynchronized
  subst hsz
  have hz : SS K s I L A s.heap [] := PS.start hB
  have hl := lv_entry ([.ref o0, .int i1, .int i2, .int i3]) (n := 9) (Nat.le_of_ble_eq_true rfl)
  rw [lg_entry_eq]
  generalize (lg_sl ([.ref o0, .int i1, .int i2, .int i3]) ++ List.replicate (9 - (lg_sl ([.ref o0, .int i1, .int i2, .int i3])).length) Slot.unset).toArray = ls at hl ⊢
  have hl : lv_has ls 9 [(0, .ref o0), (1, .int i1), (2, .int i2), (3, .int i3)] := hl
  have hw0 : ∀ w ∈ u_ws RX7 TX7 25, w ∈ wsX7_tryThird := by decide +kernel
  have hw1 := hts (.fieldLink RX7 96 "GaloisDeskModel" "lows" "I") (by decide +kernel)
  have hw2 := hts (.fieldLink RX7 29 "GaloisDeskModel" "divisors" "[I") (by decide +kernel)
  have hw3 := hts (.fieldLink RX7 7 "GaloisDeskModel" "row" "[J") (by decide +kernel)
  have hw4 := hts (.fieldLink RX7 93 "GaloisDeskModel" "leads" "I") (by decide +kernel)
  clear hB B
  have wL15 : ∀ (C3 : TI → TL → TA → Int32 → Prop) (hC3 : ∀ (I : TI) (L : TL) (A : TA) (x4 : Int32) (H : Heap) (locs : List Loc) (ls : Array Slot), C3 I L A x4 → SS K s I L A H locs → lv_has ls 9 [(0, .ref o0), (1, .int i1), (2, .int i2), (3, .int i3), (4, .int x4)] → W p (cxl K) e (headSpec wsX7_tryThird (rmF 4 96)).room s m ([.ref o0, .int i1, .int i2, .int i3] : List Value).toArray below meth c H locs 0 0 (MQ below (cxQv K Q) ([.ref o0, .int i1, .int i2, .int i3] : List Value).toArray s 0 0 (PA (cxb K))) (F0 m 3 ls [])) (I : TI) (L : TL) (A : TA) (x4 : Int32) (x5 : Int32) (H : Heap) (locs : List Loc) (ls : Array Slot), wp_X7_tryThird_15 K o0 i1 i2 i3 C3 I L A x4 x5 Q → SS K s I L A H locs → lv_has ls 9 [(0, .ref o0), (1, .int i1), (2, .int i2), (3, .int i3), (4, .int x4), (5, .int x5)] → W p (cxl K) e (headSpec wsX7_tryThird (rmF 4 96)).room s m ([.ref o0, .int i1, .int i2, .int i3] : List Value).toArray below meth c H locs 0 0 (MQ below (cxQv K Q) ([.ref o0, .int i1, .int i2, .int i3] : List Value).toArray s 0 0 (PA (cxb K))) (F0 m 15 ls []) := by
    intro C3 hC3 I L A x4 x5 H locs ls hwp hz hl
    obtain ⟨Inv, μ, hi, hst⟩ := hwp
    have key : ∀ (μ : Nat) (I : TI) (L : TL) (A : TA) (x4 : Int32) (x5 : Int32) (H : Heap) (locs : List Loc) (ls : Array Slot), Inv μ I L A x4 x5 → SS K s I L A H locs → lv_has ls 9 [(0, .ref o0), (1, .int i1), (2, .int i2), (3, .int i3), (4, .int x4), (5, .int x5)] → W p (cxl K) e (headSpec wsX7_tryThird (rmF 4 96)).room s m ([.ref o0, .int i1, .int i2, .int i3] : List Value).toArray below meth c H locs 0 0 (MQ below (cxQv K Q) ([.ref o0, .int i1, .int i2, .int i3] : List Value).toArray s 0 0 (PA (cxb K))) (F0 m 15 ls []) := by
      clear hi hz hl
      intro μ
      induction μ using Nat.strongRecOn with | ind μ ih => ?_
      intro I L A x4 x5 H locs ls hi hz hl
      obtain ⟨C15, hCd⟩ : ∃ C : TI → TL → TA → Int32 → Int32 → Prop, C = fun I L A x4 x5 => ∃ μ', μ' < μ ∧ Inv μ' I L A x4 x5 := ⟨_, rfl⟩
      have hC15 : ∀ (I : TI) (L : TL) (A : TA) (x4 : Int32) (x5 : Int32) (H : Heap) (locs : List Loc) (ls : Array Slot), C15 I L A x4 x5 → SS K s I L A H locs → lv_has ls 9 [(0, .ref o0), (1, .int i1), (2, .int i2), (3, .int i3), (4, .int x4), (5, .int x5)] → W p (cxl K) e (headSpec wsX7_tryThird (rmF 4 96)).room s m ([.ref o0, .int i1, .int i2, .int i3] : List Value).toArray below meth c H locs 0 0 (MQ below (cxQv K Q) ([.ref o0, .int i1, .int i2, .int i3] : List Value).toArray s 0 0 (PA (cxb K))) (F0 m 15 ls []) := by
        intro I L A x4 x5 H locs ls hc hz hl
        rw [hCd] at hc
        obtain ⟨μ', hlt, hc⟩ := hc
        exact ih μ' hlt I L A x4 x5 H locs ls hc hz hl
      have hwp := hst μ C15 (fun μ' I L A x4 x5 hlt hc => by rw [hCd]; exact ⟨μ', hlt, hc⟩) I L A x4 x5 hi
      refine lv_iload hx hb dX7_tryThird_15 (lv_at hl 5 rfl) ?_
      refine lv_iconst (v := 2) hx hb dX7_tryThird_17 (by decide) ?_
      refine lv_aload_n hx hb dX7_tryThird_18 rfl (lv_at hl 0 rfl) ?_
      obtain ⟨hs1, hwp⟩ := hwp
      refine sw_get (C := RX7) (T := TX7) (N := 25) (v := .int (I o0 14)) hx hb hts hw0 hown hK hz hs1 rfl 14 (by decide) hw1 (fun _ h9 => h9) rfl dX7_tryThird_19 ?_
      refine lv_imul hx hb dX7_tryThird_22 ?_
      refine lv_icmp_ge (tgt := 166) hx hb dX7_tryThird_23 (by decide) (fun q => ?_) (fun q => ?_)
      · have hwp := hwp.1 q
        obtain ⟨v2, q_v2⟩ : ∃ y : Int32, y = x4 + 1 := ⟨_, rfl⟩
        have hwp := hwp v2 q_v2
        refine lv_iinc (v := v2) (lv' := [(4, .int v2), (0, .ref o0), (1, .int i1), (2, .int i2), (3, .int i3), (5, .int x5)]) hx hb dX7_tryThird_166 hl (k := 4) rfl (by rw [q_v2]; rfl) (by decide) rfl (fun ls hl => ?_)
        refine lv_goto (tgt := 3) hx hb dX7_tryThird_169 (by decide) ?_
        exact hC3 _ _ _ _ _ _ _ hwp hz (lv_sub hl [1, 2, 3, 4, 0] rfl)
      · have hwp := hwp.2 q
        refine lv_aload_n hx hb dX7_tryThird_26 rfl (lv_at hl 0 rfl) ?_
        refine lv_iload_n hx hb dX7_tryThird_27 rfl (lv_at hl 1 rfl) ?_
        obtain ⟨P3, hc4, hwp⟩ := hwp
        refine sw_calli hz (va_runV (As := [.int i1]) (rest := []) ⟨hx, hb, hml, hown, hts⟩ (hc4 hK _) (cwV 1 hts gX7_tryThird_X7_degreeOf rfl rfl rfl (by decide +kernel) ⟨Nat.le_of_ble_eq_true rfl, Nat.le_of_ble_eq_true rfl⟩) (hz.preV hK hs1 rfl) rfl rfl hl.1 rfl (lv_room (Nat.le_of_ble_eq_true rfl)) dX7_tryThird_28 ⟨Nat.le_of_ble_eq_true rfl, Nat.le_of_ble_eq_true rfl⟩) (fun r8 I5 L6 A7 H locs hp hz => ?_)
        have hwp := hwp r8 I5 L6 A7 hp
        refine lv_bipush (v := 6) hx hb dX7_tryThird_31 (by decide) ?_
        refine lv_icmp_ne (tgt := 166) hx hb dX7_tryThird_33 (by decide) (fun q => ?_) (fun q => ?_)
        · have hwp := hwp.2 q
          obtain ⟨v9, q_v9⟩ : ∃ y : Int32, y = x4 + 1 := ⟨_, rfl⟩
          have hwp := hwp v9 q_v9
          refine lv_iinc (v := v9) (lv' := [(4, .int v9), (0, .ref o0), (1, .int i1), (2, .int i2), (3, .int i3), (5, .int x5)]) hx hb dX7_tryThird_166 hl (k := 4) rfl (by rw [q_v9]; rfl) (by decide) rfl (fun ls hl => ?_)
          refine lv_goto (tgt := 3) hx hb dX7_tryThird_169 (by decide) ?_
          exact hC3 _ _ _ _ _ _ _ hwp hz (lv_sub hl [1, 2, 3, 4, 0] rfl)
        · have hwp := hwp.1 q
          refine lv_aload_n hx hb dX7_tryThird_36 rfl (lv_at hl 0 rfl) ?_
          refine lv_bipush (v := 10) hx hb dX7_tryThird_37 (by decide) ?_
          obtain ⟨P10, hc11, hwp⟩ := hwp
          refine sw_callv hz (va_runV (As := [.int 10]) (rest := []) ⟨hx, hb, hml, hown, hts⟩ (hc11 hK _) (cwV 1 hts gX7_tryThird_X7_clear rfl rfl rfl (by decide +kernel) ⟨Nat.le_of_ble_eq_true rfl, Nat.le_of_ble_eq_true rfl⟩) (hz.preV hK hs1 rfl) rfl rfl hl.1 rfl (lv_room (Nat.le_of_ble_eq_true rfl)) dX7_tryThird_39 ⟨Nat.le_of_ble_eq_true rfl, Nat.le_of_ble_eq_true rfl⟩) (fun I12 L13 A14 H locs hp hz => ?_)
          have hwp := hwp I12 L13 A14 hp
          refine lv_aload_n hx hb dX7_tryThird_42 rfl (lv_at hl 0 rfl) ?_
          refine sw_get (C := RX7) (T := TX7) (N := 25) (v := .ref (o0 + 7)) hx hb hts hw0 hown hK hz hs1 rfl 13 (by decide) hw2 (fun _ h9 => h9) rfl dX7_tryThird_43 ?_
          refine lv_bipush (v := 100) hx hb dX7_tryThird_46 (by decide) ?_
          refine lv_iload hx hb dX7_tryThird_48 (lv_at hl 5 rfl) ?_
          refine lv_iconst (v := 2) hx hb dX7_tryThird_50 (by decide) ?_
          refine lv_idiv hx hb dX7_tryThird_51 (by decide) ?_
          refine lv_iadd hx hb dX7_tryThird_52 ?_
          obtain ⟨ho15, hwp⟩ := hwp
          refine sw_iald hx hb hK hz ho15 dX7_tryThird_53 ?_
          refine lv_iload hx hb dX7_tryThird_54 (lv_at hl 5 rfl) ?_
          obtain ⟨P16, hc17, hwp⟩ := hwp
          refine sw_calli hz (va_runS (As := [.int (I12 (o0 + 7) (ix (100 + (x5 / 2)))), .int x5]) (rest := []) ⟨hx, hb, hml, hown, hts⟩ (hc17 hK _) (va_cwS 2 hts gX7_tryThird_X7_signed rfl rfl rfl (by decide +kernel) ⟨Nat.le_of_ble_eq_true rfl, Nat.le_of_ble_eq_true rfl⟩) hz.preS rfl rfl hl.1 rfl (lv_room (Nat.le_of_ble_eq_true rfl)) dX7_tryThird_56 ⟨Nat.le_of_ble_eq_true rfl, Nat.le_of_ble_eq_true rfl⟩) (fun r21 I18 L19 A20 H locs hp hz => ?_)
          have hwp := hwp r21 I18 L19 A20 hp
          refine lv_istore (lv' := [(6, .int r21), (0, .ref o0), (1, .int i1), (2, .int i2), (3, .int i3), (4, .int x4), (5, .int x5)]) hx hb dX7_tryThird_59 hl (by decide) rfl (fun ls hl => ?_)
          refine lv_aload_n hx hb dX7_tryThird_61 rfl (lv_at hl 1 rfl) ?_
          refine sw_get (C := RX7) (T := TX7) (N := 25) (v := .ref (o0 + 1)) hx hb hts hw0 hown hK hz hs1 rfl 1 (by decide) hw3 (fun _ h9 => h9) rfl dX7_tryThird_62 ?_
          refine lv_bipush (v := 80) hx hb dX7_tryThird_65 (by decide) ?_
          refine lv_iload hx hb dX7_tryThird_67 (lv_at hl 0 rfl) ?_
          refine lv_i2l hx hb dX7_tryThird_69 rfl ?_
          obtain ⟨ho22, hwp⟩ := hwp
          refine sw_last hx hb hK hz ho22 dX7_tryThird_70 (fun H locs L23 e_L23 hz => ?_)
          have hwp := hwp L23 e_L23
          refine lv_aload_n hx hb dX7_tryThird_71 rfl (lv_at hl 1 rfl) ?_
          refine sw_get (C := RX7) (T := TX7) (N := 25) (v := .ref (o0 + 1)) hx hb hts hw0 hown hK hz hs1 rfl 1 (by decide) hw3 (fun _ h9 => h9) rfl dX7_tryThird_72 ?_
          refine lv_bipush (v := 82) hx hb dX7_tryThird_75 (by decide) ?_
          refine lv_iload_n hx hb dX7_tryThird_77 rfl (lv_at hl 3 rfl) ?_
          refine lv_iload hx hb dX7_tryThird_78 (lv_at hl 0 rfl) ?_
          refine lv_isub hx hb dX7_tryThird_80 ?_
          refine lv_i2l hx hb dX7_tryThird_81 rfl ?_
          obtain ⟨ho24, hwp⟩ := hwp
          refine sw_last hx hb hK hz ho24 dX7_tryThird_82 (fun H locs L25 e_L25 hz => ?_)
          have hwp := hwp L25 e_L25
          refine lv_aload_n hx hb dX7_tryThird_83 rfl (lv_at hl 1 rfl) ?_
          refine sw_get (C := RX7) (T := TX7) (N := 25) (v := .ref (o0 + 1)) hx hb hts hw0 hown hK hz hs1 rfl 1 (by decide) hw3 (fun _ h9 => h9) rfl dX7_tryThird_84 ?_
          refine lv_bipush (v := 83) hx hb dX7_tryThird_87 (by decide) ?_
          refine lv_aload_n hx hb dX7_tryThird_89 rfl (lv_at hl 1 rfl) ?_
          refine sw_get (C := RX7) (T := TX7) (N := 25) (v := .ref (o0 + 7)) hx hb hts hw0 hown hK hz hs1 rfl 13 (by decide) hw2 (fun _ h9 => h9) rfl dX7_tryThird_90 ?_
          refine lv_iload hx hb dX7_tryThird_93 (lv_at hl 5 rfl) ?_
          obtain ⟨ho26, hwp⟩ := hwp
          refine sw_iald hx hb hK hz ho26 dX7_tryThird_95 ?_
          refine lv_i2l hx hb dX7_tryThird_96 rfl ?_
          obtain ⟨ho27, hwp⟩ := hwp
          refine sw_last hx hb hK hz ho27 dX7_tryThird_97 (fun H locs L28 e_L28 hz => ?_)
          have hwp := hwp L28 e_L28
          refine lv_aload_n hx hb dX7_tryThird_98 rfl (lv_at hl 1 rfl) ?_
          refine sw_get (C := RX7) (T := TX7) (N := 25) (v := .ref (o0 + 1)) hx hb hts hw0 hown hK hz hs1 rfl 1 (by decide) hw3 (fun _ h9 => h9) rfl dX7_tryThird_99 ?_
          refine lv_bipush (v := 81) hx hb dX7_tryThird_102 (by decide) ?_
          refine lv_iload_n hx hb dX7_tryThird_104 rfl (lv_at hl 4 rfl) ?_
          refine lv_aload_n hx hb dX7_tryThird_105 rfl (lv_at hl 1 rfl) ?_
          refine sw_get (C := RX7) (T := TX7) (N := 25) (v := .ref (o0 + 7)) hx hb hts hw0 hown hK hz hs1 rfl 13 (by decide) hw2 (fun _ h9 => h9) rfl dX7_tryThird_106 ?_
          refine lv_iload hx hb dX7_tryThird_109 (lv_at hl 5 rfl) ?_
          obtain ⟨ho29, hwp⟩ := hwp
          refine sw_iald hx hb hK hz ho29 dX7_tryThird_111 ?_
          refine lv_isub hx hb dX7_tryThird_112 ?_
          refine lv_i2l hx hb dX7_tryThird_113 rfl ?_
          obtain ⟨ho30, hwp⟩ := hwp
          refine sw_last hx hb hK hz ho30 dX7_tryThird_114 (fun H locs L31 e_L31 hz => ?_)
          have hwp := hwp L31 e_L31
          refine lv_aload_n hx hb dX7_tryThird_115 rfl (lv_at hl 1 rfl) ?_
          refine lv_bipush (v := 10) hx hb dX7_tryThird_116 (by decide) ?_
          refine lv_iconst (v := 2) hx hb dX7_tryThird_118 (by decide) ?_
          obtain ⟨P32, hc33, hwp⟩ := hwp
          refine sw_calll hz (va_runV (As := [.int 10, .int 2]) (rest := []) ⟨hx, hb, hml, hown, hts⟩ (hc33 hK _) (cwV 2 hts gX7_tryThird_X7_valueAt rfl rfl rfl (by decide +kernel) ⟨Nat.le_of_ble_eq_true rfl, Nat.le_of_ble_eq_true rfl⟩) (hz.preV hK hs1 rfl) rfl rfl hl.1 rfl (lv_room (Nat.le_of_ble_eq_true rfl)) dX7_tryThird_119 ⟨Nat.le_of_ble_eq_true rfl, Nat.le_of_ble_eq_true rfl⟩) (fun r37 I34 L35 A36 H locs hp hz => ?_)
          have hwp := hwp r37 I34 L35 A36 hp
          refine lv_lstore (lv' := [(7, .long r37), (6, .int r21), (0, .ref o0), (1, .int i1), (2, .int i2), (3, .int i3), (4, .int x4), (5, .int x5)]) hx hb dX7_tryThird_122 hl (by decide) rfl (fun ls hl => ?_)
          refine lv_lload hx hb dX7_tryThird_124 (lv_at hl 0 rfl) ?_
          refine lv_lconst (v := 0) hx hb dX7_tryThird_126 (by decide) ?_
          refine W.lcmp hx hb dX7_tryThird_127 ?_
          refine W.eq (g2 := F0 m 128 ls [.int (lg_cmp r37 0)]) rfl ?_
          refine lv_if_eq (tgt := 160) hx hb dX7_tryThird_128 (by decide) (fun q => ?_) (fun q => ?_)
          · have hwp := hwp.1 ((lg_cmp_eq _ _).mp q)
            obtain ⟨v38, q_v38⟩ : ∃ y : Int32, y = x5 + 1 := ⟨_, rfl⟩
            have hwp := hwp v38 q_v38
            refine lv_iinc (v := v38) (lv' := [(5, .int v38), (7, .long r37), (6, .int r21), (0, .ref o0), (1, .int i1), (2, .int i2), (3, .int i3), (4, .int x4)]) hx hb dX7_tryThird_160 hl (k := 7) rfl (by rw [q_v38]; rfl) (by decide) rfl (fun ls hl => ?_)
            refine lv_goto (tgt := 15) hx hb dX7_tryThird_163 (by decide) ?_
            exact hC15 _ _ _ _ _ _ _ _ hwp hz (lv_sub hl [3, 4, 5, 6, 7, 0] rfl)
          · have hwp := hwp.2 (fun h => q ((lg_cmp_eq _ _).mpr h))
            refine lv_aload_n hx hb dX7_tryThird_131 rfl (lv_at hl 2 rfl) ?_
            refine lv_iload_n hx hb dX7_tryThird_132 rfl (lv_at hl 3 rfl) ?_
            refine lv_iconst (v := 2) hx hb dX7_tryThird_133 (by decide) ?_
            obtain ⟨P39, hc40, hwp⟩ := hwp
            refine sw_calll hz (va_runV (As := [.int i1, .int 2]) (rest := []) ⟨hx, hb, hml, hown, hts⟩ (hc40 hK _) (cwV 2 hts gX7_tryThird_X7_valueAt rfl rfl rfl (by decide +kernel) ⟨Nat.le_of_ble_eq_true rfl, Nat.le_of_ble_eq_true rfl⟩) (hz.preV hK hs1 rfl) rfl rfl hl.1 rfl (lv_room (Nat.le_of_ble_eq_true rfl)) dX7_tryThird_134 ⟨Nat.le_of_ble_eq_true rfl, Nat.le_of_ble_eq_true rfl⟩) (fun r44 I41 L42 A43 H locs hp hz => ?_)
            have hwp := hwp r44 I41 L42 A43 hp
            refine lv_lload hx hb dX7_tryThird_137 (lv_at hl 0 rfl) ?_
            obtain ⟨hn45, hwp⟩ := hwp
            refine lv_lrem hx hb dX7_tryThird_139 hn45 ?_
            refine lv_lconst (v := 0) hx hb dX7_tryThird_140 (by decide) ?_
            refine W.lcmp hx hb dX7_tryThird_141 ?_
            refine W.eq (g2 := F0 m 142 ls [.int (lg_cmp (r44 - r44 / r37 * r37) 0)]) rfl ?_
            refine lv_if_ne (tgt := 160) hx hb dX7_tryThird_142 (by decide) (fun q => ?_) (fun q => ?_)
            · have hwp := hwp.2 (fun h => q ((lg_cmp_eq _ _).mpr h))
              obtain ⟨v46, q_v46⟩ : ∃ y : Int32, y = x5 + 1 := ⟨_, rfl⟩
              have hwp := hwp v46 q_v46
              refine lv_iinc (v := v46) (lv' := [(5, .int v46), (7, .long r37), (6, .int r21), (0, .ref o0), (1, .int i1), (2, .int i2), (3, .int i3), (4, .int x4)]) hx hb dX7_tryThird_160 hl (k := 7) rfl (by rw [q_v46]; rfl) (by decide) rfl (fun ls hl => ?_)
              refine lv_goto (tgt := 15) hx hb dX7_tryThird_163 (by decide) ?_
              exact hC15 _ _ _ _ _ _ _ _ hwp hz (lv_sub hl [3, 4, 5, 6, 7, 0] rfl)
            · have hwp := hwp.1 ((lg_cmp_eq _ _).mp q)
              refine lv_aload_n hx hb dX7_tryThird_145 rfl (lv_at hl 2 rfl) ?_
              refine lv_bipush (v := 10) hx hb dX7_tryThird_146 (by decide) ?_
              refine lv_iload_n hx hb dX7_tryThird_148 rfl (lv_at hl 3 rfl) ?_
              obtain ⟨P47, hc48, hwp⟩ := hwp
              refine sw_calli hz (va_runV (As := [.int 10, .int i1]) (rest := []) ⟨hx, hb, hml, hown, hts⟩ (hc48 hK _) (cwV 2 hts gX7_tryThird_X7_divides rfl rfl rfl (by decide +kernel) ⟨Nat.le_of_ble_eq_true rfl, Nat.le_of_ble_eq_true rfl⟩) (hz.preV hK hs1 rfl) rfl rfl hl.1 rfl (lv_room (Nat.le_of_ble_eq_true rfl)) dX7_tryThird_149 ⟨Nat.le_of_ble_eq_true rfl, Nat.le_of_ble_eq_true rfl⟩) (fun r52 I49 L50 A51 H locs hp hz => ?_)
              have hwp := hwp r52 I49 L50 A51 hp
              refine lv_if_eq (tgt := 160) hx hb dX7_tryThird_152 (by decide) (fun q => ?_) (fun q => ?_)
              · have hwp := hwp.1 q
                obtain ⟨v53, q_v53⟩ : ∃ y : Int32, y = x5 + 1 := ⟨_, rfl⟩
                have hwp := hwp v53 q_v53
                refine lv_iinc (v := v53) (lv' := [(5, .int v53), (7, .long r37), (6, .int r21), (0, .ref o0), (1, .int i1), (2, .int i2), (3, .int i3), (4, .int x4)]) hx hb dX7_tryThird_160 hl (k := 7) rfl (by rw [q_v53]; rfl) (by decide) rfl (fun ls hl => ?_)
                refine lv_goto (tgt := 15) hx hb dX7_tryThird_163 (by decide) ?_
                exact hC15 _ _ _ _ _ _ _ _ hwp hz (lv_sub hl [3, 4, 5, 6, 7, 0] rfl)
              · have hwp := hwp.2 q
                refine lv_aload_n hx hb dX7_tryThird_155 rfl (lv_at hl 2 rfl) ?_
                refine lv_iload_n hx hb dX7_tryThird_156 rfl (lv_at hl 3 rfl) ?_
                obtain ⟨P54, hc55, hwp⟩ := hwp
                refine sw_callv hz (va_runV (As := [.int i1]) (rest := []) ⟨hx, hb, hml, hown, hts⟩ (hc55 hK _) (cwV 1 hts gX7_tryThird_X7_takeOut rfl rfl rfl (by decide +kernel) ⟨Nat.le_of_ble_eq_true rfl, Nat.le_of_ble_eq_true rfl⟩) (hz.preV hK hs1 rfl) rfl rfl hl.1 rfl (lv_room (Nat.le_of_ble_eq_true rfl)) dX7_tryThird_157 ⟨Nat.le_of_ble_eq_true rfl, Nat.le_of_ble_eq_true rfl⟩) (fun I56 L57 A58 H locs hp hz => ?_)
                have hwp := hwp I56 L57 A58 hp
                obtain ⟨v59, q_v59⟩ : ∃ y : Int32, y = x5 + 1 := ⟨_, rfl⟩
                have hwp := hwp v59 q_v59
                refine lv_iinc (v := v59) (lv' := [(5, .int v59), (7, .long r37), (6, .int r21), (0, .ref o0), (1, .int i1), (2, .int i2), (3, .int i3), (4, .int x4)]) hx hb dX7_tryThird_160 hl (k := 7) rfl (by rw [q_v59]; rfl) (by decide) rfl (fun ls hl => ?_)
                refine lv_goto (tgt := 15) hx hb dX7_tryThird_163 (by decide) ?_
                exact hC15 _ _ _ _ _ _ _ _ hwp hz (lv_sub hl [3, 4, 5, 6, 7, 0] rfl)
    exact key μ I L A x4 x5 H locs ls hi hz hl
  have wL3 : ∀ (I : TI) (L : TL) (A : TA) (x4 : Int32) (H : Heap) (locs : List Loc) (ls : Array Slot), wp_X7_tryThird_3 K o0 i1 i2 i3 I L A x4 Q → SS K s I L A H locs → lv_has ls 9 [(0, .ref o0), (1, .int i1), (2, .int i2), (3, .int i3), (4, .int x4)] → W p (cxl K) e (headSpec wsX7_tryThird (rmF 4 96)).room s m ([.ref o0, .int i1, .int i2, .int i3] : List Value).toArray below meth c H locs 0 0 (MQ below (cxQv K Q) ([.ref o0, .int i1, .int i2, .int i3] : List Value).toArray s 0 0 (PA (cxb K))) (F0 m 3 ls []) := by
    intro I L A x4 H locs ls hwp hz hl
    obtain ⟨Inv, μ, hi, hst⟩ := hwp
    have key : ∀ (μ : Nat) (I : TI) (L : TL) (A : TA) (x4 : Int32) (H : Heap) (locs : List Loc) (ls : Array Slot), Inv μ I L A x4 → SS K s I L A H locs → lv_has ls 9 [(0, .ref o0), (1, .int i1), (2, .int i2), (3, .int i3), (4, .int x4)] → W p (cxl K) e (headSpec wsX7_tryThird (rmF 4 96)).room s m ([.ref o0, .int i1, .int i2, .int i3] : List Value).toArray below meth c H locs 0 0 (MQ below (cxQv K Q) ([.ref o0, .int i1, .int i2, .int i3] : List Value).toArray s 0 0 (PA (cxb K))) (F0 m 3 ls []) := by
      clear hi hz hl
      intro μ
      induction μ using Nat.strongRecOn with | ind μ ih => ?_
      intro I L A x4 H locs ls hi hz hl
      obtain ⟨C3, hCd⟩ : ∃ C : TI → TL → TA → Int32 → Prop, C = fun I L A x4 => ∃ μ', μ' < μ ∧ Inv μ' I L A x4 := ⟨_, rfl⟩
      have hC3 : ∀ (I : TI) (L : TL) (A : TA) (x4 : Int32) (H : Heap) (locs : List Loc) (ls : Array Slot), C3 I L A x4 → SS K s I L A H locs → lv_has ls 9 [(0, .ref o0), (1, .int i1), (2, .int i2), (3, .int i3), (4, .int x4)] → W p (cxl K) e (headSpec wsX7_tryThird (rmF 4 96)).room s m ([.ref o0, .int i1, .int i2, .int i3] : List Value).toArray below meth c H locs 0 0 (MQ below (cxQv K Q) ([.ref o0, .int i1, .int i2, .int i3] : List Value).toArray s 0 0 (PA (cxb K))) (F0 m 3 ls []) := by
        intro I L A x4 H locs ls hc hz hl
        rw [hCd] at hc
        obtain ⟨μ', hlt, hc⟩ := hc
        exact ih μ' hlt I L A x4 H locs ls hc hz hl
      have hwp := hst μ C3 (fun μ' I L A x4 hlt hc => by rw [hCd]; exact ⟨μ', hlt, hc⟩) I L A x4 hi
      refine lv_iload hx hb dX7_tryThird_3 (lv_at hl 4 rfl) ?_
      refine lv_aload_n hx hb dX7_tryThird_5 rfl (lv_at hl 0 rfl) ?_
      obtain ⟨hs60, hwp⟩ := hwp
      refine sw_get (C := RX7) (T := TX7) (N := 25) (v := .int (I o0 17)) hx hb hts hw0 hown hK hz hs60 rfl 17 (by decide) hw4 (fun _ h9 => h9) rfl dX7_tryThird_6 ?_
      refine lv_icmp_ge (tgt := 172) hx hb dX7_tryThird_9 (by decide) (fun q => ?_) (fun q => ?_)
      · have hwp := hwp.1 q
        exact sw_vret hx hb hret hlocks hz hwp dX7_tryThird_172
      · have hwp := hwp.2 q
        refine lv_iconst (v := 0) hx hb dX7_tryThird_12 (by decide) ?_
        refine lv_istore (lv' := [(5, .int 0), (0, .ref o0), (1, .int i1), (2, .int i2), (3, .int i3), (4, .int x4)]) hx hb dX7_tryThird_13 hl (by decide) rfl (fun ls hl => ?_)
        exact wL15 _ hC3 _ _ _ _ _ _ _ _ hwp hz (lv_sub hl [1, 2, 3, 4, 5, 0] rfl)
    exact key μ I L A x4 H locs ls hi hz hl
  refine lv_iconst (v := 0) hx hb dX7_tryThird_0 (by decide) ?_
  refine lv_istore (lv' := [(4, .int 0), (0, .ref o0), (1, .int i1), (2, .int i2), (3, .int i3)]) hx hb dX7_tryThird_1 hl (by decide) rfl (fun ls hl => ?_)
  exact wL3 _ _ _ _ _ _ _ hwp hz (lv_sub hl [1, 2, 3, 4, 0] rfl)

