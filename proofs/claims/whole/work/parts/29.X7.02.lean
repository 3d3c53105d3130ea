def wp_X7_findThird_30 (K : Cx) (o0 : Nat) (i1 : Int32) (C18 : TI → TL → TA → Int32 → Prop) (I : TI) (L : TL) (A : TA) (x2 : Int32) (x3 : Int32) (Q : TI → TL → TA → Prop) : Prop := ∃ (Inv : Nat → TI → TL → TA → Int32 → Int32 → Prop) (μ : Nat), Inv μ I L A x2 x3 ∧ ∀ (μ : Nat) (C30 : TI → TL → TA → Int32 → Int32 → Prop), (∀ (μ' : Nat) (I : TI) (L : TL) (A : TA) (x2 : Int32) (x3 : Int32) , μ' < μ → Inv μ' I L A x2 x3 → C30 I L A x2 x3) → ∀ (I : TI) (L : TL) (A : TA) (x2 : Int32) (x3 : Int32) , Inv μ I L A x2 x3 → cxS K o0 = shX7 o0 ∧ (((2 * (I o0 16)) ≤ x3 → ∀ v2 : Int32, v2 = x2 + 1 → C18 I L A v2) ∧ (¬ (2 * (I o0 16)) ≤ x3 → ∃ P3 : Int32 → TI → TL → TA → Prop, ConI K yX7_degreeOf wsX7_degreeOf 0 0 I L A [.ref o0, .int i1] P3 ∧ ∀ (r8 : Int32) (I5 : TI) (L6 : TL) (A7 : TA), P3 r8 I5 L6 A7 → ((r8 = 6 → aok (cxS K) (o0 + 7) 0 (200 + (x2 / 2)) ∧ ∃ P11 : Int32 → TI → TL → TA → Prop, ConI K yX7_signed wsX7_signed 0 0 I5 L6 A7 [.int (I5 (o0 + 7) (ix (200 + (x2 / 2)))), .int x2] P11 ∧ ∀ (r16 : Int32) (I13 : TI) (L14 : TL) (A15 : TA), P11 r16 I13 L14 A15 → aok (cxS K) (o0 + 7) 0 (400 + (x3 / 2)) ∧ ∃ P18 : Int32 → TI → TL → TA → Prop, ConI K yX7_signed wsX7_signed 0 0 I13 L14 A15 [.int (I13 (o0 + 7) (ix (400 + (x3 / 2)))), .int x3] P18 ∧ ∀ (r23 : Int32) (I20 : TI) (L21 : TL) (A22 : TA), P18 r23 I20 L21 A22 → ((((r16 + r23) - (r16 + r23) / 2 * 2) = 0 → ∃ P25 : TI → TL → TA → Prop, ConV K yX7_tryThird wsX7_tryThird 4 96 I20 L21 A22 [.ref o0, .int i1, .int ((r16 + r23) / 2), .int ((r16 - r23) / 2)] P25 ∧ ∀ (I27 : TI) (L28 : TL) (A29 : TA), P25 I27 L28 A29 → ∀ v30 : Int32, v30 = x3 + 1 → C30 I27 L28 A29 x2 v30) ∧ (¬ ((r16 + r23) - (r16 + r23) / 2 * 2) = 0 → ∀ v24 : Int32, v24 = x3 + 1 → C30 I20 L21 A22 x2 v24))) ∧ (¬ r8 = 6 → ∀ v9 : Int32, v9 = x2 + 1 → C18 I5 L6 A7 v9))))
def wp_X7_findThird_18 (K : Cx) (o0 : Nat) (i1 : Int32) (I : TI) (L : TL) (A : TA) (x2 : Int32) (Q : TI → TL → TA → Prop) : Prop := ∃ (Inv : Nat → TI → TL → TA → Int32 → Prop) (μ : Nat), Inv μ I L A x2 ∧ ∀ (μ : Nat) (C18 : TI → TL → TA → Int32 → Prop), (∀ (μ' : Nat) (I : TI) (L : TL) (A : TA) (x2 : Int32) , μ' < μ → Inv μ' I L A x2 → C18 I L A x2) → ∀ (I : TI) (L : TL) (A : TA) (x2 : Int32) , Inv μ I L A x2 → cxS K o0 = shX7 o0 ∧ (((2 * (I o0 15)) ≤ x2 → Q I L A) ∧ (¬ (2 * (I o0 15)) ≤ x2 → wp_X7_findThird_30 K o0 i1 C18 I L A x2 0 Q))
def wp_X7_findThird (K : Cx) (I : TI) (L : TL) (A : TA) (o0 : Nat) (i1 : Int32) (Q : TI → TL → TA → Prop) : Prop := cxS K o0 = shX7 o0 ∧ ∃ P33 : Int32 → TI → TL → TA → Prop, ConI K yX7_degreeOf wsX7_degreeOf 0 0 I L A [.ref o0, .int i1] P33 ∧ ∀ (r38 : Int32) (I35 : TI) (L36 : TL) (A37 : TA), P33 r38 I35 L36 A37 → ((r38 = 6 → ∃ P39 : TI → TL → TA → Prop, ConV K yX7_prepare wsX7_prepare 1 28 I35 L36 A37 [.ref o0, .int i1] P39 ∧ ∀ (I41 : TI) (L42 : TL) (A43 : TA), P39 I41 L42 A43 → wp_X7_findThird_18 K o0 i1 I41 L42 A43 0 Q) ∧ (¬ r38 = 6 → Q I35 L36 A37))
set_option maxHeartbeats 1000000 in
set_option maxRecDepth 100000 in
theorem w_X7_findThird (K : Cx) (I : TI) (L : TL) (A : TA) (o0 : Nat) (i1 : Int32) (Q : TI → TL → TA → Prop) (hwp : wp_X7_findThird K I L A o0 i1 Q) : ConV K yX7_findThird wsX7_findThird 5 124 I L A [.ref o0, .int i1] Q := by
  intro hK sz
  refine Met.ofW (cc := cX7_findThird) (maxL := 6) (ret := none) (by decide) rfl ?_
  intro p e s m args below meth c s₁ B hml hv
  obtain ⟨rfl, hsz, hB⟩ := hv
  have hx := B.exec
  have hb := B.bytes
  have hret := B.returns
  have hts := atoms_spec (ws := wsX7_findThird) B.pre
  have hown : s.vm.findClass RX7 = some m.cls := findClass_of_methodNamed B.named
  have hlocks := B.notSynchronized
  subst hsz
  have hz : SS K s I L A s.heap [] := PS.start hB
  have hl := lv_entry ([.ref o0, .int i1]) (n := 6) (Nat.le_of_ble_eq_true rfl)
  rw [lg_entry_eq]
  generalize (lg_sl ([.ref o0, .int i1]) ++ List.replicate (6 - (lg_sl ([.ref o0, .int i1])).length) Slot.unset).toArray = ls at hl ⊢
  have hl : lv_has ls 6 [(0, .ref o0), (1, .int i1)] := hl
  have hw0 : ∀ w ∈ u_ws RX7 TX7 25, w ∈ wsX7_findThird := by decide +kernel
  have hw1 := hts (.fieldLink RX7 113 "GaloisDeskModel" "minus" "I") (by decide +kernel)
  have hw2 := hts (.fieldLink RX7 29 "GaloisDeskModel" "divisors" "[I") (by decide +kernel)
  have hw3 := hts (.fieldLink RX7 110 "GaloisDeskModel" "ones" "I") (by decide +kernel)
  clear hB B
  have wL30 : ∀ (C18 : TI → TL → TA → Int32 → Prop) (hC18 : ∀ (I : TI) (L : TL) (A : TA) (x2 : Int32) (H : Heap) (locs : List Loc) (ls : Array Slot), C18 I L A x2 → SS K s I L A H locs → lv_has ls 6 [(0, .ref o0), (1, .int i1), (2, .int x2)] → W p (cxl K) e (headSpec wsX7_findThird (rmF 5 124)).room s m ([.ref o0, .int i1] : List Value).toArray below meth c H locs 0 0 (MQ below (cxQv K Q) ([.ref o0, .int i1] : List Value).toArray s 0 0 (PA (cxb K))) (F0 m 18 ls [])) (I : TI) (L : TL) (A : TA) (x2 : Int32) (x3 : Int32) (H : Heap) (locs : List Loc) (ls : Array Slot), wp_X7_findThird_30 K o0 i1 C18 I L A x2 x3 Q → SS K s I L A H locs → lv_has ls 6 [(0, .ref o0), (1, .int i1), (2, .int x2), (3, .int x3)] → W p (cxl K) e (headSpec wsX7_findThird (rmF 5 124)).room s m ([.ref o0, .int i1] : List Value).toArray below meth c H locs 0 0 (MQ below (cxQv K Q) ([.ref o0, .int i1] : List Value).toArray s 0 0 (PA (cxb K))) (F0 m 30 ls []) := by
    intro C18 hC18 I L A x2 x3 H locs ls hwp hz hl
    obtain ⟨Inv, μ, hi, hst⟩ := hwp
    have key : ∀ (μ : Nat) (I : TI) (L : TL) (A : TA) (x2 : Int32) (x3 : Int32) (H : Heap) (locs : List Loc) (ls : Array Slot), Inv μ I L A x2 x3 → SS K s I L A H locs → lv_has ls 6 [(0, .ref o0), (1, .int i1), (2, .int x2), (3, .int x3)] → W p (cxl K) e (headSpec wsX7_findThird (rmF 5 124)).room s m ([.ref o0, .int i1] : List Value).toArray below meth c H locs 0 0 (MQ below (cxQv K Q) ([.ref o0, .int i1] : List Value).toArray s 0 0 (PA (cxb K))) (F0 m 30 ls []) := by
      clear hi hz hl
      intro μ
      induction μ using Nat.strongRecOn with | ind μ ih => ?_
      intro I L A x2 x3 H locs ls hi hz hl
      obtain ⟨C30, hCd⟩ : ∃ C : TI → TL → TA → Int32 → Int32 → Prop, C = fun I L A x2 x3 => ∃ μ', μ' < μ ∧ Inv μ' I L A x2 x3 := ⟨_, rfl⟩
      have hC30 : ∀ (I : TI) (L : TL) (A : TA) (x2 : Int32) (x3 : Int32) (H : Heap) (locs : List Loc) (ls : Array Slot), C30 I L A x2 x3 → SS K s I L A H locs → lv_has ls 6 [(0, .ref o0), (1, .int i1), (2, .int x2), (3, .int x3)] → W p (cxl K) e (headSpec wsX7_findThird (rmF 5 124)).room s m ([.ref o0, .int i1] : List Value).toArray below meth c H locs 0 0 (MQ below (cxQv K Q) ([.ref o0, .int i1] : List Value).toArray s 0 0 (PA (cxb K))) (F0 m 30 ls []) := by
        intro I L A x2 x3 H locs ls hc hz hl
        rw [hCd] at hc
        obtain ⟨μ', hlt, hc⟩ := hc
        exact ih μ' hlt I L A x2 x3 H locs ls hc hz hl
      have hwp := hst μ C30 (fun μ' I L A x2 x3 hlt hc => by rw [hCd]; exact ⟨μ', hlt, hc⟩) I L A x2 x3 hi
      refine lv_iload_n hx hb dX7_findThird_30 rfl (lv_at hl 3 rfl) ?_
      refine lv_iconst (v := 2) hx hb dX7_findThird_31 (by decide) ?_
      refine lv_aload_n hx hb dX7_findThird_32 rfl (lv_at hl 0 rfl) ?_
      obtain ⟨hs1, hwp⟩ := hwp
      refine sw_get (C := RX7) (T := TX7) (N := 25) (v := .int (I o0 16)) hx hb hts hw0 hown hK hz hs1 rfl 16 (by decide) hw1 (fun _ h9 => h9) rfl dX7_findThird_33 ?_
      refine lv_imul hx hb dX7_findThird_36 ?_
      refine lv_icmp_ge (tgt := 121) hx hb dX7_findThird_37 (by decide) (fun q => ?_) (fun q => ?_)
      · have hwp := hwp.1 q
        obtain ⟨v2, q_v2⟩ : ∃ y : Int32, y = x2 + 1 := ⟨_, rfl⟩
        have hwp := hwp v2 q_v2
        refine lv_iinc (v := v2) (lv' := [(2, .int v2), (0, .ref o0), (1, .int i1), (3, .int x3)]) hx hb dX7_findThird_121 hl (k := 2) rfl (by rw [q_v2]; rfl) (by decide) rfl (fun ls hl => ?_)
        refine lv_goto (tgt := 18) hx hb dX7_findThird_124 (by decide) ?_
        exact hC18 _ _ _ _ _ _ _ hwp hz (lv_sub hl [1, 2, 0] rfl)
      · have hwp := hwp.2 q
        refine lv_aload_n hx hb dX7_findThird_40 rfl (lv_at hl 0 rfl) ?_
        refine lv_iload_n hx hb dX7_findThird_41 rfl (lv_at hl 1 rfl) ?_
        obtain ⟨P3, hc4, hwp⟩ := hwp
        refine sw_calli hz (va_runV (As := [.int i1]) (rest := []) ⟨hx, hb, hml, hown, hts⟩ (hc4 hK _) (cwV 1 hts gX7_findThird_X7_degreeOf rfl rfl rfl (by decide +kernel) ⟨Nat.le_of_ble_eq_true rfl, Nat.le_of_ble_eq_true rfl⟩) (hz.preV hK hs1 rfl) rfl rfl hl.1 rfl (lv_room (Nat.le_of_ble_eq_true rfl)) dX7_findThird_42 ⟨Nat.le_of_ble_eq_true rfl, Nat.le_of_ble_eq_true rfl⟩) (fun r8 I5 L6 A7 H locs hp hz => ?_)
        have hwp := hwp r8 I5 L6 A7 hp
        refine lv_bipush (v := 6) hx hb dX7_findThird_45 (by decide) ?_
        refine lv_icmp_ne (tgt := 121) hx hb dX7_findThird_47 (by decide) (fun q => ?_) (fun q => ?_)
        · have hwp := hwp.2 q
          obtain ⟨v9, q_v9⟩ : ∃ y : Int32, y = x2 + 1 := ⟨_, rfl⟩
          have hwp := hwp v9 q_v9
          refine lv_iinc (v := v9) (lv' := [(2, .int v9), (0, .ref o0), (1, .int i1), (3, .int x3)]) hx hb dX7_findThird_121 hl (k := 2) rfl (by rw [q_v9]; rfl) (by decide) rfl (fun ls hl => ?_)
          refine lv_goto (tgt := 18) hx hb dX7_findThird_124 (by decide) ?_
          exact hC18 _ _ _ _ _ _ _ hwp hz (lv_sub hl [1, 2, 0] rfl)
        · have hwp := hwp.1 q
          refine lv_aload_n hx hb dX7_findThird_50 rfl (lv_at hl 0 rfl) ?_
          refine sw_get (C := RX7) (T := TX7) (N := 25) (v := .ref (o0 + 7)) hx hb hts hw0 hown hK hz hs1 rfl 13 (by decide) hw2 (fun _ h9 => h9) rfl dX7_findThird_51 ?_
          refine lv_sipush (v := 200) hx hb dX7_findThird_54 (by decide) ?_
          refine lv_iload_n hx hb dX7_findThird_57 rfl (lv_at hl 2 rfl) ?_
          refine lv_iconst (v := 2) hx hb dX7_findThird_58 (by decide) ?_
          refine lv_idiv hx hb dX7_findThird_59 (by decide) ?_
          refine lv_iadd hx hb dX7_findThird_60 ?_
          obtain ⟨ho10, hwp⟩ := hwp
          refine sw_iald hx hb hK hz ho10 dX7_findThird_61 ?_
          refine lv_iload_n hx hb dX7_findThird_62 rfl (lv_at hl 2 rfl) ?_
          obtain ⟨P11, hc12, hwp⟩ := hwp
          refine sw_calli hz (va_runS (As := [.int (I5 (o0 + 7) (ix (200 + (x2 / 2)))), .int x2]) (rest := []) ⟨hx, hb, hml, hown, hts⟩ (hc12 hK _) (va_cwS 2 hts gX7_findThird_X7_signed rfl rfl rfl (by decide +kernel) ⟨Nat.le_of_ble_eq_true rfl, Nat.le_of_ble_eq_true rfl⟩) hz.preS rfl rfl hl.1 rfl (lv_room (Nat.le_of_ble_eq_true rfl)) dX7_findThird_63 ⟨Nat.le_of_ble_eq_true rfl, Nat.le_of_ble_eq_true rfl⟩) (fun r16 I13 L14 A15 H locs hp hz => ?_)
          have hwp := hwp r16 I13 L14 A15 hp
          refine lv_istore (lv' := [(4, .int r16), (0, .ref o0), (1, .int i1), (2, .int x2), (3, .int x3)]) hx hb dX7_findThird_66 hl (by decide) rfl (fun ls hl => ?_)
          refine lv_aload_n hx hb dX7_findThird_68 rfl (lv_at hl 1 rfl) ?_
          refine sw_get (C := RX7) (T := TX7) (N := 25) (v := .ref (o0 + 7)) hx hb hts hw0 hown hK hz hs1 rfl 13 (by decide) hw2 (fun _ h9 => h9) rfl dX7_findThird_69 ?_
          refine lv_sipush (v := 400) hx hb dX7_findThird_72 (by decide) ?_
          refine lv_iload_n hx hb dX7_findThird_75 rfl (lv_at hl 4 rfl) ?_
          refine lv_iconst (v := 2) hx hb dX7_findThird_76 (by decide) ?_
          refine lv_idiv hx hb dX7_findThird_77 (by decide) ?_
          refine lv_iadd hx hb dX7_findThird_78 ?_
          obtain ⟨ho17, hwp⟩ := hwp
          refine sw_iald hx hb hK hz ho17 dX7_findThird_79 ?_
          refine lv_iload_n hx hb dX7_findThird_80 rfl (lv_at hl 4 rfl) ?_
          obtain ⟨P18, hc19, hwp⟩ := hwp
          refine sw_calli hz (va_runS (As := [.int (I13 (o0 + 7) (ix (400 + (x3 / 2)))), .int x3]) (rest := []) ⟨hx, hb, hml, hown, hts⟩ (hc19 hK _) (va_cwS 2 hts gX7_findThird_X7_signed rfl rfl rfl (by decide +kernel) ⟨Nat.le_of_ble_eq_true rfl, Nat.le_of_ble_eq_true rfl⟩) hz.preS rfl rfl hl.1 rfl (lv_room (Nat.le_of_ble_eq_true rfl)) dX7_findThird_81 ⟨Nat.le_of_ble_eq_true rfl, Nat.le_of_ble_eq_true rfl⟩) (fun r23 I20 L21 A22 H locs hp hz => ?_)
          have hwp := hwp r23 I20 L21 A22 hp
          refine lv_istore (lv' := [(5, .int r23), (4, .int r16), (0, .ref o0), (1, .int i1), (2, .int x2), (3, .int x3)]) hx hb dX7_findThird_84 hl (by decide) rfl (fun ls hl => ?_)
          refine lv_iload hx hb dX7_findThird_86 (lv_at hl 1 rfl) ?_
          refine lv_iload hx hb dX7_findThird_88 (lv_at hl 0 rfl) ?_
          refine lv_iadd hx hb dX7_findThird_90 ?_
          refine lv_iconst (v := 2) hx hb dX7_findThird_91 (by decide) ?_
          refine lv_irem hx hb dX7_findThird_92 (by decide) ?_
          refine lv_if_ne (tgt := 115) hx hb dX7_findThird_93 (by decide) (fun q => ?_) (fun q => ?_)
          · have hwp := hwp.2 q
            obtain ⟨v24, q_v24⟩ : ∃ y : Int32, y = x3 + 1 := ⟨_, rfl⟩
            have hwp := hwp v24 q_v24
            refine lv_iinc (v := v24) (lv' := [(3, .int v24), (5, .int r23), (4, .int r16), (0, .ref o0), (1, .int i1), (2, .int x2)]) hx hb dX7_findThird_115 hl (k := 5) rfl (by rw [q_v24]; rfl) (by decide) rfl (fun ls hl => ?_)
            refine lv_goto (tgt := 30) hx hb dX7_findThird_118 (by decide) ?_
            exact hC30 _ _ _ _ _ _ _ _ hwp hz (lv_sub hl [3, 4, 5, 0] rfl)
          · have hwp := hwp.1 q
            refine lv_aload_n hx hb dX7_findThird_96 rfl (lv_at hl 2 rfl) ?_
            refine lv_iload_n hx hb dX7_findThird_97 rfl (lv_at hl 3 rfl) ?_
            refine lv_iload hx hb dX7_findThird_98 (lv_at hl 1 rfl) ?_
            refine lv_iload hx hb dX7_findThird_100 (lv_at hl 0 rfl) ?_
            refine lv_iadd hx hb dX7_findThird_102 ?_
            refine lv_iconst (v := 2) hx hb dX7_findThird_103 (by decide) ?_
            refine lv_idiv hx hb dX7_findThird_104 (by decide) ?_
            refine lv_iload hx hb dX7_findThird_105 (lv_at hl 1 rfl) ?_
            refine lv_iload hx hb dX7_findThird_107 (lv_at hl 0 rfl) ?_
            refine lv_isub hx hb dX7_findThird_109 ?_
            refine lv_iconst (v := 2) hx hb dX7_findThird_110 (by decide) ?_
            refine lv_idiv hx hb dX7_findThird_111 (by decide) ?_
            obtain ⟨P25, hc26, hwp⟩ := hwp
            refine sw_callv hz (va_runV (As := [.int i1, .int ((r16 + r23) / 2), .int ((r16 - r23) / 2)]) (rest := []) ⟨hx, hb, hml, hown, hts⟩ (hc26 hK _) (cwV 3 hts gX7_findThird_X7_tryThird rfl rfl rfl (by decide +kernel) ⟨Nat.le_of_ble_eq_true rfl, Nat.le_of_ble_eq_true rfl⟩) (hz.preV hK hs1 rfl) rfl rfl hl.1 rfl (lv_room (Nat.le_of_ble_eq_true rfl)) dX7_findThird_112 ⟨Nat.le_of_ble_eq_true rfl, Nat.le_of_ble_eq_true rfl⟩) (fun I27 L28 A29 H locs hp hz => ?_)
            have hwp := hwp I27 L28 A29 hp
            obtain ⟨v30, q_v30⟩ : ∃ y : Int32, y = x3 + 1 := ⟨_, rfl⟩
            have hwp := hwp v30 q_v30
            refine lv_iinc (v := v30) (lv' := [(3, .int v30), (5, .int r23), (4, .int r16), (0, .ref o0), (1, .int i1), (2, .int x2)]) hx hb dX7_findThird_115 hl (k := 5) rfl (by rw [q_v30]; rfl) (by decide) rfl (fun ls hl => ?_)
            refine lv_goto (tgt := 30) hx hb dX7_findThird_118 (by decide) ?_
            exact hC30 _ _ _ _ _ _ _ _ hwp hz (lv_sub hl [3, 4, 5, 0] rfl)
    exact key μ I L A x2 x3 H locs ls hi hz hl
  have wL18 : ∀ (I : TI) (L : TL) (A : TA) (x2 : Int32) (H : Heap) (locs : List Loc) (ls : Array Slot), wp_X7_findThird_18 K o0 i1 I L A x2 Q → SS K s I L A H locs → lv_has ls 6 [(0, .ref o0), (1, .int i1), (2, .int x2)] → W p (cxl K) e (headSpec wsX7_findThird (rmF 5 124)).room s m ([.ref o0, .int i1] : List Value).toArray below meth c H locs 0 0 (MQ below (cxQv K Q) ([.ref o0, .int i1] : List Value).toArray s 0 0 (PA (cxb K))) (F0 m 18 ls []) := by
    intro I L A x2 H locs ls hwp hz hl
    obtain ⟨Inv, μ, hi, hst⟩ := hwp
    have key : ∀ (μ : Nat) (I : TI) (L : TL) (A : TA) (x2 : Int32) (H : Heap) (locs : List Loc) (ls : Array Slot), Inv μ I L A x2 → SS K s I L A H locs → lv_has ls 6 [(0, .ref o0), (1, .int i1), (2, .int x2)] → W p (cxl K) e (headSpec wsX7_findThird (rmF 5 124)).room s m ([.ref o0, .int i1] : List Value).toArray below meth c H locs 0 0 (MQ below (cxQv K Q) ([.ref o0, .int i1] : List Value).toArray s 0 0 (PA (cxb K))) (F0 m 18 ls []) := by
      clear hi hz hl
      intro μ
      induction μ using Nat.strongRecOn with | ind μ ih => ?_
      intro I L A x2 H locs ls hi hz hl
      obtain ⟨C18, hCd⟩ : ∃ C : TI → TL → TA → Int32 → Prop, C = fun I L A x2 => ∃ μ', μ' < μ ∧ Inv μ' I L A x2 := ⟨_, rfl⟩
      have hC18 : ∀ (I : TI) (L : TL) (A : TA) (x2 : Int32) (H : Heap) (locs : List Loc) (ls : Array Slot), C18 I L A x2 → SS K s I L A H locs → lv_has ls 6 [(0, .ref o0), (1, .int i1), (2, .int x2)] → W p (cxl K) e (headSpec wsX7_findThird (rmF 5 124)).room s m ([.ref o0, .int i1] : List Value).toArray below meth c H locs 0 0 (MQ below (cxQv K Q) ([.ref o0, .int i1] : List Value).toArray s 0 0 (PA (cxb K))) (F0 m 18 ls []) := by
        intro I L A x2 H locs ls hc hz hl
        rw [hCd] at hc
        obtain ⟨μ', hlt, hc⟩ := hc
        exact ih μ' hlt I L A x2 H locs ls hc hz hl
      have hwp := hst μ C18 (fun μ' I L A x2 hlt hc => by rw [hCd]; exact ⟨μ', hlt, hc⟩) I L A x2 hi
      refine lv_iload_n hx hb dX7_findThird_18 rfl (lv_at hl 2 rfl) ?_
      refine lv_iconst (v := 2) hx hb dX7_findThird_19 (by decide) ?_
      refine lv_aload_n hx hb dX7_findThird_20 rfl (lv_at hl 0 rfl) ?_
      obtain ⟨hs31, hwp⟩ := hwp
      refine sw_get (C := RX7) (T := TX7) (N := 25) (v := .int (I o0 15)) hx hb hts hw0 hown hK hz hs31 rfl 15 (by decide) hw3 (fun _ h9 => h9) rfl dX7_findThird_21 ?_
      refine lv_imul hx hb dX7_findThird_24 ?_
      refine lv_icmp_ge (tgt := 127) hx hb dX7_findThird_25 (by decide) (fun q => ?_) (fun q => ?_)
      · have hwp := hwp.1 q
        exact sw_vret hx hb hret hlocks hz hwp dX7_findThird_127
      · have hwp := hwp.2 q
        refine lv_iconst (v := 0) hx hb dX7_findThird_28 (by decide) ?_
        refine lv_istore_n (lv' := [(3, .int 0), (0, .ref o0), (1, .int i1), (2, .int x2)]) hx hb dX7_findThird_29 rfl hl (by decide) rfl (fun ls hl => ?_)
        exact wL30 _ hC18 _ _ _ _ _ _ _ _ hwp hz (lv_sub hl [1, 2, 3, 0] rfl)
    exact key μ I L A x2 H locs ls hi hz hl
  refine lv_aload_n hx hb dX7_findThird_0 rfl (lv_at hl 0 rfl) ?_
  refine lv_iload_n hx hb dX7_findThird_1 rfl (lv_at hl 1 rfl) ?_
  obtain ⟨hs32, hwp⟩ := hwp
  obtain ⟨P33, hc34, hwp⟩ := hwp
  refine sw_calli hz (va_runV (As := [.int i1]) (rest := []) ⟨hx, hb, hml, hown, hts⟩ (hc34 hK _) (cwV 1 hts gX7_findThird_X7_degreeOf rfl rfl rfl (by decide +kernel) ⟨Nat.le_of_ble_eq_true rfl, Nat.le_of_ble_eq_true rfl⟩) (hz.preV hK hs32 rfl) rfl rfl hl.1 rfl (lv_room (Nat.le_of_ble_eq_true rfl)) dX7_findThird_2 ⟨Nat.le_of_ble_eq_true rfl, Nat.le_of_ble_eq_true rfl⟩) (fun r38 I35 L36 A37 H locs hp hz => ?_)
  have hwp := hwp r38 I35 L36 A37 hp
  refine lv_bipush (v := 6) hx hb dX7_findThird_5 (by decide) ?_
  refine lv_icmp_eq (tgt := 11) hx hb dX7_findThird_7 (by decide) (fun q => ?_) (fun q => ?_)
  · have hwp := hwp.1 q
    refine lv_aload_n hx hb dX7_findThird_11 rfl (lv_at hl 0 rfl) ?_
    refine lv_iload_n hx hb dX7_findThird_12 rfl (lv_at hl 1 rfl) ?_
    obtain ⟨P39, hc40, hwp⟩ := hwp
    refine sw_callv hz (va_runV (As := [.int i1]) (rest := []) ⟨hx, hb, hml, hown, hts⟩ (hc40 hK _) (cwV 1 hts gX7_findThird_X7_prepare rfl rfl rfl (by decide +kernel) ⟨Nat.le_of_ble_eq_true rfl, Nat.le_of_ble_eq_true rfl⟩) (hz.preV hK hs32 rfl) rfl rfl hl.1 rfl (lv_room (Nat.le_of_ble_eq_true rfl)) dX7_findThird_13 ⟨Nat.le_of_ble_eq_true rfl, Nat.le_of_ble_eq_true rfl⟩) (fun I41 L42 A43 H locs hp hz => ?_)
    have hwp := hwp I41 L42 A43 hp
    refine lv_iconst (v := 0) hx hb dX7_findThird_16 (by decide) ?_
    refine lv_istore_n (lv' := [(2, .int 0), (0, .ref o0), (1, .int i1)]) hx hb dX7_findThird_17 rfl hl (by decide) rfl (fun ls hl => ?_)
    exact wL18 _ _ _ _ _ _ _ hwp hz (lv_sub hl [1, 2, 0] rfl)
  · have hwp := hwp.2 q
    exact sw_vret hx hb hret hlocks hz hwp dX7_findThird_10

def wp_X7_isBefore_33 (K : Cx) (o0 : Nat) (i1 : Int32) (i2 : Int32) (I : TI) (L : TL) (A : TA) (x4 : Int32) (Q : Int32 → TI → TL → TA → Prop) : Prop := ∃ (Inv : Nat → TI → TL → TA → Int32 → Prop) (μ : Nat), Inv μ I L A x4 ∧ ∀ (μ : Nat) (C33 : TI → TL → TA → Int32 → Prop), (∀ (μ' : Nat) (I : TI) (L : TL) (A : TA) (x4 : Int32) , μ' < μ → Inv μ' I L A x4 → C33 I L A x4) → ∀ (I : TI) (L : TL) (A : TA) (x4 : Int32) , Inv μ I L A x4 → ((x4 < 0 → Q 0 I L A) ∧ (¬ x4 < 0 → cxS K o0 = shX7 o0 ∧ aok (cxS K) (o0 + 1) 1 ((8 * i1) + x4) ∧ aok (cxS K) (o0 + 1) 1 ((8 * i2) + x4) ∧ (((L (o0 + 1) (ix ((8 * i1) + x4))) = (L (o0 + 1) (ix ((8 * i2) + x4))) → ∀ v4 : Int32, v4 = x4 + (-1) → C33 I L A v4) ∧ (¬ (L (o0 + 1) (ix ((8 * i1) + x4))) = (L (o0 + 1) (ix ((8 * i2) + x4))) → aok (cxS K) (o0 + 1) 1 ((8 * i1) + x4) ∧ aok (cxS K) (o0 + 1) 1 ((8 * i2) + x4) ∧ (((L (o0 + 1) (ix ((8 * i2) + x4))) ≤ (L (o0 + 1) (ix ((8 * i1) + x4))) → Q 0 I L A) ∧ (¬ (L (o0 + 1) (ix ((8 * i2) + x4))) ≤ (L (o0 + 1) (ix ((8 * i1) + x4))) → Q 1 I L A))))))
def wp_X7_isBefore (K : Cx) (I : TI) (L : TL) (A : TA) (o0 : Nat) (i1 : Int32) (i2 : Int32) (Q : Int32 → TI → TL → TA → Prop) : Prop := cxS K o0 = shX7 o0 ∧ ∃ P8 : Int32 → TI → TL → TA → Prop, ConI K yX7_degreeOf wsX7_degreeOf 0 0 I L A [.ref o0, .int i1] P8 ∧ ∀ (r13 : Int32) (I10 : TI) (L11 : TL) (A12 : TA), P8 r13 I10 L11 A12 → ∃ P14 : Int32 → TI → TL → TA → Prop, ConI K yX7_degreeOf wsX7_degreeOf 0 0 I10 L11 A12 [.ref o0, .int i2] P14 ∧ ∀ (r19 : Int32) (I16 : TI) (L17 : TL) (A18 : TA), P14 r19 I16 L17 A18 → ((r13 = r19 → wp_X7_isBefore_33 K o0 i1 i2 I16 L17 A18 r13 Q) ∧ (¬ r13 = r19 → ∃ P20 : Int32 → TI → TL → TA → Prop, ConI K yX7_degreeOf wsX7_degreeOf 0 0 I16 L17 A18 [.ref o0, .int i2] P20 ∧ ∀ (r25 : Int32) (I22 : TI) (L23 : TL) (A24 : TA), P20 r25 I22 L23 A24 → ((r25 ≤ r13 → Q 0 I22 L23 A24) ∧ (¬ r25 ≤ r13 → Q 1 I22 L23 A24))))
set_option maxHeartbeats 1000000 in
set_option maxRecDepth 100000 in
theorem w_X7_isBefore (K : Cx) (I : TI) (L : TL) (A : TA) (o0 : Nat) (i1 : Int32) (i2 : Int32) (Q : Int32 → TI → TL → TA → Prop) (hwp : wp_X7_isBefore K I L A o0 i1 i2 Q) : ConI K yX7_isBefore wsX7_isBefore 1 22 I L A [.ref o0, .int i1, .int i2] Q := by
  intro hK sz
  refine Met.ofW (cc := cX7_isBefore) (maxL := 5) (ret := (some .boolean)) (by decide) rfl ?_
  intro p e s m args below meth c s₁ B hml hv
  obtain ⟨rfl, hsz, hB⟩ := hv
  have hx := B.exec
  have hb := B.bytes
  have hret := B.returns
  have hts := atoms_spec (ws := wsX7_isBefore) B.pre
  have hown : s.vm.findClass RX7 = some m.cls := findClass_of_methodNamed B.named
  have hlocks := B.notSynchronized
  subst hsz
  have hz : SS K s I L A s.heap [] := PS.start hB
  have hl := lv_entry ([.ref o0, .int i1, .int i2]) (n := 5) (Nat.le_of_ble_eq_true rfl)
  rw [lg_entry_eq]
  generalize (lg_sl ([.ref o0, .int i1, .int i2]) ++ List.replicate (5 - (lg_sl ([.ref o0, .int i1, .int i2])).length) Slot.unset).toArray = ls at hl ⊢
  have hl : lv_has ls 5 [(0, .ref o0), (1, .int i1), (2, .int i2)] := hl
  have hw0 : ∀ w ∈ u_ws RX7 TX7 25, w ∈ wsX7_isBefore := by decide +kernel
  have hw1 := hts (.fieldLink RX7 7 "GaloisDeskModel" "row" "[J") (by decide +kernel)
  clear hB B
  have wL33 : ∀ (I : TI) (L : TL) (A : TA) (x4 : Int32) (H : Heap) (locs : List Loc) (ls : Array Slot), wp_X7_isBefore_33 K o0 i1 i2 I L A x4 Q → SS K s I L A H locs → lv_has ls 5 [(0, .ref o0), (1, .int i1), (2, .int i2), (4, .int x4)] → W p (cxl K) e (headSpec wsX7_isBefore (rmF 1 22)).room s m ([.ref o0, .int i1, .int i2] : List Value).toArray below meth c H locs 0 0 (MQ below (cxQi K Q) ([.ref o0, .int i1, .int i2] : List Value).toArray s 0 0 (PA (cxb K))) (F0 m 33 ls []) := by
    intro I L A x4 H locs ls hwp hz hl
    obtain ⟨Inv, μ, hi, hst⟩ := hwp
    have key : ∀ (μ : Nat) (I : TI) (L : TL) (A : TA) (x4 : Int32) (H : Heap) (locs : List Loc) (ls : Array Slot), Inv μ I L A x4 → SS K s I L A H locs → lv_has ls 5 [(0, .ref o0), (1, .int i1), (2, .int i2), (4, .int x4)] → W p (cxl K) e (headSpec wsX7_isBefore (rmF 1 22)).room s m ([.ref o0, .int i1, .int i2] : List Value).toArray below meth c H locs 0 0 (MQ below (cxQi K Q) ([.ref o0, .int i1, .int i2] : List Value).toArray s 0 0 (PA (cxb K))) (F0 m 33 ls []) := by
      clear hi hz hl
      intro μ
      induction μ using Nat.strongRecOn with | ind μ ih => ?_
      intro I L A x4 H locs ls hi hz hl
      obtain ⟨C33, hCd⟩ : ∃ C : TI → TL → TA → Int32 → Prop, C = fun I L A x4 => ∃ μ', μ' < μ ∧ Inv μ' I L A x4 := ⟨_, rfl⟩
      have hC33 : ∀ (I : TI) (L : TL) (A : TA) (x4 : Int32) (H : Heap) (locs : List Loc) (ls : Array Slot), C33 I L A x4 → SS K s I L A H locs → lv_has ls 5 [(0, .ref o0), (1, .int i1), (2, .int i2), (4, .int x4)] → W p (cxl K) e (headSpec wsX7_isBefore (rmF 1 22)).room s m ([.ref o0, .int i1, .int i2] : List Value).toArray below meth c H locs 0 0 (MQ below (cxQi K Q) ([.ref o0, .int i1, .int i2] : List Value).toArray s 0 0 (PA (cxb K))) (F0 m 33 ls []) := by
        intro I L A x4 H locs ls hc hz hl
        rw [hCd] at hc
        obtain ⟨μ', hlt, hc⟩ := hc
        exact ih μ' hlt I L A x4 H locs ls hc hz hl
      have hwp := hst μ C33 (fun μ' I L A x4 hlt hc => by rw [hCd]; exact ⟨μ', hlt, hc⟩) I L A x4 hi
      refine lv_iload hx hb dX7_isBefore_33 (lv_at hl 3 rfl) ?_
      refine lv_if_lt (tgt := 106) hx hb dX7_isBefore_35 (by decide) (fun q => ?_) (fun q => ?_)
      · have hwp := hwp.1 q
        refine lv_iconst (v := 0) hx hb dX7_isBefore_106 (by decide) ?_
        exact sw_zret hx hb hret hlocks hz (Or.inl rfl) hwp dX7_isBefore_107
      · have hwp := hwp.2 q
        refine lv_aload_n hx hb dX7_isBefore_38 rfl (lv_at hl 0 rfl) ?_
        obtain ⟨hs1, hwp⟩ := hwp
        refine sw_get (C := RX7) (T := TX7) (N := 25) (v := .ref (o0 + 1)) hx hb hts hw0 hown hK hz hs1 rfl 1 (by decide) hw1 (fun _ h9 => h9) rfl dX7_isBefore_39 ?_
        refine lv_bipush (v := 8) hx hb dX7_isBefore_42 (by decide) ?_
        refine lv_iload_n hx hb dX7_isBefore_44 rfl (lv_at hl 1 rfl) ?_
        refine lv_imul hx hb dX7_isBefore_45 ?_
        refine lv_iload hx hb dX7_isBefore_46 (lv_at hl 3 rfl) ?_
        refine lv_iadd hx hb dX7_isBefore_48 ?_
        obtain ⟨ho2, hwp⟩ := hwp
        refine sw_lald hx hb hK hz ho2 dX7_isBefore_49 ?_
        refine lv_aload_n hx hb dX7_isBefore_50 rfl (lv_at hl 0 rfl) ?_
        refine sw_get (C := RX7) (T := TX7) (N := 25) (v := .ref (o0 + 1)) hx hb hts hw0 hown hK hz hs1 rfl 1 (by decide) hw1 (fun _ h9 => h9) rfl dX7_isBefore_51 ?_
        refine lv_bipush (v := 8) hx hb dX7_isBefore_54 (by decide) ?_
        refine lv_iload_n hx hb dX7_isBefore_56 rfl (lv_at hl 2 rfl) ?_
        refine lv_imul hx hb dX7_isBefore_57 ?_
        refine lv_iload hx hb dX7_isBefore_58 (lv_at hl 3 rfl) ?_
        refine lv_iadd hx hb dX7_isBefore_60 ?_
        obtain ⟨ho3, hwp⟩ := hwp
        refine sw_lald hx hb hK hz ho3 dX7_isBefore_61 ?_
        refine W.lcmp hx hb dX7_isBefore_62 ?_
        refine W.eq (g2 := F0 m 63 ls [.int (lg_cmp (L (o0 + 1) (ix ((8 * i1) + x4))) (L (o0 + 1) (ix ((8 * i2) + x4))))]) rfl ?_
        refine lv_if_eq (tgt := 100) hx hb dX7_isBefore_63 (by decide) (fun q => ?_) (fun q => ?_)
        · have hwp := hwp.1 ((lg_cmp_eq _ _).mp q)
          obtain ⟨v4, q_v4⟩ : ∃ y : Int32, y = x4 + (-1) := ⟨_, rfl⟩
          have hwp := hwp v4 q_v4
          refine lv_iinc (v := v4) (lv' := [(4, .int v4), (0, .ref o0), (1, .int i1), (2, .int i2)]) hx hb dX7_isBefore_100 hl (k := 3) rfl (by rw [q_v4]; rfl) (by decide) rfl (fun ls hl => ?_)
          refine lv_goto (tgt := 33) hx hb dX7_isBefore_103 (by decide) ?_
          exact hC33 _ _ _ _ _ _ _ hwp hz (lv_sub hl [1, 2, 3, 0] rfl)
        · have hwp := hwp.2 (fun h => q ((lg_cmp_eq _ _).mpr h))
          refine lv_aload_n hx hb dX7_isBefore_66 rfl (lv_at hl 0 rfl) ?_
          refine sw_get (C := RX7) (T := TX7) (N := 25) (v := .ref (o0 + 1)) hx hb hts hw0 hown hK hz hs1 rfl 1 (by decide) hw1 (fun _ h9 => h9) rfl dX7_isBefore_67 ?_
          refine lv_bipush (v := 8) hx hb dX7_isBefore_70 (by decide) ?_
          refine lv_iload_n hx hb dX7_isBefore_72 rfl (lv_at hl 1 rfl) ?_
          refine lv_imul hx hb dX7_isBefore_73 ?_
          refine lv_iload hx hb dX7_isBefore_74 (lv_at hl 3 rfl) ?_
          refine lv_iadd hx hb dX7_isBefore_76 ?_
          obtain ⟨ho5, hwp⟩ := hwp
          refine sw_lald hx hb hK hz ho5 dX7_isBefore_77 ?_
          refine lv_aload_n hx hb dX7_isBefore_78 rfl (lv_at hl 0 rfl) ?_
          refine sw_get (C := RX7) (T := TX7) (N := 25) (v := .ref (o0 + 1)) hx hb hts hw0 hown hK hz hs1 rfl 1 (by decide) hw1 (fun _ h9 => h9) rfl dX7_isBefore_79 ?_
          refine lv_bipush (v := 8) hx hb dX7_isBefore_82 (by decide) ?_
          refine lv_iload_n hx hb dX7_isBefore_84 rfl (lv_at hl 2 rfl) ?_
          refine lv_imul hx hb dX7_isBefore_85 ?_
          refine lv_iload hx hb dX7_isBefore_86 (lv_at hl 3 rfl) ?_
          refine lv_iadd hx hb dX7_isBefore_88 ?_
          obtain ⟨ho6, hwp⟩ := hwp
          refine sw_lald hx hb hK hz ho6 dX7_isBefore_89 ?_
          refine W.lcmp hx hb dX7_isBefore_90 ?_
          refine W.eq (g2 := F0 m 91 ls [.int (lg_cmp (L (o0 + 1) (ix ((8 * i1) + x4))) (L (o0 + 1) (ix ((8 * i2) + x4))))]) rfl ?_
          refine lv_if_ge (tgt := 98) hx hb dX7_isBefore_91 (by decide) (fun q => ?_) (fun q => ?_)
          · have hwp := hwp.1 ((lg_cmp_ge _ _).mp q)
            refine lv_iconst (v := 0) hx hb dX7_isBefore_98 (by decide) ?_
            exact sw_zret hx hb hret hlocks hz (Or.inl rfl) hwp dX7_isBefore_99
          · have hwp := hwp.2 (fun h => q ((lg_cmp_ge _ _).mpr h))
            refine lv_iconst (v := 1) hx hb dX7_isBefore_94 (by decide) ?_
            refine lv_goto (tgt := 99) hx hb dX7_isBefore_95 (by decide) ?_
            exact sw_zret hx hb hret hlocks hz (Or.inr rfl) hwp dX7_isBefore_99
    exact key μ I L A x4 H locs ls hi hz hl
  refine lv_aload_n hx hb dX7_isBefore_0 rfl (lv_at hl 0 rfl) ?_
  refine lv_iload_n hx hb dX7_isBefore_1 rfl (lv_at hl 1 rfl) ?_
  obtain ⟨hs7, hwp⟩ := hwp
  obtain ⟨P8, hc9, hwp⟩ := hwp
  refine sw_calli hz (va_runV (As := [.int i1]) (rest := []) ⟨hx, hb, hml, hown, hts⟩ (hc9 hK _) (cwV 1 hts gX7_isBefore_X7_degreeOf rfl rfl rfl (by decide +kernel) ⟨Nat.le_of_ble_eq_true rfl, Nat.le_of_ble_eq_true rfl⟩) (hz.preV hK hs7 rfl) rfl rfl hl.1 rfl (lv_room (Nat.le_of_ble_eq_true rfl)) dX7_isBefore_2 ⟨Nat.le_of_ble_eq_true rfl, Nat.le_of_ble_eq_true rfl⟩) (fun r13 I10 L11 A12 H locs hp hz => ?_)
  have hwp := hwp r13 I10 L11 A12 hp
  refine lv_istore_n (lv' := [(3, .int r13), (0, .ref o0), (1, .int i1), (2, .int i2)]) hx hb dX7_isBefore_5 rfl hl (by decide) rfl (fun ls hl => ?_)
  refine lv_iload_n hx hb dX7_isBefore_6 rfl (lv_at hl 0 rfl) ?_
  refine lv_aload_n hx hb dX7_isBefore_7 rfl (lv_at hl 1 rfl) ?_
  refine lv_iload_n hx hb dX7_isBefore_8 rfl (lv_at hl 3 rfl) ?_
  obtain ⟨P14, hc15, hwp⟩ := hwp
  refine sw_calli hz (va_runV (As := [.int i2]) (rest := [.int r13]) ⟨hx, hb, hml, hown, hts⟩ (hc15 hK _) (cwV 1 hts gX7_isBefore_X7_degreeOf rfl rfl rfl (by decide +kernel) ⟨Nat.le_of_ble_eq_true rfl, Nat.le_of_ble_eq_true rfl⟩) (hz.preV hK hs7 rfl) rfl rfl hl.1 rfl (lv_room (Nat.le_of_ble_eq_true rfl)) dX7_isBefore_9 ⟨Nat.le_of_ble_eq_true rfl, Nat.le_of_ble_eq_true rfl⟩) (fun r19 I16 L17 A18 H locs hp hz => ?_)
  have hwp := hwp r19 I16 L17 A18 hp
  refine lv_icmp_eq (tgt := 30) hx hb dX7_isBefore_12 (by decide) (fun q => ?_) (fun q => ?_)
  · have hwp := hwp.1 q
    refine lv_iload_n hx hb dX7_isBefore_30 rfl (lv_at hl 0 rfl) ?_
    refine lv_istore (lv' := [(4, .int r13), (3, .int r13), (0, .ref o0), (1, .int i1), (2, .int i2)]) hx hb dX7_isBefore_31 hl (by decide) rfl (fun ls hl => ?_)
    exact wL33 _ _ _ _ _ _ _ hwp hz (lv_sub hl [2, 3, 4, 0] rfl)
  · have hwp := hwp.2 q
    refine lv_iload_n hx hb dX7_isBefore_15 rfl (lv_at hl 0 rfl) ?_
    refine lv_aload_n hx hb dX7_isBefore_16 rfl (lv_at hl 1 rfl) ?_
    refine lv_iload_n hx hb dX7_isBefore_17 rfl (lv_at hl 3 rfl) ?_
    obtain ⟨P20, hc21, hwp⟩ := hwp
    refine sw_calli hz (va_runV (As := [.int i2]) (rest := [.int r13]) ⟨hx, hb, hml, hown, hts⟩ (hc21 hK _) (cwV 1 hts gX7_isBefore_X7_degreeOf rfl rfl rfl (by decide +kernel) ⟨Nat.le_of_ble_eq_true rfl, Nat.le_of_ble_eq_true rfl⟩) (hz.preV hK hs7 rfl) rfl rfl hl.1 rfl (lv_room (Nat.le_of_ble_eq_true rfl)) dX7_isBefore_18 ⟨Nat.le_of_ble_eq_true rfl, Nat.le_of_ble_eq_true rfl⟩) (fun r25 I22 L23 A24 H locs hp hz => ?_)
    have hwp := hwp r25 I22 L23 A24 hp
    refine lv_icmp_ge (tgt := 28) hx hb dX7_isBefore_21 (by decide) (fun q => ?_) (fun q => ?_)
    · have hwp := hwp.1 q
      refine lv_iconst (v := 0) hx hb dX7_isBefore_28 (by decide) ?_
      exact sw_zret hx hb hret hlocks hz (Or.inl rfl) hwp dX7_isBefore_29
    · have hwp := hwp.2 q
      refine lv_iconst (v := 1) hx hb dX7_isBefore_24 (by decide) ?_
      refine lv_goto (tgt := 29) hx hb dX7_isBefore_25 (by decide) ?_
      exact sw_zret hx hb hret hlocks hz (Or.inr rfl) hwp dX7_isBefore_29

def wp_X7_sort_12 (K : Cx) (o0 : Nat) (C2 : TI → TL → TA → Int32 → Prop) (I : TI) (L : TL) (A : TA) (x1 : Int32) (x2 : Int32) (Q : TI → TL → TA → Prop) : Prop := ∃ (Inv : Nat → TI → TL → TA → Int32 → Int32 → Prop) (μ : Nat), Inv μ I L A x1 x2 ∧ ∀ (μ : Nat) (C12 : TI → TL → TA → Int32 → Int32 → Prop), (∀ (μ' : Nat) (I : TI) (L : TL) (A : TA) (x1 : Int32) (x2 : Int32) , μ' < μ → Inv μ' I L A x1 x2 → C12 I L A x1 x2) → ∀ (I : TI) (L : TL) (A : TA) (x1 : Int32) (x2 : Int32) , Inv μ I L A x1 x2 → ((x2 ≤ 0 → ∀ v1 : Int32, v1 = x1 + 1 → C2 I L A v1) ∧ (¬ x2 ≤ 0 → cxS K o0 = shX7 o0 ∧ ∃ P3 : Int32 → TI → TL → TA → Prop, ConI K yX7_isBefore wsX7_isBefore 1 22 I L A [.ref o0, .int (12 + x2), .int ((12 + x2) - 1)] P3 ∧ ∀ (r8 : Int32) (I5 : TI) (L6 : TL) (A7 : TA), P3 r8 I5 L6 A7 → ((r8 = 0 → ∀ v9 : Int32, v9 = x1 + 1 → C2 I5 L6 A7 v9) ∧ (¬ r8 = 0 → ∃ P10 : TI → TL → TA → Prop, ConV K yX7_copy wsX7_copy 0 0 I5 L6 A7 [.ref o0, .int 10, .int (12 + x2)] P10 ∧ ∀ (I12 : TI) (L13 : TL) (A14 : TA), P10 I12 L13 A14 → ∃ P15 : TI → TL → TA → Prop, ConV K yX7_copy wsX7_copy 0 0 I12 L13 A14 [.ref o0, .int (12 + x2), .int ((12 + x2) - 1)] P15 ∧ ∀ (I17 : TI) (L18 : TL) (A19 : TA), P15 I17 L18 A19 → ∃ P20 : TI → TL → TA → Prop, ConV K yX7_copy wsX7_copy 0 0 I17 L18 A19 [.ref o0, .int ((12 + x2) - 1), .int 10] P20 ∧ ∀ (I22 : TI) (L23 : TL) (A24 : TA), P20 I22 L23 A24 → aok (cxS K) (o0 + 2) 0 x2 ∧ ∀ v26 : Int32, v26 = (I22 (o0 + 2) (ix x2)) → aok (cxS K) (o0 + 2) 0 (x2 - 1) ∧ aok (cxS K) (o0 + 2) 0 x2 ∧ ∀ I29 : TI, I29 = u2 I22 (o0 + 2) (ix x2) (I22 (o0 + 2) (ix (x2 - 1))) → aok (cxS K) (o0 + 2) 0 (x2 - 1) ∧ ∀ I31 : TI, I31 = u2 I29 (o0 + 2) (ix (x2 - 1)) v26 → ∀ v32 : Int32, v32 = x2 + (-1) → C12 I31 L23 A24 x1 v32))))
def wp_X7_sort_2 (K : Cx) (o0 : Nat) (I : TI) (L : TL) (A : TA) (x1 : Int32) (Q : TI → TL → TA → Prop) : Prop := ∃ (Inv : Nat → TI → TL → TA → Int32 → Prop) (μ : Nat), Inv μ I L A x1 ∧ ∀ (μ : Nat) (C2 : TI → TL → TA → Int32 → Prop), (∀ (μ' : Nat) (I : TI) (L : TL) (A : TA) (x1 : Int32) , μ' < μ → Inv μ' I L A x1 → C2 I L A x1) → ∀ (I : TI) (L : TL) (A : TA) (x1 : Int32) , Inv μ I L A x1 → cxS K o0 = shX7 o0 ∧ (((I o0 2) ≤ x1 → Q I L A) ∧ (¬ (I o0 2) ≤ x1 → wp_X7_sort_12 K o0 C2 I L A x1 x1 Q))
def wp_X7_sort (K : Cx) (I : TI) (L : TL) (A : TA) (o0 : Nat) (Q : TI → TL → TA → Prop) : Prop := wp_X7_sort_2 K o0 I L A 1 Q
set_option maxHeartbeats 1000000 in
set_option maxRecDepth 100000 in
theorem w_X7_sort (K : Cx) (I : TI) (L : TL) (A : TA) (o0 : Nat) (Q : TI → TL → TA → Prop) (hwp : wp_X7_sort K I L A o0 Q) : ConV K yX7_sort wsX7_sort 2 46 I L A [.ref o0] Q := by
  intro hK sz
  refine Met.ofW (cc := cX7_sort) (maxL := 4) (ret := none) (by decide) rfl ?_
  intro p e s m args below meth c s₁ B hml hv
  obtain ⟨rfl, hsz, hB⟩ := hv
  have hx := B.exec
  have hb := B.bytes
  have hret := B.returns
  have hts := atoms_spec (ws := wsX7_sort) B.pre
  have hown : s.vm.findClass RX7 = some m.cls := findClass_of_methodNamed B.named
  have hlocks := B.notSynchronized
  subst hsz
  have hz : SS K s I L A s.heap [] := PS.start hB
  have hl := lv_entry ([.ref o0]) (n := 4) (Nat.le_of_ble_eq_true rfl)
  rw [lg_entry_eq]
  generalize (lg_sl ([.ref o0]) ++ List.replicate (4 - (lg_sl ([.ref o0])).length) Slot.unset).toArray = ls at hl ⊢
  have hl : lv_has ls 4 [(0, .ref o0)] := hl
  have hw0 : ∀ w ∈ u_ws RX7 TX7 25, w ∈ wsX7_sort := by decide +kernel
  have hw1 := hts (.fieldLink RX7 13 "GaloisDeskModel" "often" "[I") (by decide +kernel)
  have hw2 := hts (.fieldLink RX7 83 "GaloisDeskModel" "many" "I") (by decide +kernel)
  clear hB B
  have wL12 : ∀ (C2 : TI → TL → TA → Int32 → Prop) (hC2 : ∀ (I : TI) (L : TL) (A : TA) (x1 : Int32) (H : Heap) (locs : List Loc) (ls : Array Slot), C2 I L A x1 → SS K s I L A H locs → lv_has ls 4 [(0, .ref o0), (1, .int x1)] → W p (cxl K) e (headSpec wsX7_sort (rmF 2 46)).room s m ([.ref o0] : List Value).toArray below meth c H locs 0 0 (MQ below (cxQv K Q) ([.ref o0] : List Value).toArray s 0 0 (PA (cxb K))) (F0 m 2 ls [])) (I : TI) (L : TL) (A : TA) (x1 : Int32) (x2 : Int32) (H : Heap) (locs : List Loc) (ls : Array Slot), wp_X7_sort_12 K o0 C2 I L A x1 x2 Q → SS K s I L A H locs → lv_has ls 4 [(0, .ref o0), (1, .int x1), (2, .int x2)] → W p (cxl K) e (headSpec wsX7_sort (rmF 2 46)).room s m ([.ref o0] : List Value).toArray below meth c H locs 0 0 (MQ below (cxQv K Q) ([.ref o0] : List Value).toArray s 0 0 (PA (cxb K))) (F0 m 12 ls []) := by
    intro C2 hC2 I L A x1 x2 H locs ls hwp hz hl
    obtain ⟨Inv, μ, hi, hst⟩ := hwp
    have key : ∀ (μ : Nat) (I : TI) (L : TL) (A : TA) (x1 : Int32) (x2 : Int32) (H : Heap) (locs : List Loc) (ls : Array Slot), Inv μ I L A x1 x2 → SS K s I L A H locs → lv_has ls 4 [(0, .ref o0), (1, .int x1), (2, .int x2)] → W p (cxl K) e (headSpec wsX7_sort (rmF 2 46)).room s m ([.ref o0] : List Value).toArray below meth c H locs 0 0 (MQ below (cxQv K Q) ([.ref o0] : List Value).toArray s 0 0 (PA (cxb K))) (F0 m 12 ls []) := by
      clear hi hz hl
      intro μ
      induction μ using Nat.strongRecOn with | ind μ ih => ?_
      intro I L A x1 x2 H locs ls hi hz hl
      obtain ⟨C12, hCd⟩ : ∃ C : TI → TL → TA → Int32 → Int32 → Prop, C = fun I L A x1 x2 => ∃ μ', μ' < μ ∧ Inv μ' I L A x1 x2 := ⟨_, rfl⟩
      have hC12 : ∀ (I : TI) (L : TL) (A : TA) (x1 : Int32) (x2 : Int32) (H : Heap) (locs : List Loc) (ls : Array Slot), C12 I L A x1 x2 → SS K s I L A H locs → lv_has ls 4 [(0, .ref o0), (1, .int x1), (2, .int x2)] → W p (cxl K) e (headSpec wsX7_sort (rmF 2 46)).room s m ([.ref o0] : List Value).toArray below meth c H locs 0 0 (MQ below (cxQv K Q) ([.ref o0] : List Value).toArray s 0 0 (PA (cxb K))) (F0 m 12 ls []) := by
        intro I L A x1 x2 H locs ls hc hz hl
        rw [hCd] at hc
        obtain ⟨μ', hlt, hc⟩ := hc
        exact ih μ' hlt I L A x1 x2 H locs ls hc hz hl
      have hwp := hst μ C12 (fun μ' I L A x1 x2 hlt hc => by rw [hCd]; exact ⟨μ', hlt, hc⟩) I L A x1 x2 hi
      refine lv_iload_n hx hb dX7_sort_12 rfl (lv_at hl 2 rfl) ?_
      refine lv_if_le (tgt := 105) hx hb dX7_sort_13 (by decide) (fun q => ?_) (fun q => ?_)
      · have hwp := hwp.1 q
        obtain ⟨v1, q_v1⟩ : ∃ y : Int32, y = x1 + 1 := ⟨_, rfl⟩
        have hwp := hwp v1 q_v1
        refine lv_iinc (v := v1) (lv' := [(1, .int v1), (0, .ref o0), (2, .int x2)]) hx hb dX7_sort_105 hl (k := 1) rfl (by rw [q_v1]; rfl) (by decide) rfl (fun ls hl => ?_)
        refine lv_goto (tgt := 2) hx hb dX7_sort_108 (by decide) ?_
        exact hC2 _ _ _ _ _ _ _ hwp hz (lv_sub hl [1, 0] rfl)
      · have hwp := hwp.2 q
        refine lv_aload_n hx hb dX7_sort_16 rfl (lv_at hl 0 rfl) ?_
        refine lv_bipush (v := 12) hx hb dX7_sort_17 (by decide) ?_
        refine lv_iload_n hx hb dX7_sort_19 rfl (lv_at hl 2 rfl) ?_
        refine lv_iadd hx hb dX7_sort_20 ?_
        refine lv_bipush (v := 12) hx hb dX7_sort_21 (by decide) ?_
        refine lv_iload_n hx hb dX7_sort_23 rfl (lv_at hl 2 rfl) ?_
        refine lv_iadd hx hb dX7_sort_24 ?_
        refine lv_iconst (v := 1) hx hb dX7_sort_25 (by decide) ?_
        refine lv_isub hx hb dX7_sort_26 ?_
        obtain ⟨hs2, hwp⟩ := hwp
        obtain ⟨P3, hc4, hwp⟩ := hwp
        refine sw_calli hz (va_runV (As := [.int (12 + x2), .int ((12 + x2) - 1)]) (rest := []) ⟨hx, hb, hml, hown, hts⟩ (hc4 hK _) (cwV 2 hts gX7_sort_X7_isBefore rfl rfl rfl (by decide +kernel) ⟨Nat.le_of_ble_eq_true rfl, Nat.le_of_ble_eq_true rfl⟩) (hz.preV hK hs2 rfl) rfl rfl hl.1 rfl (lv_room (Nat.le_of_ble_eq_true rfl)) dX7_sort_27 ⟨Nat.le_of_ble_eq_true rfl, Nat.le_of_ble_eq_true rfl⟩) (fun r8 I5 L6 A7 H locs hp hz => ?_)
        have hwp := hwp r8 I5 L6 A7 hp
        refine lv_if_eq (tgt := 105) hx hb dX7_sort_30 (by decide) (fun q => ?_) (fun q => ?_)
        · have hwp := hwp.1 q
          obtain ⟨v9, q_v9⟩ : ∃ y : Int32, y = x1 + 1 := ⟨_, rfl⟩
          have hwp := hwp v9 q_v9
          refine lv_iinc (v := v9) (lv' := [(1, .int v9), (0, .ref o0), (2, .int x2)]) hx hb dX7_sort_105 hl (k := 1) rfl (by rw [q_v9]; rfl) (by decide) rfl (fun ls hl => ?_)
          refine lv_goto (tgt := 2) hx hb dX7_sort_108 (by decide) ?_
          exact hC2 _ _ _ _ _ _ _ hwp hz (lv_sub hl [1, 0] rfl)
        · have hwp := hwp.2 q
          refine lv_aload_n hx hb dX7_sort_33 rfl (lv_at hl 0 rfl) ?_
          refine lv_bipush (v := 10) hx hb dX7_sort_34 (by decide) ?_
          refine lv_bipush (v := 12) hx hb dX7_sort_36 (by decide) ?_
          refine lv_iload_n hx hb dX7_sort_38 rfl (lv_at hl 2 rfl) ?_
          refine lv_iadd hx hb dX7_sort_39 ?_
          obtain ⟨P10, hc11, hwp⟩ := hwp
          refine sw_callv hz (va_runV (As := [.int 10, .int (12 + x2)]) (rest := []) ⟨hx, hb, hml, hown, hts⟩ (hc11 hK _) (cwV 2 hts gX7_sort_X7_copy rfl rfl rfl (by decide +kernel) ⟨Nat.le_of_ble_eq_true rfl, Nat.le_of_ble_eq_true rfl⟩) (hz.preV hK hs2 rfl) rfl rfl hl.1 rfl (lv_room (Nat.le_of_ble_eq_true rfl)) dX7_sort_40 ⟨Nat.le_of_ble_eq_true rfl, Nat.le_of_ble_eq_true rfl⟩) (fun I12 L13 A14 H locs hp hz => ?_)
          have hwp := hwp I12 L13 A14 hp
          refine lv_aload_n hx hb dX7_sort_43 rfl (lv_at hl 0 rfl) ?_
          refine lv_bipush (v := 12) hx hb dX7_sort_44 (by decide) ?_
          refine lv_iload_n hx hb dX7_sort_46 rfl (lv_at hl 2 rfl) ?_
          refine lv_iadd hx hb dX7_sort_47 ?_
          refine lv_bipush (v := 12) hx hb dX7_sort_48 (by decide) ?_
          refine lv_iload_n hx hb dX7_sort_50 rfl (lv_at hl 2 rfl) ?_
          refine lv_iadd hx hb dX7_sort_51 ?_
          refine lv_iconst (v := 1) hx hb dX7_sort_52 (by decide) ?_
          refine lv_isub hx hb dX7_sort_53 ?_
          obtain ⟨P15, hc16, hwp⟩ := hwp
          refine sw_callv hz (va_runV (As := [.int (12 + x2), .int ((12 + x2) - 1)]) (rest := []) ⟨hx, hb, hml, hown, hts⟩ (hc16 hK _) (cwV 2 hts gX7_sort_X7_copy rfl rfl rfl (by decide +kernel) ⟨Nat.le_of_ble_eq_true rfl, Nat.le_of_ble_eq_true rfl⟩) (hz.preV hK hs2 rfl) rfl rfl hl.1 rfl (lv_room (Nat.le_of_ble_eq_true rfl)) dX7_sort_54 ⟨Nat.le_of_ble_eq_true rfl, Nat.le_of_ble_eq_true rfl⟩) (fun I17 L18 A19 H locs hp hz => ?_)
          have hwp := hwp I17 L18 A19 hp
          refine lv_aload_n hx hb dX7_sort_57 rfl (lv_at hl 0 rfl) ?_
          refine lv_bipush (v := 12) hx hb dX7_sort_58 (by decide) ?_
          refine lv_iload_n hx hb dX7_sort_60 rfl (lv_at hl 2 rfl) ?_
          refine lv_iadd hx hb dX7_sort_61 ?_
          refine lv_iconst (v := 1) hx hb dX7_sort_62 (by decide) ?_
          refine lv_isub hx hb dX7_sort_63 ?_
          refine lv_bipush (v := 10) hx hb dX7_sort_64 (by decide) ?_
          obtain ⟨P20, hc21, hwp⟩ := hwp
          refine sw_callv hz (va_runV (As := [.int ((12 + x2) - 1), .int 10]) (rest := []) ⟨hx, hb, hml, hown, hts⟩ (hc21 hK _) (cwV 2 hts gX7_sort_X7_copy rfl rfl rfl (by decide +kernel) ⟨Nat.le_of_ble_eq_true rfl, Nat.le_of_ble_eq_true rfl⟩) (hz.preV hK hs2 rfl) rfl rfl hl.1 rfl (lv_room (Nat.le_of_ble_eq_true rfl)) dX7_sort_66 ⟨Nat.le_of_ble_eq_true rfl, Nat.le_of_ble_eq_true rfl⟩) (fun I22 L23 A24 H locs hp hz => ?_)
          have hwp := hwp I22 L23 A24 hp
          refine lv_aload_n hx hb dX7_sort_69 rfl (lv_at hl 0 rfl) ?_
          refine sw_get (C := RX7) (T := TX7) (N := 25) (v := .ref (o0 + 2)) hx hb hts hw0 hown hK hz hs2 rfl 4 (by decide) hw1 (fun _ h9 => h9) rfl dX7_sort_70 ?_
          refine lv_iload_n hx hb dX7_sort_73 rfl (lv_at hl 2 rfl) ?_
          obtain ⟨ho25, hwp⟩ := hwp
          refine sw_iald hx hb hK hz ho25 dX7_sort_74 ?_
          refine lv_topi (fun v26 q_v26 => ?_)
          have hwp := hwp v26 q_v26
          refine lv_istore_n (lv' := [(3, .int v26), (0, .ref o0), (1, .int x1), (2, .int x2)]) hx hb dX7_sort_75 rfl hl (by decide) rfl (fun ls hl => ?_)
          refine lv_aload_n hx hb dX7_sort_76 rfl (lv_at hl 1 rfl) ?_
          refine sw_get (C := RX7) (T := TX7) (N := 25) (v := .ref (o0 + 2)) hx hb hts hw0 hown hK hz hs2 rfl 4 (by decide) hw1 (fun _ h9 => h9) rfl dX7_sort_77 ?_
          refine lv_iload_n hx hb dX7_sort_80 rfl (lv_at hl 3 rfl) ?_
          refine lv_aload_n hx hb dX7_sort_81 rfl (lv_at hl 1 rfl) ?_
          refine sw_get (C := RX7) (T := TX7) (N := 25) (v := .ref (o0 + 2)) hx hb hts hw0 hown hK hz hs2 rfl 4 (by decide) hw1 (fun _ h9 => h9) rfl dX7_sort_82 ?_
          refine lv_iload_n hx hb dX7_sort_85 rfl (lv_at hl 3 rfl) ?_
          refine lv_iconst (v := 1) hx hb dX7_sort_86 (by decide) ?_
          refine lv_isub hx hb dX7_sort_87 ?_
          obtain ⟨ho27, hwp⟩ := hwp
          refine sw_iald hx hb hK hz ho27 dX7_sort_88 ?_
          obtain ⟨ho28, hwp⟩ := hwp
          refine sw_iast hx hb hK hz ho28 dX7_sort_89 (fun H locs I29 e_I29 hz => ?_)
          have hwp := hwp I29 e_I29
          refine lv_aload_n hx hb dX7_sort_90 rfl (lv_at hl 1 rfl) ?_
          refine sw_get (C := RX7) (T := TX7) (N := 25) (v := .ref (o0 + 2)) hx hb hts hw0 hown hK hz hs2 rfl 4 (by decide) hw1 (fun _ h9 => h9) rfl dX7_sort_91 ?_
          refine lv_iload_n hx hb dX7_sort_94 rfl (lv_at hl 3 rfl) ?_
          refine lv_iconst (v := 1) hx hb dX7_sort_95 (by decide) ?_
          refine lv_isub hx hb dX7_sort_96 ?_
          refine lv_iload_n hx hb dX7_sort_97 rfl (lv_at hl 0 rfl) ?_
          obtain ⟨ho30, hwp⟩ := hwp
          refine sw_iast hx hb hK hz ho30 dX7_sort_98 (fun H locs I31 e_I31 hz => ?_)
          have hwp := hwp I31 e_I31
          obtain ⟨v32, q_v32⟩ : ∃ y : Int32, y = x2 + (-1) := ⟨_, rfl⟩
          have hwp := hwp v32 q_v32
          refine lv_iinc (v := v32) (lv' := [(2, .int v32), (3, .int v26), (0, .ref o0), (1, .int x1)]) hx hb dX7_sort_99 hl (k := 3) rfl (by rw [q_v32]; rfl) (by decide) rfl (fun ls hl => ?_)
          refine lv_goto (tgt := 12) hx hb dX7_sort_102 (by decide) ?_
          exact hC12 _ _ _ _ _ _ _ _ hwp hz (lv_sub hl [2, 3, 0] rfl)
    exact key μ I L A x1 x2 H locs ls hi hz hl
  have wL2 : ∀ (I : TI) (L : TL) (A : TA) (x1 : Int32) (H : Heap) (locs : List Loc) (ls : Array Slot), wp_X7_sort_2 K o0 I L A x1 Q → SS K s I L A H locs → lv_has ls 4 [(0, .ref o0), (1, .int x1)] → W p (cxl K) e (headSpec wsX7_sort (rmF 2 46)).room s m ([.ref o0] : List Value).toArray below meth c H locs 0 0 (MQ below (cxQv K Q) ([.ref o0] : List Value).toArray s 0 0 (PA (cxb K))) (F0 m 2 ls []) := by
    intro I L A x1 H locs ls hwp hz hl
    obtain ⟨Inv, μ, hi, hst⟩ := hwp
    have key : ∀ (μ : Nat) (I : TI) (L : TL) (A : TA) (x1 : Int32) (H : Heap) (locs : List Loc) (ls : Array Slot), Inv μ I L A x1 → SS K s I L A H locs → lv_has ls 4 [(0, .ref o0), (1, .int x1)] → W p (cxl K) e (headSpec wsX7_sort (rmF 2 46)).room s m ([.ref o0] : List Value).toArray below meth c H locs 0 0 (MQ below (cxQv K Q) ([.ref o0] : List Value).toArray s 0 0 (PA (cxb K))) (F0 m 2 ls []) := by
      clear hi hz hl
      intro μ
      induction μ using Nat.strongRecOn with | ind μ ih => ?_
      intro I L A x1 H locs ls hi hz hl
      obtain ⟨C2, hCd⟩ : ∃ C : TI → TL → TA → Int32 → Prop, C = fun I L A x1 => ∃ μ', μ' < μ ∧ Inv μ' I L A x1 := ⟨_, rfl⟩
      have hC2 : ∀ (I : TI) (L : TL) (A : TA) (x1 : Int32) (H : Heap) (locs : List Loc) (ls : Array Slot), C2 I L A x1 → SS K s I L A H locs → lv_has ls 4 [(0, .ref o0), (1, .int x1)] → W p (cxl K) e (headSpec wsX7_sort (rmF 2 46)).room s m ([.ref o0] : List Value).toArray below meth c H locs 0 0 (MQ below (cxQv K Q) ([.ref o0] : List Value).toArray s 0 0 (PA (cxb K))) (F0 m 2 ls []) := by
        intro I L A x1 H locs ls hc hz hl
        rw [hCd] at hc
        obtain ⟨μ', hlt, hc⟩ := hc
        exact ih μ' hlt I L A x1 H locs ls hc hz hl
      have hwp := hst μ C2 (fun μ' I L A x1 hlt hc => by rw [hCd]; exact ⟨μ', hlt, hc⟩) I L A x1 hi
      refine lv_iload_n hx hb dX7_sort_2 rfl (lv_at hl 1 rfl) ?_
      refine lv_aload_n hx hb dX7_sort_3 rfl (lv_at hl 0 rfl) ?_
      obtain ⟨hs33, hwp⟩ := hwp
      refine sw_get (C := RX7) (T := TX7) (N := 25) (v := .int (I o0 2)) hx hb hts hw0 hown hK hz hs33 rfl 2 (by decide) hw2 (fun _ h9 => h9) rfl dX7_sort_4 ?_
      refine lv_icmp_ge (tgt := 111) hx hb dX7_sort_7 (by decide) (fun q => ?_) (fun q => ?_)
      · have hwp := hwp.1 q
        exact sw_vret hx hb hret hlocks hz hwp dX7_sort_111
      · have hwp := hwp.2 q
        refine lv_iload_n hx hb dX7_sort_10 rfl (lv_at hl 1 rfl) ?_
        refine lv_istore_n (lv' := [(2, .int x1), (0, .ref o0), (1, .int x1)]) hx hb dX7_sort_11 rfl hl (by decide) rfl (fun ls hl => ?_)
        exact wL12 _ hC2 _ _ _ _ _ _ _ _ hwp hz (lv_sub hl [1, 2, 0] rfl)
    exact key μ I L A x1 H locs ls hi hz hl
  refine lv_iconst (v := 1) hx hb dX7_sort_0 (by decide) ?_
  refine lv_istore_n (lv' := [(1, .int 1), (0, .ref o0)]) hx hb dX7_sort_1 rfl hl (by decide) rfl (fun ls hl => ?_)
  exact wL2 _ _ _ _ _ _ _ hwp hz (lv_sub hl [1, 0] rfl)

def wp_X7_takeApart_54 (K : Cx) (o0 : Nat) (i1 : Int32) (I : TI) (L : TL) (A : TA) (Q : TI → TL → TA → Prop) : Prop := cxS K o0 = shX7 o0 ∧ ∃ P2 : TI → TL → TA → Prop, ConV K yX7_sort wsX7_sort 2 46 I L A [.ref o0] P2 ∧ ∀ (I4 : TI) (L5 : TL) (A6 : TA), P2 I4 L5 A6 → Q I4 L5 A6
def wp_X7_takeApart (K : Cx) (I : TI) (L : TL) (A : TA) (o0 : Nat) (i1 : Int32) (Q : TI → TL → TA → Prop) : Prop := cxS K o0 = shX7 o0 ∧ ∃ P8 : TI → TL → TA → Prop, ConV K yX7_copy wsX7_copy 0 0 I L A [.ref o0, .int 8, .int i1] P8 ∧ ∀ (I10 : TI) (L11 : TL) (A12 : TA), P8 I10 L11 A12 → ∃ P13 : Int64 → TI → TL → TA → Prop, ConL K yX7_takeContent wsX7_takeContent 1 29 I10 L11 A12 [.ref o0, .int 8] P13 ∧ ∀ (r18 : Int64) (I15 : TI) (L16 : TL) (A17 : TA), P13 r18 I15 L16 A17 → ∀ I19 : TI, I19 = u2 I15 o0 6 (Int64.toInt32 r18) → ∀ I20 : TI, I20 = u2 I19 o0 2 0 → ∃ P21 : TI → TL → TA → Prop, ConV K yX7_findFirst wsX7_findFirst 4 96 I20 L16 A17 [.ref o0, .int 8] P21 ∧ ∀ (I23 : TI) (L24 : TL) (A25 : TA), P21 I23 L24 A25 → ∃ P26 : TI → TL → TA → Prop, ConV K yX7_findSecond wsX7_findSecond 5 122 I23 L24 A25 [.ref o0, .int 8] P26 ∧ ∀ (I28 : TI) (L29 : TL) (A30 : TA), P26 I28 L29 A30 → ∃ P31 : TI → TL → TA → Prop, ConV K yX7_findThird wsX7_findThird 5 124 I28 L29 A30 [.ref o0, .int 8] P31 ∧ ∀ (I33 : TI) (L34 : TL) (A35 : TA), P31 I33 L34 A35 → ∃ P36 : Int32 → TI → TL → TA → Prop, ConI K yX7_degreeOf wsX7_degreeOf 0 0 I33 L34 A35 [.ref o0, .int 8] P36 ∧ ∀ (r41 : Int32) (I38 : TI) (L39 : TL) (A40 : TA), P36 r41 I38 L39 A40 → ((r41 ≤ 0 → wp_X7_takeApart_54 K o0 i1 I38 L39 A40 Q) ∧ (¬ r41 ≤ 0 → ∃ P42 : TI → TL → TA → Prop, ConV K yX7_addLast wsX7_addLast 2 45 I38 L39 A40 [.ref o0] P42 ∧ ∀ (I44 : TI) (L45 : TL) (A46 : TA), P42 I44 L45 A46 → wp_X7_takeApart_54 K o0 i1 I44 L45 A46 Q))
set_option maxHeartbeats 1000000 in
set_option maxRecDepth 100000 in
theorem w_X7_takeApart (K : Cx) (I : TI) (L : TL) (A : TA) (o0 : Nat) (i1 : Int32) (Q : TI → TL → TA → Prop) (hwp : wp_X7_takeApart K I L A o0 i1 Q) : ConV K yX7_takeApart wsX7_takeApart 6 149 I L A [.ref o0, .int i1] Q := by
  intro hK sz
  refine Met.ofW (cc := cX7_takeApart) (maxL := 2) (ret := none) (by decide) rfl ?_
  intro p e s m args below meth c s₁ B hml hv
  obtain ⟨rfl, hsz, hB⟩ := hv
  have hx := B.exec
  have hb := B.bytes
  have hret := B.returns
  have hts := atoms_spec (ws := wsX7_takeApart) B.pre
  have hown : s.vm.findClass RX7 = some m.cls := findClass_of_methodNamed B.named
  have hlocks := B.notSynchronized
  subst hsz
  have hz : SS K s I L A s.heap [] := PS.start hB
  have hl := lv_entry ([.ref o0, .int i1]) (n := 2) (Nat.le_of_ble_eq_true rfl)
  rw [lg_entry_eq]
  generalize (lg_sl ([.ref o0, .int i1]) ++ List.replicate (2 - (lg_sl ([.ref o0, .int i1])).length) Slot.unset).toArray = ls at hl ⊢
  have hl : lv_has ls 2 [(0, .ref o0), (1, .int i1)] := hl
  have hw0 : ∀ w ∈ u_ws RX7 TX7 25, w ∈ wsX7_takeApart := by decide +kernel
  have hw1 := hts (.fieldLink RX7 134 "GaloisDeskModel" "content" "I") (by decide +kernel)
  have hw2 := hts (.fieldLink RX7 83 "GaloisDeskModel" "many" "I") (by decide +kernel)
  clear hB B
  have wL54 : ∀ (I : TI) (L : TL) (A : TA) (H : Heap) (locs : List Loc) (ls : Array Slot), wp_X7_takeApart_54 K o0 i1 I L A Q → SS K s I L A H locs → lv_has ls 2 [(0, .ref o0)] → W p (cxl K) e (headSpec wsX7_takeApart (rmF 6 149)).room s m ([.ref o0, .int i1] : List Value).toArray below meth c H locs 0 0 (MQ below (cxQv K Q) ([.ref o0, .int i1] : List Value).toArray s 0 0 (PA (cxb K))) (F0 m 54 ls []) := by
    intro I L A H locs ls hwp hz hl
    refine lv_aload_n hx hb dX7_takeApart_54 rfl (lv_at hl 0 rfl) ?_
    obtain ⟨hs1, hwp⟩ := hwp
    obtain ⟨P2, hc3, hwp⟩ := hwp
    refine sw_callv hz (va_runV (As := []) (rest := []) ⟨hx, hb, hml, hown, hts⟩ (hc3 hK _) (cwV 0 hts gX7_takeApart_X7_sort rfl rfl rfl (by decide +kernel) ⟨Nat.le_of_ble_eq_true rfl, Nat.le_of_ble_eq_true rfl⟩) (hz.preV hK hs1 rfl) rfl rfl hl.1 rfl (lv_room (Nat.le_of_ble_eq_true rfl)) dX7_takeApart_55 ⟨Nat.le_of_ble_eq_true rfl, Nat.le_of_ble_eq_true rfl⟩) (fun I4 L5 A6 H locs hp hz => ?_)
    have hwp := hwp I4 L5 A6 hp
    exact sw_vret hx hb hret hlocks hz hwp dX7_takeApart_58
  refine lv_aload_n hx hb dX7_takeApart_0 rfl (lv_at hl 0 rfl) ?_
  refine lv_bipush (v := 8) hx hb dX7_takeApart_1 (by decide) ?_
  refine lv_iload_n hx hb dX7_takeApart_3 rfl (lv_at hl 1 rfl) ?_
  obtain ⟨hs7, hwp⟩ := hwp
  obtain ⟨P8, hc9, hwp⟩ := hwp
  refine sw_callv hz (va_runV (As := [.int 8, .int i1]) (rest := []) ⟨hx, hb, hml, hown, hts⟩ (hc9 hK _) (cwV 2 hts gX7_takeApart_X7_copy rfl rfl rfl (by decide +kernel) ⟨Nat.le_of_ble_eq_true rfl, Nat.le_of_ble_eq_true rfl⟩) (hz.preV hK hs7 rfl) rfl rfl hl.1 rfl (lv_room (Nat.le_of_ble_eq_true rfl)) dX7_takeApart_4 ⟨Nat.le_of_ble_eq_true rfl, Nat.le_of_ble_eq_true rfl⟩) (fun I10 L11 A12 H locs hp hz => ?_)
  have hwp := hwp I10 L11 A12 hp
  refine lv_aload_n hx hb dX7_takeApart_7 rfl (lv_at hl 0 rfl) ?_
  refine lv_aload_n hx hb dX7_takeApart_8 rfl (lv_at hl 0 rfl) ?_
  refine lv_bipush (v := 8) hx hb dX7_takeApart_9 (by decide) ?_
  obtain ⟨P13, hc14, hwp⟩ := hwp
  refine sw_calll hz (va_runV (As := [.int 8]) (rest := [.ref o0]) ⟨hx, hb, hml, hown, hts⟩ (hc14 hK _) (cwV 1 hts gX7_takeApart_X7_takeContent rfl rfl rfl (by decide +kernel) ⟨Nat.le_of_ble_eq_true rfl, Nat.le_of_ble_eq_true rfl⟩) (hz.preV hK hs7 rfl) rfl rfl hl.1 rfl (lv_room (Nat.le_of_ble_eq_true rfl)) dX7_takeApart_11 ⟨Nat.le_of_ble_eq_true rfl, Nat.le_of_ble_eq_true rfl⟩) (fun r18 I15 L16 A17 H locs hp hz => ?_)
  have hwp := hwp r18 I15 L16 A17 hp
  refine lv_l2i hx hb dX7_takeApart_14 rfl ?_
  refine sw_putI (C := RX7) (T := TX7) (N := 25) hx hb hts hw0 tyX7 tyX7_ok nmX7 hown hK hz hs7 rfl 6 (by decide) hw1 (fun _ h9 => h9) rfl (by decide +kernel) rfl dX7_takeApart_15 (fun H locs I19 e_I19 hz => ?_)
  have hwp := hwp I19 e_I19
  refine lv_aload_n hx hb dX7_takeApart_18 rfl (lv_at hl 0 rfl) ?_
  refine lv_iconst (v := 0) hx hb dX7_takeApart_19 (by decide) ?_
  refine sw_putI (C := RX7) (T := TX7) (N := 25) hx hb hts hw0 tyX7 tyX7_ok nmX7 hown hK hz hs7 rfl 2 (by decide) hw2 (fun _ h9 => h9) rfl (by decide +kernel) rfl dX7_takeApart_20 (fun H locs I20 e_I20 hz => ?_)
  have hwp := hwp I20 e_I20
  refine lv_aload_n hx hb dX7_takeApart_23 rfl (lv_at hl 0 rfl) ?_
  refine lv_bipush (v := 8) hx hb dX7_takeApart_24 (by decide) ?_
  obtain ⟨P21, hc22, hwp⟩ := hwp
  refine sw_callv hz (va_runV (As := [.int 8]) (rest := []) ⟨hx, hb, hml, hown, hts⟩ (hc22 hK _) (cwV 1 hts gX7_takeApart_X7_findFirst rfl rfl rfl (by decide +kernel) ⟨Nat.le_of_ble_eq_true rfl, Nat.le_of_ble_eq_true rfl⟩) (hz.preV hK hs7 rfl) rfl rfl hl.1 rfl (lv_room (Nat.le_of_ble_eq_true rfl)) dX7_takeApart_26 ⟨Nat.le_of_ble_eq_true rfl, Nat.le_of_ble_eq_true rfl⟩) (fun I23 L24 A25 H locs hp hz => ?_)
  have hwp := hwp I23 L24 A25 hp
  refine lv_aload_n hx hb dX7_takeApart_29 rfl (lv_at hl 0 rfl) ?_
  refine lv_bipush (v := 8) hx hb dX7_takeApart_30 (by decide) ?_
  obtain ⟨P26, hc27, hwp⟩ := hwp
  refine sw_callv hz (va_runV (As := [.int 8]) (rest := []) ⟨hx, hb, hml, hown, hts⟩ (hc27 hK _) (cwV 1 hts gX7_takeApart_X7_findSecond rfl rfl rfl (by decide +kernel) ⟨Nat.le_of_ble_eq_true rfl, Nat.le_of_ble_eq_true rfl⟩) (hz.preV hK hs7 rfl) rfl rfl hl.1 rfl (lv_room (Nat.le_of_ble_eq_true rfl)) dX7_takeApart_32 ⟨Nat.le_of_ble_eq_true rfl, Nat.le_of_ble_eq_true rfl⟩) (fun I28 L29 A30 H locs hp hz => ?_)
  have hwp := hwp I28 L29 A30 hp
  refine lv_aload_n hx hb dX7_takeApart_35 rfl (lv_at hl 0 rfl) ?_
  refine lv_bipush (v := 8) hx hb dX7_takeApart_36 (by decide) ?_
  obtain ⟨P31, hc32, hwp⟩ := hwp
  refine sw_callv hz (va_runV (As := [.int 8]) (rest := []) ⟨hx, hb, hml, hown, hts⟩ (hc32 hK _) (cwV 1 hts gX7_takeApart_X7_findThird rfl rfl rfl (by decide +kernel) ⟨Nat.le_of_ble_eq_true rfl, Nat.le_of_ble_eq_true rfl⟩) (hz.preV hK hs7 rfl) rfl rfl hl.1 rfl (lv_room (Nat.le_of_ble_eq_true rfl)) dX7_takeApart_38 ⟨Nat.le_of_ble_eq_true rfl, Nat.le_of_ble_eq_true rfl⟩) (fun I33 L34 A35 H locs hp hz => ?_)
  have hwp := hwp I33 L34 A35 hp
  refine lv_aload_n hx hb dX7_takeApart_41 rfl (lv_at hl 0 rfl) ?_
  refine lv_bipush (v := 8) hx hb dX7_takeApart_42 (by decide) ?_
  obtain ⟨P36, hc37, hwp⟩ := hwp
  refine sw_calli hz (va_runV (As := [.int 8]) (rest := []) ⟨hx, hb, hml, hown, hts⟩ (hc37 hK _) (cwV 1 hts gX7_takeApart_X7_degreeOf rfl rfl rfl (by decide +kernel) ⟨Nat.le_of_ble_eq_true rfl, Nat.le_of_ble_eq_true rfl⟩) (hz.preV hK hs7 rfl) rfl rfl hl.1 rfl (lv_room (Nat.le_of_ble_eq_true rfl)) dX7_takeApart_44 ⟨Nat.le_of_ble_eq_true rfl, Nat.le_of_ble_eq_true rfl⟩) (fun r41 I38 L39 A40 H locs hp hz => ?_)
  have hwp := hwp r41 I38 L39 A40 hp
  refine lv_if_le (tgt := 54) hx hb dX7_takeApart_47 (by decide) (fun q => ?_) (fun q => ?_)
  · have hwp := hwp.1 q
    exact wL54 _ _ _ _ _ _ hwp hz (lv_sub hl [0] rfl)
  · have hwp := hwp.2 q
    refine lv_aload_n hx hb dX7_takeApart_50 rfl (lv_at hl 0 rfl) ?_
    obtain ⟨P42, hc43, hwp⟩ := hwp
    refine sw_callv hz (va_runV (As := []) (rest := []) ⟨hx, hb, hml, hown, hts⟩ (hc43 hK _) (cwV 0 hts gX7_takeApart_X7_addLast rfl rfl rfl (by decide +kernel) ⟨Nat.le_of_ble_eq_true rfl, Nat.le_of_ble_eq_true rfl⟩) (hz.preV hK hs7 rfl) rfl rfl hl.1 rfl (lv_room (Nat.le_of_ble_eq_true rfl)) dX7_takeApart_51 ⟨Nat.le_of_ble_eq_true rfl, Nat.le_of_ble_eq_true rfl⟩) (fun I44 L45 A46 H locs hp hz => ?_)
    have hwp := hwp I44 L45 A46 hp
    exact wL54 _ _ _ _ _ _ hwp hz (lv_sub hl [0] rfl)

def wp_X7_timesPart_24 (K : Cx) (o0 : Nat) (i1 : Int32) (C16 : TI → TL → TA → Int32 → Prop) (I : TI) (L : TL) (A : TA) (x2 : Int32) (x3 : Int32) (Q : TI → TL → TA → Prop) : Prop := ∃ (Inv : Nat → TI → TL → TA → Int32 → Int32 → Prop) (μ : Nat), Inv μ I L A x2 x3 ∧ ∀ (μ : Nat) (C24 : TI → TL → TA → Int32 → Int32 → Prop), (∀ (μ' : Nat) (I : TI) (L : TL) (A : TA) (x2 : Int32) (x3 : Int32) , μ' < μ → Inv μ' I L A x2 x3 → C24 I L A x2 x3) → ∀ (I : TI) (L : TL) (A : TA) (x2 : Int32) (x3 : Int32) , Inv μ I L A x2 x3 → ((8 ≤ (x2 + x3) → ∀ v1 : Int32, v1 = x2 + 1 → C16 I L A v1) ∧ (¬ 8 ≤ (x2 + x3) → cxS K o0 = shX7 o0 ∧ aok (cxS K) (o0 + 1) 1 ((64 + x2) + x3) ∧ aok (cxS K) (o0 + 1) 1 (72 + x2) ∧ aok (cxS K) (o0 + 1) 1 ((8 * i1) + x3) ∧ aok (cxS K) (o0 + 1) 1 ((64 + x2) + x3) ∧ ∀ L7 : TL, L7 = u2 L (o0 + 1) (ix ((64 + x2) + x3)) ((L (o0 + 1) (ix ((64 + x2) + x3))) + ((L (o0 + 1) (ix (72 + x2))) * (L (o0 + 1) (ix ((8 * i1) + x3))))) → ∀ v8 : Int32, v8 = x3 + 1 → C24 I L7 A x2 v8))
def wp_X7_timesPart_16 (K : Cx) (o0 : Nat) (i1 : Int32) (I : TI) (L : TL) (A : TA) (x2 : Int32) (Q : TI → TL → TA → Prop) : Prop := ∃ (Inv : Nat → TI → TL → TA → Int32 → Prop) (μ : Nat), Inv μ I L A x2 ∧ ∀ (μ : Nat) (C16 : TI → TL → TA → Int32 → Prop), (∀ (μ' : Nat) (I : TI) (L : TL) (A : TA) (x2 : Int32) , μ' < μ → Inv μ' I L A x2 → C16 I L A x2) → ∀ (I : TI) (L : TL) (A : TA) (x2 : Int32) , Inv μ I L A x2 → ((8 ≤ x2 → Q I L A) ∧ (¬ 8 ≤ x2 → wp_X7_timesPart_24 K o0 i1 C16 I L A x2 0 Q))
def wp_X7_timesPart (K : Cx) (I : TI) (L : TL) (A : TA) (o0 : Nat) (i1 : Int32) (Q : TI → TL → TA → Prop) : Prop := cxS K o0 = shX7 o0 ∧ ∃ P10 : TI → TL → TA → Prop, ConV K yX7_copy wsX7_copy 0 0 I L A [.ref o0, .int 9, .int 8] P10 ∧ ∀ (I12 : TI) (L13 : TL) (A14 : TA), P10 I12 L13 A14 → ∃ P15 : TI → TL → TA → Prop, ConV K yX7_clear wsX7_clear 0 0 I12 L13 A14 [.ref o0, .int 8] P15 ∧ ∀ (I17 : TI) (L18 : TL) (A19 : TA), P15 I17 L18 A19 → wp_X7_timesPart_16 K o0 i1 I17 L18 A19 0 Q
set_option maxHeartbeats 1000000 in
set_option maxRecDepth 100000 in
theorem w_X7_timesPart (K : Cx) (I : TI) (L : TL) (A : TA) (o0 : Nat) (i1 : Int32) (Q : TI → TL → TA → Prop) (hwp : wp_X7_timesPart K I L A o0 i1 Q) : ConV K yX7_timesPart wsX7_timesPart 1 23 I L A [.ref o0, .int i1] Q := by
  intro hK sz
  refine Met.ofW (cc := cX7_timesPart) (maxL := 4) (ret := none) (by decide) rfl ?_
  intro p e s m args below meth c s₁ B hml hv
  obtain ⟨rfl, hsz, hB⟩ := hv
  have hx := B.exec
  have hb := B.bytes
  have hret := B.returns
  have hts := atoms_spec (ws := wsX7_timesPart) B.pre
  have hown : s.vm.findClass RX7 = some m.cls := findClass_of_methodNamed B.named
  have hlocks := B.notSynchronized
  subst hsz
  have hz : SS K s I L A s.heap [] := PS.start hB
  have hl := lv_entry ([.ref o0, .int i1]) (n := 4) (Nat.le_of_ble_eq_true rfl)
  rw [lg_entry_eq]
  generalize (lg_sl ([.ref o0, .int i1]) ++ List.replicate (4 - (lg_sl ([.ref o0, .int i1])).length) Slot.unset).toArray = ls at hl ⊢
  have hl : lv_has ls 4 [(0, .ref o0), (1, .int i1)] := hl
  have hw0 : ∀ w ∈ u_ws RX7 TX7 25, w ∈ wsX7_timesPart := by decide +kernel
  have hw1 := hts (.fieldLink RX7 7 "GaloisDeskModel" "row" "[J") (by decide +kernel)
  clear hB B
  have wL24 : ∀ (C16 : TI → TL → TA → Int32 → Prop) (hC16 : ∀ (I : TI) (L : TL) (A : TA) (x2 : Int32) (H : Heap) (locs : List Loc) (ls : Array Slot), C16 I L A x2 → SS K s I L A H locs → lv_has ls 4 [(0, .ref o0), (1, .int i1), (2, .int x2)] → W p (cxl K) e (headSpec wsX7_timesPart (rmF 1 23)).room s m ([.ref o0, .int i1] : List Value).toArray below meth c H locs 0 0 (MQ below (cxQv K Q) ([.ref o0, .int i1] : List Value).toArray s 0 0 (PA (cxb K))) (F0 m 16 ls [])) (I : TI) (L : TL) (A : TA) (x2 : Int32) (x3 : Int32) (H : Heap) (locs : List Loc) (ls : Array Slot), wp_X7_timesPart_24 K o0 i1 C16 I L A x2 x3 Q → SS K s I L A H locs → lv_has ls 4 [(0, .ref o0), (1, .int i1), (2, .int x2), (3, .int x3)] → W p (cxl K) e (headSpec wsX7_timesPart (rmF 1 23)).room s m ([.ref o0, .int i1] : List Value).toArray below meth c H locs 0 0 (MQ below (cxQv K Q) ([.ref o0, .int i1] : List Value).toArray s 0 0 (PA (cxb K))) (F0 m 24 ls []) := by
    intro C16 hC16 I L A x2 x3 H locs ls hwp hz hl
    obtain ⟨Inv, μ, hi, hst⟩ := hwp
    have key : ∀ (μ : Nat) (I : TI) (L : TL) (A : TA) (x2 : Int32) (x3 : Int32) (H : Heap) (locs : List Loc) (ls : Array Slot), Inv μ I L A x2 x3 → SS K s I L A H locs → lv_has ls 4 [(0, .ref o0), (1, .int i1), (2, .int x2), (3, .int x3)] → W p (cxl K) e (headSpec wsX7_timesPart (rmF 1 23)).room s m ([.ref o0, .int i1] : List Value).toArray below meth c H locs 0 0 (MQ below (cxQv K Q) ([.ref o0, .int i1] : List Value).toArray s 0 0 (PA (cxb K))) (F0 m 24 ls []) := by
      clear hi hz hl
      intro μ
      induction μ using Nat.strongRecOn with | ind μ ih => ?_
      intro I L A x2 x3 H locs ls hi hz hl
      obtain ⟨C24, hCd⟩ : ∃ C : TI → TL → TA → Int32 → Int32 → Prop, C = fun I L A x2 x3 => ∃ μ', μ' < μ ∧ Inv μ' I L A x2 x3 := ⟨_, rfl⟩
      have hC24 : ∀ (I : TI) (L : TL) (A : TA) (x2 : Int32) (x3 : Int32) (H : Heap) (locs : List Loc) (ls : Array Slot), C24 I L A x2 x3 → SS K s I L A H locs → lv_has ls 4 [(0, .ref o0), (1, .int i1), (2, .int x2), (3, .int x3)] → W p (cxl K) e (headSpec wsX7_timesPart (rmF 1 23)).room s m ([.ref o0, .int i1] : List Value).toArray below meth c H locs 0 0 (MQ below (cxQv K Q) ([.ref o0, .int i1] : List Value).toArray s 0 0 (PA (cxb K))) (F0 m 24 ls []) := by
        intro I L A x2 x3 H locs ls hc hz hl
        rw [hCd] at hc
        obtain ⟨μ', hlt, hc⟩ := hc
        exact ih μ' hlt I L A x2 x3 H locs ls hc hz hl
      have hwp := hst μ C24 (fun μ' I L A x2 x3 hlt hc => by rw [hCd]; exact ⟨μ', hlt, hc⟩) I L A x2 x3 hi
      refine lv_iload_n hx hb dX7_timesPart_24 rfl (lv_at hl 2 rfl) ?_
      refine lv_iload_n hx hb dX7_timesPart_25 rfl (lv_at hl 3 rfl) ?_
      refine lv_iadd hx hb dX7_timesPart_26 ?_
      refine lv_bipush (v := 8) hx hb dX7_timesPart_27 (by decide) ?_
      refine lv_icmp_ge (tgt := 82) hx hb dX7_timesPart_29 (by decide) (fun q => ?_) (fun q => ?_)
      · have hwp := hwp.1 q
        obtain ⟨v1, q_v1⟩ : ∃ y : Int32, y = x2 + 1 := ⟨_, rfl⟩
        have hwp := hwp v1 q_v1
        refine lv_iinc (v := v1) (lv' := [(2, .int v1), (0, .ref o0), (1, .int i1), (3, .int x3)]) hx hb dX7_timesPart_82 hl (k := 2) rfl (by rw [q_v1]; rfl) (by decide) rfl (fun ls hl => ?_)
        refine lv_goto (tgt := 16) hx hb dX7_timesPart_85 (by decide) ?_
        exact hC16 _ _ _ _ _ _ _ hwp hz (lv_sub hl [1, 2, 0] rfl)
      · have hwp := hwp.2 q
        refine lv_aload_n hx hb dX7_timesPart_32 rfl (lv_at hl 0 rfl) ?_
        obtain ⟨hs2, hwp⟩ := hwp
        refine sw_get (C := RX7) (T := TX7) (N := 25) (v := .ref (o0 + 1)) hx hb hts hw0 hown hK hz hs2 rfl 1 (by decide) hw1 (fun _ h9 => h9) rfl dX7_timesPart_33 ?_
        refine lv_bipush (v := 64) hx hb dX7_timesPart_36 (by decide) ?_
        refine lv_iload_n hx hb dX7_timesPart_38 rfl (lv_at hl 2 rfl) ?_
        refine lv_iadd hx hb dX7_timesPart_39 ?_
        refine lv_iload_n hx hb dX7_timesPart_40 rfl (lv_at hl 3 rfl) ?_
        refine lv_iadd hx hb dX7_timesPart_41 ?_
        refine lv_aload_n hx hb dX7_timesPart_42 rfl (lv_at hl 0 rfl) ?_
        refine sw_get (C := RX7) (T := TX7) (N := 25) (v := .ref (o0 + 1)) hx hb hts hw0 hown hK hz hs2 rfl 1 (by decide) hw1 (fun _ h9 => h9) rfl dX7_timesPart_43 ?_
        refine lv_bipush (v := 64) hx hb dX7_timesPart_46 (by decide) ?_
        refine lv_iload_n hx hb dX7_timesPart_48 rfl (lv_at hl 2 rfl) ?_
        refine lv_iadd hx hb dX7_timesPart_49 ?_
        refine lv_iload_n hx hb dX7_timesPart_50 rfl (lv_at hl 3 rfl) ?_
        refine lv_iadd hx hb dX7_timesPart_51 ?_
        obtain ⟨ho3, hwp⟩ := hwp
        refine sw_lald hx hb hK hz ho3 dX7_timesPart_52 ?_
        refine lv_aload_n hx hb dX7_timesPart_53 rfl (lv_at hl 0 rfl) ?_
        refine sw_get (C := RX7) (T := TX7) (N := 25) (v := .ref (o0 + 1)) hx hb hts hw0 hown hK hz hs2 rfl 1 (by decide) hw1 (fun _ h9 => h9) rfl dX7_timesPart_54 ?_
        refine lv_bipush (v := 72) hx hb dX7_timesPart_57 (by decide) ?_
        refine lv_iload_n hx hb dX7_timesPart_59 rfl (lv_at hl 2 rfl) ?_
        refine lv_iadd hx hb dX7_timesPart_60 ?_
        obtain ⟨ho4, hwp⟩ := hwp
        refine sw_lald hx hb hK hz ho4 dX7_timesPart_61 ?_
        refine lv_aload_n hx hb dX7_timesPart_62 rfl (lv_at hl 0 rfl) ?_
        refine sw_get (C := RX7) (T := TX7) (N := 25) (v := .ref (o0 + 1)) hx hb hts hw0 hown hK hz hs2 rfl 1 (by decide) hw1 (fun _ h9 => h9) rfl dX7_timesPart_63 ?_
        refine lv_bipush (v := 8) hx hb dX7_timesPart_66 (by decide) ?_
        refine lv_iload_n hx hb dX7_timesPart_68 rfl (lv_at hl 1 rfl) ?_
        refine lv_imul hx hb dX7_timesPart_69 ?_
        refine lv_iload_n hx hb dX7_timesPart_70 rfl (lv_at hl 3 rfl) ?_
        refine lv_iadd hx hb dX7_timesPart_71 ?_
        obtain ⟨ho5, hwp⟩ := hwp
        refine sw_lald hx hb hK hz ho5 dX7_timesPart_72 ?_
        refine lv_lmul hx hb dX7_timesPart_73 ?_
        refine lv_ladd hx hb dX7_timesPart_74 ?_
        obtain ⟨ho6, hwp⟩ := hwp
        refine sw_last hx hb hK hz ho6 dX7_timesPart_75 (fun H locs L7 e_L7 hz => ?_)
        have hwp := hwp L7 e_L7
        obtain ⟨v8, q_v8⟩ : ∃ y : Int32, y = x3 + 1 := ⟨_, rfl⟩
        have hwp := hwp v8 q_v8
        refine lv_iinc (v := v8) (lv' := [(3, .int v8), (0, .ref o0), (1, .int i1), (2, .int x2)]) hx hb dX7_timesPart_76 hl (k := 3) rfl (by rw [q_v8]; rfl) (by decide) rfl (fun ls hl => ?_)
        refine lv_goto (tgt := 24) hx hb dX7_timesPart_79 (by decide) ?_
        exact hC24 _ _ _ _ _ _ _ _ hwp hz (lv_sub hl [1, 2, 3, 0] rfl)
    exact key μ I L A x2 x3 H locs ls hi hz hl
  have wL16 : ∀ (I : TI) (L : TL) (A : TA) (x2 : Int32) (H : Heap) (locs : List Loc) (ls : Array Slot), wp_X7_timesPart_16 K o0 i1 I L A x2 Q → SS K s I L A H locs → lv_has ls 4 [(0, .ref o0), (1, .int i1), (2, .int x2)] → W p (cxl K) e (headSpec wsX7_timesPart (rmF 1 23)).room s m ([.ref o0, .int i1] : List Value).toArray below meth c H locs 0 0 (MQ below (cxQv K Q) ([.ref o0, .int i1] : List Value).toArray s 0 0 (PA (cxb K))) (F0 m 16 ls []) := by
    intro I L A x2 H locs ls hwp hz hl
    obtain ⟨Inv, μ, hi, hst⟩ := hwp
    have key : ∀ (μ : Nat) (I : TI) (L : TL) (A : TA) (x2 : Int32) (H : Heap) (locs : List Loc) (ls : Array Slot), Inv μ I L A x2 → SS K s I L A H locs → lv_has ls 4 [(0, .ref o0), (1, .int i1), (2, .int x2)] → W p (cxl K) e (headSpec wsX7_timesPart (rmF 1 23)).room s m ([.ref o0, .int i1] : List Value).toArray below meth c H locs 0 0 (MQ below (cxQv K Q) ([.ref o0, .int i1] : List Value).toArray s 0 0 (PA (cxb K))) (F0 m 16 ls []) := by
      clear hi hz hl
      intro μ
      induction μ using Nat.strongRecOn with | ind μ ih => ?_
      intro I L A x2 H locs ls hi hz hl
      obtain ⟨C16, hCd⟩ : ∃ C : TI → TL → TA → Int32 → Prop, C = fun I L A x2 => ∃ μ', μ' < μ ∧ Inv μ' I L A x2 := ⟨_, rfl⟩
      have hC16 : ∀ (I : TI) (L : TL) (A : TA) (x2 : Int32) (H : Heap) (locs : List Loc) (ls : Array Slot), C16 I L A x2 → SS K s I L A H locs → lv_has ls 4 [(0, .ref o0), (1, .int i1), (2, .int x2)] → W p (cxl K) e (headSpec wsX7_timesPart (rmF 1 23)).room s m ([.ref o0, .int i1] : List Value).toArray below meth c H locs 0 0 (MQ below (cxQv K Q) ([.ref o0, .int i1] : List Value).toArray s 0 0 (PA (cxb K))) (F0 m 16 ls []) := by
        intro I L A x2 H locs ls hc hz hl
        rw [hCd] at hc
        obtain ⟨μ', hlt, hc⟩ := hc
        exact ih μ' hlt I L A x2 H locs ls hc hz hl
      have hwp := hst μ C16 (fun μ' I L A x2 hlt hc => by rw [hCd]; exact ⟨μ', hlt, hc⟩) I L A x2 hi
      refine lv_iload_n hx hb dX7_timesPart_16 rfl (lv_at hl 2 rfl) ?_
      refine lv_bipush (v := 8) hx hb dX7_timesPart_17 (by decide) ?_
      refine lv_icmp_ge (tgt := 88) hx hb dX7_timesPart_19 (by decide) (fun q => ?_) (fun q => ?_)
      · have hwp := hwp.1 q
        exact sw_vret hx hb hret hlocks hz hwp dX7_timesPart_88
      · have hwp := hwp.2 q
        refine lv_iconst (v := 0) hx hb dX7_timesPart_22 (by decide) ?_
        refine lv_istore_n (lv' := [(3, .int 0), (0, .ref o0), (1, .int i1), (2, .int x2)]) hx hb dX7_timesPart_23 rfl hl (by decide) rfl (fun ls hl => ?_)
        exact wL24 _ hC16 _ _ _ _ _ _ _ _ hwp hz (lv_sub hl [1, 2, 3, 0] rfl)
    exact key μ I L A x2 H locs ls hi hz hl
  refine lv_aload_n hx hb dX7_timesPart_0 rfl (lv_at hl 0 rfl) ?_
  refine lv_bipush (v := 9) hx hb dX7_timesPart_1 (by decide) ?_
  refine lv_bipush (v := 8) hx hb dX7_timesPart_3 (by decide) ?_
  obtain ⟨hs9, hwp⟩ := hwp
  obtain ⟨P10, hc11, hwp⟩ := hwp
  refine sw_callv hz (va_runV (As := [.int 9, .int 8]) (rest := []) ⟨hx, hb, hml, hown, hts⟩ (hc11 hK _) (cwV 2 hts gX7_timesPart_X7_copy rfl rfl rfl (by decide +kernel) ⟨Nat.le_of_ble_eq_true rfl, Nat.le_of_ble_eq_true rfl⟩) (hz.preV hK hs9 rfl) rfl rfl hl.1 rfl (lv_room (Nat.le_of_ble_eq_true rfl)) dX7_timesPart_5 ⟨Nat.le_of_ble_eq_true rfl, Nat.le_of_ble_eq_true rfl⟩) (fun I12 L13 A14 H locs hp hz => ?_)
  have hwp := hwp I12 L13 A14 hp
  refine lv_aload_n hx hb dX7_timesPart_8 rfl (lv_at hl 0 rfl) ?_
  refine lv_bipush (v := 8) hx hb dX7_timesPart_9 (by decide) ?_
  obtain ⟨P15, hc16, hwp⟩ := hwp
  refine sw_callv hz (va_runV (As := [.int 8]) (rest := []) ⟨hx, hb, hml, hown, hts⟩ (hc16 hK _) (cwV 1 hts gX7_timesPart_X7_clear rfl rfl rfl (by decide +kernel) ⟨Nat.le_of_ble_eq_true rfl, Nat.le_of_ble_eq_true rfl⟩) (hz.preV hK hs9 rfl) rfl rfl hl.1 rfl (lv_room (Nat.le_of_ble_eq_true rfl)) dX7_timesPart_11 ⟨Nat.le_of_ble_eq_true rfl, Nat.le_of_ble_eq_true rfl⟩) (fun I17 L18 A19 H locs hp hz => ?_)
  have hwp := hwp I17 L18 A19 hp
  refine lv_iconst (v := 0) hx hb dX7_timesPart_14 (by decide) ?_
  refine lv_istore_n (lv' := [(2, .int 0), (0, .ref o0), (1, .int i1)]) hx hb dX7_timesPart_15 rfl hl (by decide) rfl (fun ls hl => ?_)
  exact wL16 _ _ _ _ _ _ _ hwp hz (lv_sub hl [1, 2, 0] rfl)

def wp_X7_common_269 (K : Cx) (o0 : Nat) (i1 : Int32) (i2 : Int32) (i3 : Int32) (C168 : TI → TL → TA → Int32 → Prop) (C180 : TI → TL → TA → Int32 → Int32 → Prop) (I : TI) (L : TL) (A : TA) (x4 : Int32) (x5 : Int32) (x6 : Int32) (x7 : Int32) (x8 : Int32) (Q : Int32 → TI → TL → TA → Prop) : Prop := ∃ (Inv : Nat → TI → TL → TA → Int32 → Int32 → Int32 → Int32 → Int32 → Prop) (μ : Nat), Inv μ I L A x4 x5 x6 x7 x8 ∧ ∀ (μ : Nat) (C269 : TI → TL → TA → Int32 → Int32 → Int32 → Int32 → Int32 → Prop), (∀ (μ' : Nat) (I : TI) (L : TL) (A : TA) (x4 : Int32) (x5 : Int32) (x6 : Int32) (x7 : Int32) (x8 : Int32) , μ' < μ → Inv μ' I L A x4 x5 x6 x7 x8 → C269 I L A x4 x5 x6 x7 x8) → ∀ (I : TI) (L : TL) (A : TA) (x4 : Int32) (x5 : Int32) (x6 : Int32) (x7 : Int32) (x8 : Int32) , Inv μ I L A x4 x5 x6 x7 x8 → ((x7 ≤ x8 → ∀ v1 : Int32, v1 = x5 + 1 → C180 I L A x4 v1) ∧ (¬ x7 ≤ x8 → ((x6 = 0 → ∀ v2 : Int32, v2 = x5 + 1 → C180 I L A x4 v2) ∧ (¬ x6 = 0 → cxS K o0 = shX7 o0 ∧ ∃ P4 : TI → TL → TA → Prop, ConV K yX7_timesPart wsX7_timesPart 1 23 I L A [.ref o0, .int (12 + x4)] P4 ∧ ∀ (I6 : TI) (L7 : TL) (A8 : TA), P4 I6 L7 A8 → ∀ v9 : Int32, v9 = x8 + 1 → C269 I6 L7 A8 x4 x5 x6 x7 v9))))
def wp_X7_common_228 (K : Cx) (o0 : Nat) (i1 : Int32) (i2 : Int32) (i3 : Int32) (C168 : TI → TL → TA → Int32 → Prop) (C180 : TI → TL → TA → Int32 → Int32 → Prop) (I : TI) (L : TL) (A : TA) (x4 : Int32) (x5 : Int32) (y0 : Int32) (Q : Int32 → TI → TL → TA → Prop) : Prop := cxS K o0 = shX7 o0 ∧ aok (cxS K) (o0 + 2) 0 x4 ∧ aok (cxS K) (o0 + 3) 0 x5 ∧ (((I (o0 + 3) (ix x5)) ≤ (I (o0 + 2) (ix x4)) → aok (cxS K) (o0 + 3) 0 x5 ∧ ∀ v14 : Int32, v14 = (I (o0 + 3) (ix x5)) → wp_X7_common_269 K o0 i1 i2 i3 C168 C180 I L A x4 x5 y0 v14 0 Q) ∧ (¬ (I (o0 + 3) (ix x5)) ≤ (I (o0 + 2) (ix x4)) → aok (cxS K) (o0 + 2) 0 x4 ∧ ∀ v16 : Int32, v16 = (I (o0 + 2) (ix x4)) → wp_X7_common_269 K o0 i1 i2 i3 C168 C180 I L A x4 x5 y0 v16 0 Q))
def wp_X7_common_227 (K : Cx) (o0 : Nat) (i1 : Int32) (i2 : Int32) (i3 : Int32) (C168 : TI → TL → TA → Int32 → Prop) (C180 : TI → TL → TA → Int32 → Int32 → Prop) (I : TI) (L : TL) (A : TA) (x4 : Int32) (x5 : Int32) (Q : Int32 → TI → TL → TA → Prop) : Prop := wp_X7_common_228 K o0 i1 i2 i3 C168 C180 I L A x4 x5 0 Q
def wp_X7_common_180 (K : Cx) (o0 : Nat) (i1 : Int32) (i2 : Int32) (i3 : Int32) (C168 : TI → TL → TA → Int32 → Prop) (I : TI) (L : TL) (A : TA) (x4 : Int32) (x5 : Int32) (Q : Int32 → TI → TL → TA → Prop) : Prop := ∃ (Inv : Nat → TI → TL → TA → Int32 → Int32 → Prop) (μ : Nat), Inv μ I L A x4 x5 ∧ ∀ (μ : Nat) (C180 : TI → TL → TA → Int32 → Int32 → Prop), (∀ (μ' : Nat) (I : TI) (L : TL) (A : TA) (x4 : Int32) (x5 : Int32) , μ' < μ → Inv μ' I L A x4 x5 → C180 I L A x4 x5) → ∀ (I : TI) (L : TL) (A : TA) (x4 : Int32) (x5 : Int32) , Inv μ I L A x4 x5 → cxS K o0 = shX7 o0 ∧ (((I o0 3) ≤ x5 → ∀ v18 : Int32, v18 = x4 + 1 → C168 I L A v18) ∧ (¬ (I o0 3) ≤ x5 → ∃ P19 : Int32 → TI → TL → TA → Prop, ConI K yX7_isBefore wsX7_isBefore 1 22 I L A [.ref o0, .int (12 + x4), .int (20 + x5)] P19 ∧ ∀ (r24 : Int32) (I21 : TI) (L22 : TL) (A23 : TA), P19 r24 I21 L22 A23 → ((r24 = 0 → ∃ P25 : Int32 → TI → TL → TA → Prop, ConI K yX7_isBefore wsX7_isBefore 1 22 I21 L22 A23 [.ref o0, .int (20 + x5), .int (12 + x4)] P25 ∧ ∀ (r30 : Int32) (I27 : TI) (L28 : TL) (A29 : TA), P25 r30 I27 L28 A29 → ((r30 = 0 → wp_X7_common_228 K o0 i1 i2 i3 C168 C180 I27 L28 A29 x4 x5 1 Q) ∧ (¬ r30 = 0 → wp_X7_common_227 K o0 i1 i2 i3 C168 C180 I27 L28 A29 x4 x5 Q))) ∧ (¬ r24 = 0 → wp_X7_common_227 K o0 i1 i2 i3 C168 C180 I21 L22 A23 x4 x5 Q))))
def wp_X7_common_168 (K : Cx) (o0 : Nat) (i1 : Int32) (i2 : Int32) (i3 : Int32) (I : TI) (L : TL) (A : TA) (x4 : Int32) (Q : Int32 → TI → TL → TA → Prop) : Prop := ∃ (Inv : Nat → TI → TL → TA → Int32 → Prop) (μ : Nat), Inv μ I L A x4 ∧ ∀ (μ : Nat) (C168 : TI → TL → TA → Int32 → Prop), (∀ (μ' : Nat) (I : TI) (L : TL) (A : TA) (x4 : Int32) , μ' < μ → Inv μ' I L A x4 → C168 I L A x4) → ∀ (I : TI) (L : TL) (A : TA) (x4 : Int32) , Inv μ I L A x4 → cxS K o0 = shX7 o0 ∧ (((I o0 2) ≤ x4 → ∃ P32 : Int32 → TI → TL → TA → Prop, ConI K yX7_finish wsX7_finish 1 23 I L A [.ref o0, .int i1] P32 ∧ ∀ (r37 : Int32) (I34 : TI) (L35 : TL) (A36 : TA), P32 r37 I34 L35 A36 → Q r37 I34 L35 A36) ∧ (¬ (I o0 2) ≤ x4 → wp_X7_common_180 K o0 i1 i2 i3 C168 I L A x4 0 Q))
def wp_X7_common_103 (K : Cx) (o0 : Nat) (i1 : Int32) (i2 : Int32) (i3 : Int32) (I : TI) (L : TL) (A : TA) (x4 : Int32) (Q : Int32 → TI → TL → TA → Prop) : Prop := ∃ (Inv : Nat → TI → TL → TA → Int32 → Prop) (μ : Nat), Inv μ I L A x4 ∧ ∀ (μ : Nat) (C103 : TI → TL → TA → Int32 → Prop), (∀ (μ' : Nat) (I : TI) (L : TL) (A : TA) (x4 : Int32) , μ' < μ → Inv μ' I L A x4 → C103 I L A x4) → ∀ (I : TI) (L : TL) (A : TA) (x4 : Int32) , Inv μ I L A x4 → cxS K o0 = shX7 o0 ∧ (((I o0 2) ≤ x4 → ∃ P39 : TI → TL → TA → Prop, ConV K yX7_takeApart wsX7_takeApart 6 149 I L A [.ref o0, .int i3] P39 ∧ ∀ (I41 : TI) (L42 : TL) (A43 : TA), P39 I41 L42 A43 → ∃ P44 : TI → TL → TA → Prop, ConV K yX7_clear wsX7_clear 0 0 I41 L42 A43 [.ref o0, .int 8] P44 ∧ ∀ (I46 : TI) (L47 : TL) (A48 : TA), P44 I46 L47 A48 → aok (cxS K) (o0 + 1) 1 64 ∧ ∀ L50 : TL, L50 = u2 L47 (o0 + 1) (ix 64) 1 → wp_X7_common_168 K o0 i1 i2 i3 I46 L50 A48 0 Q) ∧ (¬ (I o0 2) ≤ x4 → ∃ P51 : TI → TL → TA → Prop, ConV K yX7_copy wsX7_copy 0 0 I L A [.ref o0, .int (20 + x4), .int (12 + x4)] P51 ∧ ∀ (I53 : TI) (L54 : TL) (A55 : TA), P51 I53 L54 A55 → aok (cxS K) (o0 + 2) 0 x4 ∧ aok (cxS K) (o0 + 3) 0 x4 ∧ ∀ I58 : TI, I58 = u2 I53 (o0 + 3) (ix x4) (I53 (o0 + 2) (ix x4)) → ∀ v59 : Int32, v59 = x4 + 1 → C103 I58 L54 A55 v59))
def wp_X7_common_67 (K : Cx) (o0 : Nat) (i1 : Int32) (i2 : Int32) (i3 : Int32) (I : TI) (L : TL) (A : TA) (y0 : Int32) (y1 : Int32) (y2 : Nat) (Q : Int32 → TI → TL → TA → Prop) : Prop := cxS K y2 = shX7 y2 ∧ ∃ P61 : TI → TL → TA → Prop, ConV K yX7_copy wsX7_copy 0 0 I L A [.ref y2, .int y1, .int y0] P61 ∧ ∀ (I63 : TI) (L64 : TL) (A65 : TA), P61 I63 L64 A65 → cxS K o0 = shX7 o0 ∧ ∃ P67 : Int64 → TI → TL → TA → Prop, ConL K yX7_takeContent wsX7_takeContent 1 29 I63 L64 A65 [.ref o0, .int 8] P67 ∧ ∀ (r72 : Int64) (I69 : TI) (L70 : TL) (A71 : TA), P67 r72 I69 L70 A71 → ∀ I73 : TI, I73 = u2 I69 o0 6 (Int64.toInt32 r72) → ∃ P74 : Int32 → TI → TL → TA → Prop, ConI K yX7_finish wsX7_finish 1 23 I73 L70 A71 [.ref o0, .int i1] P74 ∧ ∀ (r79 : Int32) (I76 : TI) (L77 : TL) (A78 : TA), P74 r79 I76 L77 A78 → Q r79 I76 L77 A78
def wp_X7_common_51 (K : Cx) (o0 : Nat) (i1 : Int32) (i2 : Int32) (i3 : Int32) (I : TI) (L : TL) (A : TA) (Q : Int32 → TI → TL → TA → Prop) : Prop := cxS K o0 = shX7 o0 ∧ ∃ P81 : Int32 → TI → TL → TA → Prop, ConI K yX7_isZero wsX7_isZero 1 22 I L A [.ref o0, .int i2] P81 ∧ ∀ (r86 : Int32) (I83 : TI) (L84 : TL) (A85 : TA), P81 r86 I83 L84 A85 → ((r86 = 0 → wp_X7_common_67 K o0 i1 i2 i3 I83 L84 A85 i2 8 o0 Q) ∧ (¬ r86 = 0 → wp_X7_common_67 K o0 i1 i2 i3 I83 L84 A85 i3 8 o0 Q))
def wp_X7_common_27 (K : Cx) (o0 : Nat) (i1 : Int32) (i2 : Int32) (i3 : Int32) (I : TI) (L : TL) (A : TA) (y0 : Int32) (y1 : Nat) (Q : Int32 → TI → TL → TA → Prop) : Prop := cxS K y1 = shX7 y1 ∧ ∃ P88 : Int32 → TI → TL → TA → Prop, ConI K yX7_refused wsX7_refused 0 0 I L A [.ref y1, .int y0] P88 ∧ ∀ (r93 : Int32) (I90 : TI) (L91 : TL) (A92 : TA), P88 r93 I90 L91 A92 → ((r93 = 0 → cxS K o0 = shX7 o0 ∧ ∃ P95 : Int32 → TI → TL → TA → Prop, ConI K yX7_isZero wsX7_isZero 1 22 I90 L91 A92 [.ref o0, .int i2] P95 ∧ ∀ (r100 : Int32) (I97 : TI) (L98 : TL) (A99 : TA), P95 r100 I97 L98 A99 → ((r100 = 0 → ∃ P101 : Int32 → TI → TL → TA → Prop, ConI K yX7_isZero wsX7_isZero 1 22 I97 L98 A99 [.ref o0, .int i3] P101 ∧ ∀ (r106 : Int32) (I103 : TI) (L104 : TL) (A105 : TA), P101 r106 I103 L104 A105 → ((r106 = 0 → ∃ P107 : TI → TL → TA → Prop, ConV K yX7_takeApart wsX7_takeApart 6 149 I103 L104 A105 [.ref o0, .int i2] P107 ∧ ∀ (I109 : TI) (L110 : TL) (A111 : TA), P107 I109 L110 A111 → ∀ I112 : TI, I112 = u2 I109 o0 3 (I109 o0 2) → wp_X7_common_103 K o0 i1 i2 i3 I112 L110 A111 0 Q) ∧ (¬ r106 = 0 → wp_X7_common_51 K o0 i1 i2 i3 I103 L104 A105 Q))) ∧ (¬ r100 = 0 → wp_X7_common_51 K o0 i1 i2 i3 I97 L98 A99 Q))) ∧ (¬ r93 = 0 → Q 0 I90 L91 A92))
def wp_X7_common_26 (K : Cx) (o0 : Nat) (i1 : Int32) (i2 : Int32) (i3 : Int32) (I : TI) (L : TL) (A : TA) (y0 : Nat) (Q : Int32 → TI → TL → TA → Prop) : Prop := wp_X7_common_27 K o0 i1 i2 i3 I L A 1 y0 Q
def wp_X7_common (K : Cx) (I : TI) (L : TL) (A : TA) (o0 : Nat) (i1 : Int32) (i2 : Int32) (i3 : Int32) (Q : Int32 → TI → TL → TA → Prop) : Prop := ∃ P113 : Int32 → TI → TL → TA → Prop, ConI K yX7_isSlot wsX7_isSlot 0 0 I L A [.int i1] P113 ∧ ∀ (r118 : Int32) (I115 : TI) (L116 : TL) (A117 : TA), P113 r118 I115 L116 A117 → ((r118 = 0 → wp_X7_common_26 K o0 i1 i2 i3 I115 L116 A117 o0 Q) ∧ (¬ r118 = 0 → ∃ P119 : Int32 → TI → TL → TA → Prop, ConI K yX7_isSlot wsX7_isSlot 0 0 I115 L116 A117 [.int i2] P119 ∧ ∀ (r124 : Int32) (I121 : TI) (L122 : TL) (A123 : TA), P119 r124 I121 L122 A123 → ((r124 = 0 → wp_X7_common_26 K o0 i1 i2 i3 I121 L122 A123 o0 Q) ∧ (¬ r124 = 0 → ∃ P125 : Int32 → TI → TL → TA → Prop, ConI K yX7_isSlot wsX7_isSlot 0 0 I121 L122 A123 [.int i3] P125 ∧ ∀ (r130 : Int32) (I127 : TI) (L128 : TL) (A129 : TA), P125 r130 I127 L128 A129 → ((r130 = 0 → wp_X7_common_26 K o0 i1 i2 i3 I127 L128 A129 o0 Q) ∧ (¬ r130 = 0 → wp_X7_common_27 K o0 i1 i2 i3 I127 L128 A129 0 o0 Q))))))
set_option maxHeartbeats 1000000 in
set_option maxRecDepth 100000 in
theorem w_X7_common (K : Cx) (I : TI) (L : TL) (A : TA) (o0 : Nat) (i1 : Int32) (i2 : Int32) (i3 : Int32) (Q : Int32 → TI → TL → TA → Prop) (hwp : wp_X7_common K I L A o0 i1 i2 i3 Q) : ConI K yX7_common wsX7_common 7 170 I L A [.ref o0, .int i1, .int i2, .int i3] Q := by
  intro hK sz
  refine Met.ofW (cc := cX7_common) (maxL := 9) (ret := (some .int)) (by decide) rfl ?_
  intro p e s m args below meth c s₁ B hml hv
  obtain ⟨rfl, hsz, hB⟩ := hv
  have hx := B.exec
  have hb := B.bytes
  have hret := B.returns
  have hts := atoms_spec (ws := wsX7_common) B.pre
  have hown : s.vm.findClass RX7 = some m.cls := findClass_of_methodNamed B.named
  have hlocks := B.notSynchronized
  subst hsz
  have hz : SS K s I L A s.heap [] := PS.start hB
  have hl := lv_entry ([.ref o0, .int i1, .int i2, .int i3]) (n := 9) (Nat.le_of_ble_eq_true rfl)
  rw [lg_entry_eq]
  generalize (lg_sl ([.ref o0, .int i1, .int i2, .int i3]) ++ List.replicate (9 - (lg_sl ([.ref o0, .int i1, .int i2, .int i3])).length) Slot.unset).toArray = ls at hl ⊢
  have hl : lv_has ls 9 [(0, .ref o0), (1, .int i1), (2, .int i2), (3, .int i3)] := hl
  have hw0 : ∀ w ∈ u_ws RX7 TX7 25, w ∈ wsX7_common := by decide +kernel
  have hw1 := hts (.fieldLink RX7 13 "GaloisDeskModel" "often" "[I") (by decide +kernel)
  have hw2 := hts (.fieldLink RX7 17 "GaloisDeskModel" "otherOften" "[I") (by decide +kernel)
  have hw3 := hts (.fieldLink RX7 155 "GaloisDeskModel" "otherMany" "I") (by decide +kernel)
  have hw4 := hts (.fieldLink RX7 83 "GaloisDeskModel" "many" "I") (by decide +kernel)
  have hw5 := hts (.fieldLink RX7 7 "GaloisDeskModel" "row" "[J") (by decide +kernel)
  have hw6 := hts (.fieldLink RX7 134 "GaloisDeskModel" "content" "I") (by decide +kernel)
  clear hB B
  have wL269 : ∀ (C168 : TI → TL → TA → Int32 → Prop) (C180 : TI → TL → TA → Int32 → Int32 → Prop) (hC168 : ∀ (I : TI) (L : TL) (A : TA) (x4 : Int32) (H : Heap) (locs : List Loc) (ls : Array Slot), C168 I L A x4 → SS K s I L A H locs → lv_has ls 9 [(0, .ref o0), (1, .int i1), (4, .int x4)] → W p (cxl K) e (headSpec wsX7_common (rmF 7 170)).room s m ([.ref o0, .int i1, .int i2, .int i3] : List Value).toArray below meth c H locs 0 0 (MQ below (cxQi K Q) ([.ref o0, .int i1, .int i2, .int i3] : List Value).toArray s 0 0 (PA (cxb K))) (F0 m 168 ls [])) (hC180 : ∀ (I : TI) (L : TL) (A : TA) (x4 : Int32) (x5 : Int32) (H : Heap) (locs : List Loc) (ls : Array Slot), C180 I L A x4 x5 → SS K s I L A H locs → lv_has ls 9 [(0, .ref o0), (1, .int i1), (4, .int x4), (5, .int x5)] → W p (cxl K) e (headSpec wsX7_common (rmF 7 170)).room s m ([.ref o0, .int i1, .int i2, .int i3] : List Value).toArray below meth c H locs 0 0 (MQ below (cxQi K Q) ([.ref o0, .int i1, .int i2, .int i3] : List Value).toArray s 0 0 (PA (cxb K))) (F0 m 180 ls [])) (I : TI) (L : TL) (A : TA) (x4 : Int32) (x5 : Int32) (x6 : Int32) (x7 : Int32) (x8 : Int32) (H : Heap) (locs : List Loc) (ls : Array Slot), wp_X7_common_269 K o0 i1 i2 i3 C168 C180 I L A x4 x5 x6 x7 x8 Q → SS K s I L A H locs → lv_has ls 9 [(0, .ref o0), (1, .int i1), (4, .int x4), (5, .int x5), (6, .int x6), (7, .int x7), (8, .int x8)] → W p (cxl K) e (headSpec wsX7_common (rmF 7 170)).room s m ([.ref o0, .int i1, .int i2, .int i3] : List Value).toArray below meth c H locs 0 0 (MQ below (cxQi K Q) ([.ref o0, .int i1, .int i2, .int i3] : List Value).toArray s 0 0 (PA (cxb K))) (F0 m 269 ls []) := by
    intro C168 C180 hC168 hC180 I L A x4 x5 x6 x7 x8 H locs ls hwp hz hl
    obtain ⟨Inv, μ, hi, hst⟩ := hwp
    have key : ∀ (μ : Nat) (I : TI) (L : TL) (A : TA) (x4 : Int32) (x5 : Int32) (x6 : Int32) (x7 : Int32) (x8 : Int32) (H : Heap) (locs : List Loc) (ls : Array Slot), Inv μ I L A x4 x5 x6 x7 x8 → SS K s I L A H locs → lv_has ls 9 [(0, .ref o0), (1, .int i1), (4, .int x4), (5, .int x5), (6, .int x6), (7, .int x7), (8, .int x8)] → W p (cxl K) e (headSpec wsX7_common (rmF 7 170)).room s m ([.ref o0, .int i1, .int i2, .int i3] : List Value).toArray below meth c H locs 0 0 (MQ below (cxQi K Q) ([.ref o0, .int i1, .int i2, .int i3] : List Value).toArray s 0 0 (PA (cxb K))) (F0 m 269 ls []) := by
      clear hi hz hl
      intro μ
      induction μ using Nat.strongRecOn with | ind μ ih => ?_
      intro I L A x4 x5 x6 x7 x8 H locs ls hi hz hl
      obtain ⟨C269, hCd⟩ : ∃ C : TI → TL → TA → Int32 → Int32 → Int32 → Int32 → Int32 → Prop, C = fun I L A x4 x5 x6 x7 x8 => ∃ μ', μ' < μ ∧ Inv μ' I L A x4 x5 x6 x7 x8 := ⟨_, rfl⟩
      have hC269 : ∀ (I : TI) (L : TL) (A : TA) (x4 : Int32) (x5 : Int32) (x6 : Int32) (x7 : Int32) (x8 : Int32) (H : Heap) (locs : List Loc) (ls : Array Slot), C269 I L A x4 x5 x6 x7 x8 → SS K s I L A H locs → lv_has ls 9 [(0, .ref o0), (1, .int i1), (4, .int x4), (5, .int x5), (6, .int x6), (7, .int x7), (8, .int x8)] → W p (cxl K) e (headSpec wsX7_common (rmF 7 170)).room s m ([.ref o0, .int i1, .int i2, .int i3] : List Value).toArray below meth c H locs 0 0 (MQ below (cxQi K Q) ([.ref o0, .int i1, .int i2, .int i3] : List Value).toArray s 0 0 (PA (cxb K))) (F0 m 269 ls []) := by
        intro I L A x4 x5 x6 x7 x8 H locs ls hc hz hl
        rw [hCd] at hc
        obtain ⟨μ', hlt, hc⟩ := hc
        exact ih μ' hlt I L A x4 x5 x6 x7 x8 H locs ls hc hz hl
      have hwp := hst μ C269 (fun μ' I L A x4 x5 x6 x7 x8 hlt hc => by rw [hCd]; exact ⟨μ', hlt, hc⟩) I L A x4 x5 x6 x7 x8 hi
      refine lv_iload hx hb dX7_common_269 (lv_at hl 6 rfl) ?_
      refine lv_iload hx hb dX7_common_271 (lv_at hl 5 rfl) ?_
      refine lv_icmp_ge (tgt := 296) hx hb dX7_common_273 (by decide) (fun q => ?_) (fun q => ?_)
      · have hwp := hwp.1 q
        obtain ⟨v1, q_v1⟩ : ∃ y : Int32, y = x5 + 1 := ⟨_, rfl⟩
        have hwp := hwp v1 q_v1
        refine lv_iinc (v := v1) (lv' := [(5, .int v1), (0, .ref o0), (1, .int i1), (4, .int x4), (6, .int x6), (7, .int x7), (8, .int x8)]) hx hb dX7_common_296 hl (k := 3) rfl (by rw [q_v1]; rfl) (by decide) rfl (fun ls hl => ?_)
        refine lv_goto (tgt := 180) hx hb dX7_common_299 (by decide) ?_
        exact hC180 _ _ _ _ _ _ _ _ hwp hz (lv_sub hl [1, 2, 3, 0] rfl)
      · have hwp := hwp.2 q
        refine lv_iload hx hb dX7_common_276 (lv_at hl 4 rfl) ?_
        refine lv_if_eq (tgt := 296) hx hb dX7_common_278 (by decide) (fun q => ?_) (fun q => ?_)
        · have hwp := hwp.1 q
          obtain ⟨v2, q_v2⟩ : ∃ y : Int32, y = x5 + 1 := ⟨_, rfl⟩
          have hwp := hwp v2 q_v2
          refine lv_iinc (v := v2) (lv' := [(5, .int v2), (0, .ref o0), (1, .int i1), (4, .int x4), (6, .int x6), (7, .int x7), (8, .int x8)]) hx hb dX7_common_296 hl (k := 3) rfl (by rw [q_v2]; rfl) (by decide) rfl (fun ls hl => ?_)
          refine lv_goto (tgt := 180) hx hb dX7_common_299 (by decide) ?_
          exact hC180 _ _ _ _ _ _ _ _ hwp hz (lv_sub hl [1, 2, 3, 0] rfl)
        · have hwp := hwp.2 q
          refine lv_aload_n hx hb dX7_common_281 rfl (lv_at hl 0 rfl) ?_
          refine lv_bipush (v := 12) hx hb dX7_common_282 (by decide) ?_
          refine lv_iload hx hb dX7_common_284 (lv_at hl 2 rfl) ?_
          refine lv_iadd hx hb dX7_common_286 ?_
          obtain ⟨hs3, hwp⟩ := hwp
          obtain ⟨P4, hc5, hwp⟩ := hwp
          refine sw_callv hz (va_runV (As := [.int (12 + x4)]) (rest := []) ⟨hx, hb, hml, hown, hts⟩ (hc5 hK _) (cwV 1 hts gX7_common_X7_timesPart rfl rfl rfl (by decide +kernel) ⟨Nat.le_of_ble_eq_true rfl, Nat.le_of_ble_eq_true rfl⟩) (hz.preV hK hs3 rfl) rfl rfl hl.1 rfl (lv_room (Nat.le_of_ble_eq_true rfl)) dX7_common_287 ⟨Nat.le_of_ble_eq_true rfl, Nat.le_of_ble_eq_true rfl⟩) (fun I6 L7 A8 H locs hp hz => ?_)
          have hwp := hwp I6 L7 A8 hp
          obtain ⟨v9, q_v9⟩ : ∃ y : Int32, y = x8 + 1 := ⟨_, rfl⟩
          have hwp := hwp v9 q_v9
          refine lv_iinc (v := v9) (lv' := [(8, .int v9), (0, .ref o0), (1, .int i1), (4, .int x4), (5, .int x5), (6, .int x6), (7, .int x7)]) hx hb dX7_common_290 hl (k := 6) rfl (by rw [q_v9]; rfl) (by decide) rfl (fun ls hl => ?_)
          refine lv_goto (tgt := 269) hx hb dX7_common_293 (by decide) ?_
          exact hC269 _ _ _ _ _ _ _ _ _ _ _ hwp hz (lv_sub hl [1, 2, 3, 4, 5, 6, 0] rfl)
    exact key μ I L A x4 x5 x6 x7 x8 H locs ls hi hz hl
  have wL228 : ∀ (C168 : TI → TL → TA → Int32 → Prop) (C180 : TI → TL → TA → Int32 → Int32 → Prop) (hC168 : ∀ (I : TI) (L : TL) (A : TA) (x4 : Int32) (H : Heap) (locs : List Loc) (ls : Array Slot), C168 I L A x4 → SS K s I L A H locs → lv_has ls 9 [(0, .ref o0), (1, .int i1), (4, .int x4)] → W p (cxl K) e (headSpec wsX7_common (rmF 7 170)).room s m ([.ref o0, .int i1, .int i2, .int i3] : List Value).toArray below meth c H locs 0 0 (MQ below (cxQi K Q) ([.ref o0, .int i1, .int i2, .int i3] : List Value).toArray s 0 0 (PA (cxb K))) (F0 m 168 ls [])) (hC180 : ∀ (I : TI) (L : TL) (A : TA) (x4 : Int32) (x5 : Int32) (H : Heap) (locs : List Loc) (ls : Array Slot), C180 I L A x4 x5 → SS K s I L A H locs → lv_has ls 9 [(0, .ref o0), (1, .int i1), (4, .int x4), (5, .int x5)] → W p (cxl K) e (headSpec wsX7_common (rmF 7 170)).room s m ([.ref o0, .int i1, .int i2, .int i3] : List Value).toArray below meth c H locs 0 0 (MQ below (cxQi K Q) ([.ref o0, .int i1, .int i2, .int i3] : List Value).toArray s 0 0 (PA (cxb K))) (F0 m 180 ls [])) (I : TI) (L : TL) (A : TA) (x4 : Int32) (x5 : Int32) (y0 : Int32) (H : Heap) (locs : List Loc) (ls : Array Slot), wp_X7_common_228 K o0 i1 i2 i3 C168 C180 I L A x4 x5 y0 Q → SS K s I L A H locs → lv_has ls 9 [(0, .ref o0), (1, .int i1), (4, .int x4), (5, .int x5)] → W p (cxl K) e (headSpec wsX7_common (rmF 7 170)).room s m ([.ref o0, .int i1, .int i2, .int i3] : List Value).toArray below meth c H locs 0 0 (MQ below (cxQi K Q) ([.ref o0, .int i1, .int i2, .int i3] : List Value).toArray s 0 0 (PA (cxb K))) (F0 m 228 ls [.int y0]) := by
    intro C168 C180 hC168 hC180 I L A x4 x5 y0 H locs ls hwp hz hl
    refine lv_istore (lv' := [(6, .int y0), (0, .ref o0), (1, .int i1), (4, .int x4), (5, .int x5)]) hx hb dX7_common_228 hl (by decide) rfl (fun ls hl => ?_)
    refine lv_aload_n hx hb dX7_common_230 rfl (lv_at hl 1 rfl) ?_
    obtain ⟨hs10, hwp⟩ := hwp
    refine sw_get (C := RX7) (T := TX7) (N := 25) (v := .ref (o0 + 2)) hx hb hts hw0 hown hK hz hs10 rfl 4 (by decide) hw1 (fun _ h9 => h9) rfl dX7_common_231 ?_
    refine lv_iload hx hb dX7_common_234 (lv_at hl 3 rfl) ?_
    obtain ⟨ho11, hwp⟩ := hwp
    refine sw_iald hx hb hK hz ho11 dX7_common_236 ?_
    refine lv_aload_n hx hb dX7_common_237 rfl (lv_at hl 1 rfl) ?_
    refine sw_get (C := RX7) (T := TX7) (N := 25) (v := .ref (o0 + 3)) hx hb hts hw0 hown hK hz hs10 rfl 5 (by decide) hw2 (fun _ h9 => h9) rfl dX7_common_238 ?_
    refine lv_iload hx hb dX7_common_241 (lv_at hl 4 rfl) ?_
    obtain ⟨ho12, hwp⟩ := hwp
    refine sw_iald hx hb hK hz ho12 dX7_common_243 ?_
    refine lv_icmp_ge (tgt := 257) hx hb dX7_common_244 (by decide) (fun q => ?_) (fun q => ?_)
    · have hwp := hwp.1 q
      refine lv_aload_n hx hb dX7_common_257 rfl (lv_at hl 1 rfl) ?_
      refine sw_get (C := RX7) (T := TX7) (N := 25) (v := .ref (o0 + 3)) hx hb hts hw0 hown hK hz hs10 rfl 5 (by decide) hw2 (fun _ h9 => h9) rfl dX7_common_258 ?_
      refine lv_iload hx hb dX7_common_261 (lv_at hl 4 rfl) ?_
      obtain ⟨ho13, hwp⟩ := hwp
      refine sw_iald hx hb hK hz ho13 dX7_common_263 ?_
      refine lv_topi (fun v14 q_v14 => ?_)
      have hwp := hwp v14 q_v14
      refine lv_istore (lv' := [(7, .int v14), (6, .int y0), (0, .ref o0), (1, .int i1), (4, .int x4), (5, .int x5)]) hx hb dX7_common_264 hl (by decide) rfl (fun ls hl => ?_)
      refine lv_iconst (v := 0) hx hb dX7_common_266 (by decide) ?_
      refine lv_istore (lv' := [(8, .int 0), (7, .int v14), (6, .int y0), (0, .ref o0), (1, .int i1), (4, .int x4), (5, .int x5)]) hx hb dX7_common_267 hl (by decide) rfl (fun ls hl => ?_)
      exact wL269 _ _ hC168 hC180 _ _ _ _ _ _ _ _ _ _ _ hwp hz (lv_sub hl [3, 4, 5, 6, 2, 1, 0] rfl)
    · have hwp := hwp.2 q
      refine lv_aload_n hx hb dX7_common_247 rfl (lv_at hl 1 rfl) ?_
      refine sw_get (C := RX7) (T := TX7) (N := 25) (v := .ref (o0 + 2)) hx hb hts hw0 hown hK hz hs10 rfl 4 (by decide) hw1 (fun _ h9 => h9) rfl dX7_common_248 ?_
      refine lv_iload hx hb dX7_common_251 (lv_at hl 3 rfl) ?_
      obtain ⟨ho15, hwp⟩ := hwp
      refine sw_iald hx hb hK hz ho15 dX7_common_253 ?_
      refine lv_goto (tgt := 264) hx hb dX7_common_254 (by decide) ?_
      refine lv_topi (fun v16 q_v16 => ?_)
      have hwp := hwp v16 q_v16
      refine lv_istore (lv' := [(7, .int v16), (6, .int y0), (0, .ref o0), (1, .int i1), (4, .int x4), (5, .int x5)]) hx hb dX7_common_264 hl (by decide) rfl (fun ls hl => ?_)
      refine lv_iconst (v := 0) hx hb dX7_common_266 (by decide) ?_
      refine lv_istore (lv' := [(8, .int 0), (7, .int v16), (6, .int y0), (0, .ref o0), (1, .int i1), (4, .int x4), (5, .int x5)]) hx hb dX7_common_267 hl (by decide) rfl (fun ls hl => ?_)
      exact wL269 _ _ hC168 hC180 _ _ _ _ _ _ _ _ _ _ _ hwp hz (lv_sub hl [3, 4, 5, 6, 2, 1, 0] rfl)
  have wL227 : ∀ (C168 : TI → TL → TA → Int32 → Prop) (C180 : TI → TL → TA → Int32 → Int32 → Prop) (hC168 : ∀ (I : TI) (L : TL) (A : TA) (x4 : Int32) (H : Heap) (locs : List Loc) (ls : Array Slot), C168 I L A x4 → SS K s I L A H locs → lv_has ls 9 [(0, .ref o0), (1, .int i1), (4, .int x4)] → W p (cxl K) e (headSpec wsX7_common (rmF 7 170)).room s m ([.ref o0, .int i1, .int i2, .int i3] : List Value).toArray below meth c H locs 0 0 (MQ below (cxQi K Q) ([.ref o0, .int i1, .int i2, .int i3] : List Value).toArray s 0 0 (PA (cxb K))) (F0 m 168 ls [])) (hC180 : ∀ (I : TI) (L : TL) (A : TA) (x4 : Int32) (x5 : Int32) (H : Heap) (locs : List Loc) (ls : Array Slot), C180 I L A x4 x5 → SS K s I L A H locs → lv_has ls 9 [(0, .ref o0), (1, .int i1), (4, .int x4), (5, .int x5)] → W p (cxl K) e (headSpec wsX7_common (rmF 7 170)).room s m ([.ref o0, .int i1, .int i2, .int i3] : List Value).toArray below meth c H locs 0 0 (MQ below (cxQi K Q) ([.ref o0, .int i1, .int i2, .int i3] : List Value).toArray s 0 0 (PA (cxb K))) (F0 m 180 ls [])) (I : TI) (L : TL) (A : TA) (x4 : Int32) (x5 : Int32) (H : Heap) (locs : List Loc) (ls : Array Slot), wp_X7_common_227 K o0 i1 i2 i3 C168 C180 I L A x4 x5 Q → SS K s I L A H locs → lv_has ls 9 [(0, .ref o0), (1, .int i1), (4, .int x4), (5, .int x5)] → W p (cxl K) e (headSpec wsX7_common (rmF 7 170)).room s m ([.ref o0, .int i1, .int i2, .int i3] : List Value).toArray below meth c H locs 0 0 (MQ below (cxQi K Q) ([.ref o0, .int i1, .int i2, .int i3] : List Value).toArray s 0 0 (PA (cxb K))) (F0 m 227 ls []) := by
    intro C168 C180 hC168 hC180 I L A x4 x5 H locs ls hwp hz hl
    refine lv_iconst (v := 0) hx hb dX7_common_227 (by decide) ?_
    exact wL228 _ _ hC168 hC180 _ _ _ _ _ _ _ _ _ hwp hz (lv_sub hl [0, 1, 2, 3] rfl)
  have wL180 : ∀ (C168 : TI → TL → TA → Int32 → Prop) (hC168 : ∀ (I : TI) (L : TL) (A : TA) (x4 : Int32) (H : Heap) (locs : List Loc) (ls : Array Slot), C168 I L A x4 → SS K s I L A H locs → lv_has ls 9 [(0, .ref o0), (1, .int i1), (4, .int x4)] → W p (cxl K) e (headSpec wsX7_common (rmF 7 170)).room s m ([.ref o0, .int i1, .int i2, .int i3] : List Value).toArray below meth c H locs 0 0 (MQ below (cxQi K Q) ([.ref o0, .int i1, .int i2, .int i3] : List Value).toArray s 0 0 (PA (cxb K))) (F0 m 168 ls [])) (I : TI) (L : TL) (A : TA) (x4 : Int32) (x5 : Int32) (H : Heap) (locs : List Loc) (ls : Array Slot), wp_X7_common_180 K o0 i1 i2 i3 C168 I L A x4 x5 Q → SS K s I L A H locs → lv_has ls 9 [(0, .ref o0), (1, .int i1), (4, .int x4), (5, .int x5)] → W p (cxl K) e (headSpec wsX7_common (rmF 7 170)).room s m ([.ref o0, .int i1, .int i2, .int i3] : List Value).toArray below meth c H locs 0 0 (MQ below (cxQi K Q) ([.ref o0, .int i1, .int i2, .int i3] : List Value).toArray s 0 0 (PA (cxb K))) (F0 m 180 ls []) := by
    intro C168 hC168 I L A x4 x5 H locs ls hwp hz hl
    obtain ⟨Inv, μ, hi, hst⟩ := hwp
    have key : ∀ (μ : Nat) (I : TI) (L : TL) (A : TA) (x4 : Int32) (x5 : Int32) (H : Heap) (locs : List Loc) (ls : Array Slot), Inv μ I L A x4 x5 → SS K s I L A H locs → lv_has ls 9 [(0, .ref o0), (1, .int i1), (4, .int x4), (5, .int x5)] → W p (cxl K) e (headSpec wsX7_common (rmF 7 170)).room s m ([.ref o0, .int i1, .int i2, .int i3] : List Value).toArray below meth c H locs 0 0 (MQ below (cxQi K Q) ([.ref o0, .int i1, .int i2, .int i3] : List Value).toArray s 0 0 (PA (cxb K))) (F0 m 180 ls []) := by
      clear hi hz hl
      intro μ
      induction μ using Nat.strongRecOn with | ind μ ih => ?_
      intro I L A x4 x5 H locs ls hi hz hl
      obtain ⟨C180, hCd⟩ : ∃ C : TI → TL → TA → Int32 → Int32 → Prop, C = fun I L A x4 x5 => ∃ μ', μ' < μ ∧ Inv μ' I L A x4 x5 := ⟨_, rfl⟩
      have hC180 : ∀ (I : TI) (L : TL) (A : TA) (x4 : Int32) (x5 : Int32) (H : Heap) (locs : List Loc) (ls : Array Slot), C180 I L A x4 x5 → SS K s I L A H locs → lv_has ls 9 [(0, .ref o0), (1, .int i1), (4, .int x4), (5, .int x5)] → W p (cxl K) e (headSpec wsX7_common (rmF 7 170)).room s m ([.ref o0, .int i1, .int i2, .int i3] : List Value).toArray below meth c H locs 0 0 (MQ below (cxQi K Q) ([.ref o0, .int i1, .int i2, .int i3] : List Value).toArray s 0 0 (PA (cxb K))) (F0 m 180 ls []) := by
        intro I L A x4 x5 H locs ls hc hz hl
        rw [hCd] at hc
        obtain ⟨μ', hlt, hc⟩ := hc
        exact ih μ' hlt I L A x4 x5 H locs ls hc hz hl
      have hwp := hst μ C180 (fun μ' I L A x4 x5 hlt hc => by rw [hCd]; exact ⟨μ', hlt, hc⟩) I L A x4 x5 hi
      refine lv_iload hx hb dX7_common_180 (lv_at hl 3 rfl) ?_
      refine lv_aload_n hx hb dX7_common_182 rfl (lv_at hl 0 rfl) ?_
      obtain ⟨hs17, hwp⟩ := hwp
      refine sw_get (C := RX7) (T := TX7) (N := 25) (v := .int (I o0 3)) hx hb hts hw0 hown hK hz hs17 rfl 3 (by decide) hw3 (fun _ h9 => h9) rfl dX7_common_183 ?_
      refine lv_icmp_ge (tgt := 302) hx hb dX7_common_186 (by decide) (fun q => ?_) (fun q => ?_)
      · have hwp := hwp.1 q
        obtain ⟨v18, q_v18⟩ : ∃ y : Int32, y = x4 + 1 := ⟨_, rfl⟩
        have hwp := hwp v18 q_v18
        refine lv_iinc (v := v18) (lv' := [(4, .int v18), (0, .ref o0), (1, .int i1), (5, .int x5)]) hx hb dX7_common_302 hl (k := 2) rfl (by rw [q_v18]; rfl) (by decide) rfl (fun ls hl => ?_)
        refine lv_goto (tgt := 168) hx hb dX7_common_305 (by decide) ?_
        exact hC168 _ _ _ _ _ _ _ hwp hz (lv_sub hl [1, 2, 0] rfl)
      · have hwp := hwp.2 q
        refine lv_aload_n hx hb dX7_common_189 rfl (lv_at hl 0 rfl) ?_
        refine lv_bipush (v := 12) hx hb dX7_common_190 (by decide) ?_
        refine lv_iload hx hb dX7_common_192 (lv_at hl 2 rfl) ?_
        refine lv_iadd hx hb dX7_common_194 ?_
        refine lv_bipush (v := 20) hx hb dX7_common_195 (by decide) ?_
        refine lv_iload hx hb dX7_common_197 (lv_at hl 3 rfl) ?_
        refine lv_iadd hx hb dX7_common_199 ?_
        obtain ⟨P19, hc20, hwp⟩ := hwp
        refine sw_calli hz (va_runV (As := [.int (12 + x4), .int (20 + x5)]) (rest := []) ⟨hx, hb, hml, hown, hts⟩ (hc20 hK _) (cwV 2 hts gX7_common_X7_isBefore rfl rfl rfl (by decide +kernel) ⟨Nat.le_of_ble_eq_true rfl, Nat.le_of_ble_eq_true rfl⟩) (hz.preV hK hs17 rfl) rfl rfl hl.1 rfl (lv_room (Nat.le_of_ble_eq_true rfl)) dX7_common_200 ⟨Nat.le_of_ble_eq_true rfl, Nat.le_of_ble_eq_true rfl⟩) (fun r24 I21 L22 A23 H locs hp hz => ?_)
        have hwp := hwp r24 I21 L22 A23 hp
        refine lv_if_ne (tgt := 227) hx hb dX7_common_203 (by decide) (fun q => ?_) (fun q => ?_)
        · have hwp := hwp.2 q
          exact wL227 _ _ hC168 hC180 _ _ _ _ _ _ _ _ hwp hz (lv_sub hl [0, 1, 2, 3] rfl)
        · have hwp := hwp.1 q
          refine lv_aload_n hx hb dX7_common_206 rfl (lv_at hl 0 rfl) ?_
          refine lv_bipush (v := 20) hx hb dX7_common_207 (by decide) ?_
          refine lv_iload hx hb dX7_common_209 (lv_at hl 3 rfl) ?_
          refine lv_iadd hx hb dX7_common_211 ?_
          refine lv_bipush (v := 12) hx hb dX7_common_212 (by decide) ?_
          refine lv_iload hx hb dX7_common_214 (lv_at hl 2 rfl) ?_
          refine lv_iadd hx hb dX7_common_216 ?_
          obtain ⟨P25, hc26, hwp⟩ := hwp
          refine sw_calli hz (va_runV (As := [.int (20 + x5), .int (12 + x4)]) (rest := []) ⟨hx, hb, hml, hown, hts⟩ (hc26 hK _) (cwV 2 hts gX7_common_X7_isBefore rfl rfl rfl (by decide +kernel) ⟨Nat.le_of_ble_eq_true rfl, Nat.le_of_ble_eq_true rfl⟩) (hz.preV hK hs17 rfl) rfl rfl hl.1 rfl (lv_room (Nat.le_of_ble_eq_true rfl)) dX7_common_217 ⟨Nat.le_of_ble_eq_true rfl, Nat.le_of_ble_eq_true rfl⟩) (fun r30 I27 L28 A29 H locs hp hz => ?_)
          have hwp := hwp r30 I27 L28 A29 hp
          refine lv_if_ne (tgt := 227) hx hb dX7_common_220 (by decide) (fun q => ?_) (fun q => ?_)
          · have hwp := hwp.2 q
            exact wL227 _ _ hC168 hC180 _ _ _ _ _ _ _ _ hwp hz (lv_sub hl [0, 1, 2, 3] rfl)
          · have hwp := hwp.1 q
            refine lv_iconst (v := 1) hx hb dX7_common_223 (by decide) ?_
            refine lv_goto (tgt := 228) hx hb dX7_common_224 (by decide) ?_
            exact wL228 _ _ hC168 hC180 _ _ _ _ _ _ _ _ _ hwp hz (lv_sub hl [0, 1, 2, 3] rfl)
    exact key μ I L A x4 x5 H locs ls hi hz hl
  have wL168 : ∀ (I : TI) (L : TL) (A : TA) (x4 : Int32) (H : Heap) (locs : List Loc) (ls : Array Slot), wp_X7_common_168 K o0 i1 i2 i3 I L A x4 Q → SS K s I L A H locs → lv_has ls 9 [(0, .ref o0), (1, .int i1), (4, .int x4)] → W p (cxl K) e (headSpec wsX7_common (rmF 7 170)).room s m ([.ref o0, .int i1, .int i2, .int i3] : List Value).toArray below meth c H locs 0 0 (MQ below (cxQi K Q) ([.ref o0, .int i1, .int i2, .int i3] : List Value).toArray s 0 0 (PA (cxb K))) (F0 m 168 ls []) := by
    intro I L A x4 H locs ls hwp hz hl
    obtain ⟨Inv, μ, hi, hst⟩ := hwp
    have key : ∀ (μ : Nat) (I : TI) (L : TL) (A : TA) (x4 : Int32) (H : Heap) (locs : List Loc) (ls : Array Slot), Inv μ I L A x4 → SS K s I L A H locs → lv_has ls 9 [(0, .ref o0), (1, .int i1), (4, .int x4)] → W p (cxl K) e (headSpec wsX7_common (rmF 7 170)).room s m ([.ref o0, .int i1, .int i2, .int i3] : List Value).toArray below meth c H locs 0 0 (MQ below (cxQi K Q) ([.ref o0, .int i1, .int i2, .int i3] : List Value).toArray s 0 0 (PA (cxb K))) (F0 m 168 ls []) := by
      clear hi hz hl
      intro μ
      induction μ using Nat.strongRecOn with | ind μ ih => ?_
      intro I L A x4 H locs ls hi hz hl
      obtain ⟨C168, hCd⟩ : ∃ C : TI → TL → TA → Int32 → Prop, C = fun I L A x4 => ∃ μ', μ' < μ ∧ Inv μ' I L A x4 := ⟨_, rfl⟩
      have hC168 : ∀ (I : TI) (L : TL) (A : TA) (x4 : Int32) (H : Heap) (locs : List Loc) (ls : Array Slot), C168 I L A x4 → SS K s I L A H locs → lv_has ls 9 [(0, .ref o0), (1, .int i1), (4, .int x4)] → W p (cxl K) e (headSpec wsX7_common (rmF 7 170)).room s m ([.ref o0, .int i1, .int i2, .int i3] : List Value).toArray below meth c H locs 0 0 (MQ below (cxQi K Q) ([.ref o0, .int i1, .int i2, .int i3] : List Value).toArray s 0 0 (PA (cxb K))) (F0 m 168 ls []) := by
        intro I L A x4 H locs ls hc hz hl
        rw [hCd] at hc
        obtain ⟨μ', hlt, hc⟩ := hc
        exact ih μ' hlt I L A x4 H locs ls hc hz hl
      have hwp := hst μ C168 (fun μ' I L A x4 hlt hc => by rw [hCd]; exact ⟨μ', hlt, hc⟩) I L A x4 hi
      refine lv_iload hx hb dX7_common_168 (lv_at hl 2 rfl) ?_
      refine lv_aload_n hx hb dX7_common_170 rfl (lv_at hl 0 rfl) ?_
      obtain ⟨hs31, hwp⟩ := hwp
      refine sw_get (C := RX7) (T := TX7) (N := 25) (v := .int (I o0 2)) hx hb hts hw0 hown hK hz hs31 rfl 2 (by decide) hw4 (fun _ h9 => h9) rfl dX7_common_171 ?_
      refine lv_icmp_ge (tgt := 308) hx hb dX7_common_174 (by decide) (fun q => ?_) (fun q => ?_)
      · have hwp := hwp.1 q
        refine lv_aload_n hx hb dX7_common_308 rfl (lv_at hl 0 rfl) ?_
        refine lv_iload_n hx hb dX7_common_309 rfl (lv_at hl 1 rfl) ?_
        obtain ⟨P32, hc33, hwp⟩ := hwp
        refine sw_calli hz (va_runV (As := [.int i1]) (rest := []) ⟨hx, hb, hml, hown, hts⟩ (hc33 hK _) (cwV 1 hts gX7_common_X7_finish rfl rfl rfl (by decide +kernel) ⟨Nat.le_of_ble_eq_true rfl, Nat.le_of_ble_eq_true rfl⟩) (hz.preV hK hs31 rfl) rfl rfl hl.1 rfl (lv_room (Nat.le_of_ble_eq_true rfl)) dX7_common_310 ⟨Nat.le_of_ble_eq_true rfl, Nat.le_of_ble_eq_true rfl⟩) (fun r37 I34 L35 A36 H locs hp hz => ?_)
        have hwp := hwp r37 I34 L35 A36 hp
        exact sw_iret hx hb hret hlocks hz hwp dX7_common_313
      · have hwp := hwp.2 q
        refine lv_iconst (v := 0) hx hb dX7_common_177 (by decide) ?_
        refine lv_istore (lv' := [(5, .int 0), (0, .ref o0), (1, .int i1), (4, .int x4)]) hx hb dX7_common_178 hl (by decide) rfl (fun ls hl => ?_)
        exact wL180 _ hC168 _ _ _ _ _ _ _ _ hwp hz (lv_sub hl [1, 2, 3, 0] rfl)
    exact key μ I L A x4 H locs ls hi hz hl
  have wL103 : ∀ (I : TI) (L : TL) (A : TA) (x4 : Int32) (H : Heap) (locs : List Loc) (ls : Array Slot), wp_X7_common_103 K o0 i1 i2 i3 I L A x4 Q → SS K s I L A H locs → lv_has ls 9 [(0, .ref o0), (1, .int i1), (3, .int i3), (4, .int x4)] → W p (cxl K) e (headSpec wsX7_common (rmF 7 170)).room s m ([.ref o0, .int i1, .int i2, .int i3] : List Value).toArray below meth c H locs 0 0 (MQ below (cxQi K Q) ([.ref o0, .int i1, .int i2, .int i3] : List Value).toArray s 0 0 (PA (cxb K))) (F0 m 103 ls []) := by
    intro I L A x4 H locs ls hwp hz hl
    obtain ⟨Inv, μ, hi, hst⟩ := hwp
    have key : ∀ (μ : Nat) (I : TI) (L : TL) (A : TA) (x4 : Int32) (H : Heap) (locs : List Loc) (ls : Array Slot), Inv μ I L A x4 → SS K s I L A H locs → lv_has ls 9 [(0, .ref o0), (1, .int i1), (3, .int i3), (4, .int x4)] → W p (cxl K) e (headSpec wsX7_common (rmF 7 170)).room s m ([.ref o0, .int i1, .int i2, .int i3] : List Value).toArray below meth c H locs 0 0 (MQ below (cxQi K Q) ([.ref o0, .int i1, .int i2, .int i3] : List Value).toArray s 0 0 (PA (cxb K))) (F0 m 103 ls []) := by
      clear hi hz hl
      intro μ
      induction μ using Nat.strongRecOn with | ind μ ih => ?_
      intro I L A x4 H locs ls hi hz hl
      obtain ⟨C103, hCd⟩ : ∃ C : TI → TL → TA → Int32 → Prop, C = fun I L A x4 => ∃ μ', μ' < μ ∧ Inv μ' I L A x4 := ⟨_, rfl⟩
      have hC103 : ∀ (I : TI) (L : TL) (A : TA) (x4 : Int32) (H : Heap) (locs : List Loc) (ls : Array Slot), C103 I L A x4 → SS K s I L A H locs → lv_has ls 9 [(0, .ref o0), (1, .int i1), (3, .int i3), (4, .int x4)] → W p (cxl K) e (headSpec wsX7_common (rmF 7 170)).room s m ([.ref o0, .int i1, .int i2, .int i3] : List Value).toArray below meth c H locs 0 0 (MQ below (cxQi K Q) ([.ref o0, .int i1, .int i2, .int i3] : List Value).toArray s 0 0 (PA (cxb K))) (F0 m 103 ls []) := by
        intro I L A x4 H locs ls hc hz hl
        rw [hCd] at hc
        obtain ⟨μ', hlt, hc⟩ := hc
        exact ih μ' hlt I L A x4 H locs ls hc hz hl
      have hwp := hst μ C103 (fun μ' I L A x4 hlt hc => by rw [hCd]; exact ⟨μ', hlt, hc⟩) I L A x4 hi
      refine lv_iload hx hb dX7_common_103 (lv_at hl 3 rfl) ?_
      refine lv_aload_n hx hb dX7_common_105 rfl (lv_at hl 0 rfl) ?_
      obtain ⟨hs38, hwp⟩ := hwp
      refine sw_get (C := RX7) (T := TX7) (N := 25) (v := .int (I o0 2)) hx hb hts hw0 hown hK hz hs38 rfl 2 (by decide) hw4 (fun _ h9 => h9) rfl dX7_common_106 ?_
      refine lv_icmp_ge (tgt := 146) hx hb dX7_common_109 (by decide) (fun q => ?_) (fun q => ?_)
      · have hwp := hwp.1 q
        refine lv_aload_n hx hb dX7_common_146 rfl (lv_at hl 0 rfl) ?_
        refine lv_iload_n hx hb dX7_common_147 rfl (lv_at hl 2 rfl) ?_
        obtain ⟨P39, hc40, hwp⟩ := hwp
        refine sw_callv hz (va_runV (As := [.int i3]) (rest := []) ⟨hx, hb, hml, hown, hts⟩ (hc40 hK _) (cwV 1 hts gX7_common_X7_takeApart rfl rfl rfl (by decide +kernel) ⟨Nat.le_of_ble_eq_true rfl, Nat.le_of_ble_eq_true rfl⟩) (hz.preV hK hs38 rfl) rfl rfl hl.1 rfl (lv_room (Nat.le_of_ble_eq_true rfl)) dX7_common_148 ⟨Nat.le_of_ble_eq_true rfl, Nat.le_of_ble_eq_true rfl⟩) (fun I41 L42 A43 H locs hp hz => ?_)
        have hwp := hwp I41 L42 A43 hp
        refine lv_aload_n hx hb dX7_common_151 rfl (lv_at hl 0 rfl) ?_
        refine lv_bipush (v := 8) hx hb dX7_common_152 (by decide) ?_
        obtain ⟨P44, hc45, hwp⟩ := hwp
        refine sw_callv hz (va_runV (As := [.int 8]) (rest := []) ⟨hx, hb, hml, hown, hts⟩ (hc45 hK _) (cwV 1 hts gX7_common_X7_clear rfl rfl rfl (by decide +kernel) ⟨Nat.le_of_ble_eq_true rfl, Nat.le_of_ble_eq_true rfl⟩) (hz.preV hK hs38 rfl) rfl rfl hl.1 rfl (lv_room (Nat.le_of_ble_eq_true rfl)) dX7_common_154 ⟨Nat.le_of_ble_eq_true rfl, Nat.le_of_ble_eq_true rfl⟩) (fun I46 L47 A48 H locs hp hz => ?_)
        have hwp := hwp I46 L47 A48 hp
        refine lv_aload_n hx hb dX7_common_157 rfl (lv_at hl 0 rfl) ?_
        refine sw_get (C := RX7) (T := TX7) (N := 25) (v := .ref (o0 + 1)) hx hb hts hw0 hown hK hz hs38 rfl 1 (by decide) hw5 (fun _ h9 => h9) rfl dX7_common_158 ?_
        refine lv_bipush (v := 64) hx hb dX7_common_161 (by decide) ?_
        refine lv_lconst (v := 1) hx hb dX7_common_163 (by decide) ?_
        obtain ⟨ho49, hwp⟩ := hwp
        refine sw_last hx hb hK hz ho49 dX7_common_164 (fun H locs L50 e_L50 hz => ?_)
        have hwp := hwp L50 e_L50
        refine lv_iconst (v := 0) hx hb dX7_common_165 (by decide) ?_
        refine lv_istore (lv' := [(4, .int 0), (0, .ref o0), (1, .int i1), (3, .int i3)]) hx hb dX7_common_166 hl (by decide) rfl (fun ls hl => ?_)
        exact wL168 _ _ _ _ _ _ _ hwp hz (lv_sub hl [1, 2, 0] rfl)
      · have hwp := hwp.2 q
        refine lv_aload_n hx hb dX7_common_112 rfl (lv_at hl 0 rfl) ?_
        refine lv_bipush (v := 20) hx hb dX7_common_113 (by decide) ?_
        refine lv_iload hx hb dX7_common_115 (lv_at hl 3 rfl) ?_
        refine lv_iadd hx hb dX7_common_117 ?_
        refine lv_bipush (v := 12) hx hb dX7_common_118 (by decide) ?_
        refine lv_iload hx hb dX7_common_120 (lv_at hl 3 rfl) ?_
        refine lv_iadd hx hb dX7_common_122 ?_
        obtain ⟨P51, hc52, hwp⟩ := hwp
        refine sw_callv hz (va_runV (As := [.int (20 + x4), .int (12 + x4)]) (rest := []) ⟨hx, hb, hml, hown, hts⟩ (hc52 hK _) (cwV 2 hts gX7_common_X7_copy rfl rfl rfl (by decide +kernel) ⟨Nat.le_of_ble_eq_true rfl, Nat.le_of_ble_eq_true rfl⟩) (hz.preV hK hs38 rfl) rfl rfl hl.1 rfl (lv_room (Nat.le_of_ble_eq_true rfl)) dX7_common_123 ⟨Nat.le_of_ble_eq_true rfl, Nat.le_of_ble_eq_true rfl⟩) (fun I53 L54 A55 H locs hp hz => ?_)
        have hwp := hwp I53 L54 A55 hp
        refine lv_aload_n hx hb dX7_common_126 rfl (lv_at hl 0 rfl) ?_
        refine sw_get (C := RX7) (T := TX7) (N := 25) (v := .ref (o0 + 3)) hx hb hts hw0 hown hK hz hs38 rfl 5 (by decide) hw2 (fun _ h9 => h9) rfl dX7_common_127 ?_
        refine lv_iload hx hb dX7_common_130 (lv_at hl 3 rfl) ?_
        refine lv_aload_n hx hb dX7_common_132 rfl (lv_at hl 0 rfl) ?_
        refine sw_get (C := RX7) (T := TX7) (N := 25) (v := .ref (o0 + 2)) hx hb hts hw0 hown hK hz hs38 rfl 4 (by decide) hw1 (fun _ h9 => h9) rfl dX7_common_133 ?_
        refine lv_iload hx hb dX7_common_136 (lv_at hl 3 rfl) ?_
        obtain ⟨ho56, hwp⟩ := hwp
        refine sw_iald hx hb hK hz ho56 dX7_common_138 ?_
        obtain ⟨ho57, hwp⟩ := hwp
        refine sw_iast hx hb hK hz ho57 dX7_common_139 (fun H locs I58 e_I58 hz => ?_)
        have hwp := hwp I58 e_I58
        obtain ⟨v59, q_v59⟩ : ∃ y : Int32, y = x4 + 1 := ⟨_, rfl⟩
        have hwp := hwp v59 q_v59
        refine lv_iinc (v := v59) (lv' := [(4, .int v59), (0, .ref o0), (1, .int i1), (3, .int i3)]) hx hb dX7_common_140 hl (k := 3) rfl (by rw [q_v59]; rfl) (by decide) rfl (fun ls hl => ?_)
        refine lv_goto (tgt := 103) hx hb dX7_common_143 (by decide) ?_
        exact hC103 _ _ _ _ _ _ _ hwp hz (lv_sub hl [1, 2, 3, 0] rfl)
    exact key μ I L A x4 H locs ls hi hz hl
  have wL67 : ∀ (I : TI) (L : TL) (A : TA) (y0 : Int32) (y1 : Int32) (y2 : Nat) (H : Heap) (locs : List Loc) (ls : Array Slot), wp_X7_common_67 K o0 i1 i2 i3 I L A y0 y1 y2 Q → SS K s I L A H locs → lv_has ls 9 [(0, .ref o0), (1, .int i1)] → W p (cxl K) e (headSpec wsX7_common (rmF 7 170)).room s m ([.ref o0, .int i1, .int i2, .int i3] : List Value).toArray below meth c H locs 0 0 (MQ below (cxQi K Q) ([.ref o0, .int i1, .int i2, .int i3] : List Value).toArray s 0 0 (PA (cxb K))) (F0 m 67 ls [.int y0, .int y1, .ref y2]) := by
    intro I L A y0 y1 y2 H locs ls hwp hz hl
    obtain ⟨hs60, hwp⟩ := hwp
    obtain ⟨P61, hc62, hwp⟩ := hwp
    refine sw_callv hz (va_runV (As := [.int y1, .int y0]) (rest := []) ⟨hx, hb, hml, hown, hts⟩ (hc62 hK _) (cwV 2 hts gX7_common_X7_copy rfl rfl rfl (by decide +kernel) ⟨Nat.le_of_ble_eq_true rfl, Nat.le_of_ble_eq_true rfl⟩) (hz.preV hK hs60 rfl) rfl rfl hl.1 rfl (lv_room (Nat.le_of_ble_eq_true rfl)) dX7_common_67 ⟨Nat.le_of_ble_eq_true rfl, Nat.le_of_ble_eq_true rfl⟩) (fun I63 L64 A65 H locs hp hz => ?_)
    have hwp := hwp I63 L64 A65 hp
    refine lv_aload_n hx hb dX7_common_70 rfl (lv_at hl 0 rfl) ?_
    refine lv_aload_n hx hb dX7_common_71 rfl (lv_at hl 0 rfl) ?_
    refine lv_bipush (v := 8) hx hb dX7_common_72 (by decide) ?_
    obtain ⟨hs66, hwp⟩ := hwp
    obtain ⟨P67, hc68, hwp⟩ := hwp
    refine sw_calll hz (va_runV (As := [.int 8]) (rest := [.ref o0]) ⟨hx, hb, hml, hown, hts⟩ (hc68 hK _) (cwV 1 hts gX7_common_X7_takeContent rfl rfl rfl (by decide +kernel) ⟨Nat.le_of_ble_eq_true rfl, Nat.le_of_ble_eq_true rfl⟩) (hz.preV hK hs66 rfl) rfl rfl hl.1 rfl (lv_room (Nat.le_of_ble_eq_true rfl)) dX7_common_74 ⟨Nat.le_of_ble_eq_true rfl, Nat.le_of_ble_eq_true rfl⟩) (fun r72 I69 L70 A71 H locs hp hz => ?_)
    have hwp := hwp r72 I69 L70 A71 hp
    refine lv_l2i hx hb dX7_common_77 rfl ?_
    refine sw_putI (C := RX7) (T := TX7) (N := 25) hx hb hts hw0 tyX7 tyX7_ok nmX7 hown hK hz hs66 rfl 6 (by decide) hw6 (fun _ h9 => h9) rfl (by decide +kernel) rfl dX7_common_78 (fun H locs I73 e_I73 hz => ?_)
    have hwp := hwp I73 e_I73
    refine lv_aload_n hx hb dX7_common_81 rfl (lv_at hl 0 rfl) ?_
    refine lv_iload_n hx hb dX7_common_82 rfl (lv_at hl 1 rfl) ?_
    obtain ⟨P74, hc75, hwp⟩ := hwp
    refine sw_calli hz (va_runV (As := [.int i1]) (rest := []) ⟨hx, hb, hml, hown, hts⟩ (hc75 hK _) (cwV 1 hts gX7_common_X7_finish rfl rfl rfl (by decide +kernel) ⟨Nat.le_of_ble_eq_true rfl, Nat.le_of_ble_eq_true rfl⟩) (hz.preV hK hs66 rfl) rfl rfl hl.1 rfl (lv_room (Nat.le_of_ble_eq_true rfl)) dX7_common_83 ⟨Nat.le_of_ble_eq_true rfl, Nat.le_of_ble_eq_true rfl⟩) (fun r79 I76 L77 A78 H locs hp hz => ?_)
    have hwp := hwp r79 I76 L77 A78 hp
    exact sw_iret hx hb hret hlocks hz hwp dX7_common_86
  have wL51 : ∀ (I : TI) (L : TL) (A : TA) (H : Heap) (locs : List Loc) (ls : Array Slot), wp_X7_common_51 K o0 i1 i2 i3 I L A Q → SS K s I L A H locs → lv_has ls 9 [(0, .ref o0), (1, .int i1), (2, .int i2), (3, .int i3)] → W p (cxl K) e (headSpec wsX7_common (rmF 7 170)).room s m ([.ref o0, .int i1, .int i2, .int i3] : List Value).toArray below meth c H locs 0 0 (MQ below (cxQi K Q) ([.ref o0, .int i1, .int i2, .int i3] : List Value).toArray s 0 0 (PA (cxb K))) (F0 m 51 ls []) := by
    intro I L A H locs ls hwp hz hl
    refine lv_aload_n hx hb dX7_common_51 rfl (lv_at hl 0 rfl) ?_
    refine lv_bipush (v := 8) hx hb dX7_common_52 (by decide) ?_
    refine lv_aload_n hx hb dX7_common_54 rfl (lv_at hl 0 rfl) ?_
    refine lv_iload_n hx hb dX7_common_55 rfl (lv_at hl 2 rfl) ?_
    obtain ⟨hs80, hwp⟩ := hwp
    obtain ⟨P81, hc82, hwp⟩ := hwp
    refine sw_calli hz (va_runV (As := [.int i2]) (rest := [.int 8, .ref o0]) ⟨hx, hb, hml, hown, hts⟩ (hc82 hK _) (cwV 1 hts gX7_common_X7_isZero rfl rfl rfl (by decide +kernel) ⟨Nat.le_of_ble_eq_true rfl, Nat.le_of_ble_eq_true rfl⟩) (hz.preV hK hs80 rfl) rfl rfl hl.1 rfl (lv_room (Nat.le_of_ble_eq_true rfl)) dX7_common_56 ⟨Nat.le_of_ble_eq_true rfl, Nat.le_of_ble_eq_true rfl⟩) (fun r86 I83 L84 A85 H locs hp hz => ?_)
    have hwp := hwp r86 I83 L84 A85 hp
    refine lv_if_eq (tgt := 66) hx hb dX7_common_59 (by decide) (fun q => ?_) (fun q => ?_)
    · have hwp := hwp.1 q
      refine lv_iload_n hx hb dX7_common_66 rfl (lv_at hl 2 rfl) ?_
      exact wL67 _ _ _ _ _ _ _ _ _ hwp hz (lv_sub hl [0, 1] rfl)
    · have hwp := hwp.2 q
      refine lv_iload_n hx hb dX7_common_62 rfl (lv_at hl 3 rfl) ?_
      refine lv_goto (tgt := 67) hx hb dX7_common_63 (by decide) ?_
      exact wL67 _ _ _ _ _ _ _ _ _ hwp hz (lv_sub hl [0, 1] rfl)
  have wL27 : ∀ (I : TI) (L : TL) (A : TA) (y0 : Int32) (y1 : Nat) (H : Heap) (locs : List Loc) (ls : Array Slot), wp_X7_common_27 K o0 i1 i2 i3 I L A y0 y1 Q → SS K s I L A H locs → lv_has ls 9 [(0, .ref o0), (1, .int i1), (2, .int i2), (3, .int i3)] → W p (cxl K) e (headSpec wsX7_common (rmF 7 170)).room s m ([.ref o0, .int i1, .int i2, .int i3] : List Value).toArray below meth c H locs 0 0 (MQ below (cxQi K Q) ([.ref o0, .int i1, .int i2, .int i3] : List Value).toArray s 0 0 (PA (cxb K))) (F0 m 27 ls [.int y0, .ref y1]) := by
    intro I L A y0 y1 H locs ls hwp hz hl
    obtain ⟨hs87, hwp⟩ := hwp
    obtain ⟨P88, hc89, hwp⟩ := hwp
    refine sw_calli hz (va_runV (As := [.int y0]) (rest := []) ⟨hx, hb, hml, hown, hts⟩ (hc89 hK _) (cwV 1 hts gX7_common_X7_refused rfl rfl rfl (by decide +kernel) ⟨Nat.le_of_ble_eq_true rfl, Nat.le_of_ble_eq_true rfl⟩) (hz.preV hK hs87 rfl) rfl rfl hl.1 rfl (lv_room (Nat.le_of_ble_eq_true rfl)) dX7_common_27 ⟨Nat.le_of_ble_eq_true rfl, Nat.le_of_ble_eq_true rfl⟩) (fun r93 I90 L91 A92 H locs hp hz => ?_)
    have hwp := hwp r93 I90 L91 A92 hp
    refine lv_if_eq (tgt := 35) hx hb dX7_common_30 (by decide) (fun q => ?_) (fun q => ?_)
    · have hwp := hwp.1 q
      refine lv_aload_n hx hb dX7_common_35 rfl (lv_at hl 0 rfl) ?_
      refine lv_iload_n hx hb dX7_common_36 rfl (lv_at hl 2 rfl) ?_
      obtain ⟨hs94, hwp⟩ := hwp
      obtain ⟨P95, hc96, hwp⟩ := hwp
      refine sw_calli hz (va_runV (As := [.int i2]) (rest := []) ⟨hx, hb, hml, hown, hts⟩ (hc96 hK _) (cwV 1 hts gX7_common_X7_isZero rfl rfl rfl (by decide +kernel) ⟨Nat.le_of_ble_eq_true rfl, Nat.le_of_ble_eq_true rfl⟩) (hz.preV hK hs94 rfl) rfl rfl hl.1 rfl (lv_room (Nat.le_of_ble_eq_true rfl)) dX7_common_37 ⟨Nat.le_of_ble_eq_true rfl, Nat.le_of_ble_eq_true rfl⟩) (fun r100 I97 L98 A99 H locs hp hz => ?_)
      have hwp := hwp r100 I97 L98 A99 hp
      refine lv_if_ne (tgt := 51) hx hb dX7_common_40 (by decide) (fun q => ?_) (fun q => ?_)
      · have hwp := hwp.2 q
        exact wL51 _ _ _ _ _ _ hwp hz (lv_sub hl [0, 1, 2, 3] rfl)
      · have hwp := hwp.1 q
        refine lv_aload_n hx hb dX7_common_43 rfl (lv_at hl 0 rfl) ?_
        refine lv_iload_n hx hb dX7_common_44 rfl (lv_at hl 3 rfl) ?_
        obtain ⟨P101, hc102, hwp⟩ := hwp
        refine sw_calli hz (va_runV (As := [.int i3]) (rest := []) ⟨hx, hb, hml, hown, hts⟩ (hc102 hK _) (cwV 1 hts gX7_common_X7_isZero rfl rfl rfl (by decide +kernel) ⟨Nat.le_of_ble_eq_true rfl, Nat.le_of_ble_eq_true rfl⟩) (hz.preV hK hs94 rfl) rfl rfl hl.1 rfl (lv_room (Nat.le_of_ble_eq_true rfl)) dX7_common_45 ⟨Nat.le_of_ble_eq_true rfl, Nat.le_of_ble_eq_true rfl⟩) (fun r106 I103 L104 A105 H locs hp hz => ?_)
        have hwp := hwp r106 I103 L104 A105 hp
        refine lv_if_eq (tgt := 87) hx hb dX7_common_48 (by decide) (fun q => ?_) (fun q => ?_)
        · have hwp := hwp.1 q
          refine lv_aload_n hx hb dX7_common_87 rfl (lv_at hl 0 rfl) ?_
          refine lv_iload_n hx hb dX7_common_88 rfl (lv_at hl 2 rfl) ?_
          obtain ⟨P107, hc108, hwp⟩ := hwp
          refine sw_callv hz (va_runV (As := [.int i2]) (rest := []) ⟨hx, hb, hml, hown, hts⟩ (hc108 hK _) (cwV 1 hts gX7_common_X7_takeApart rfl rfl rfl (by decide +kernel) ⟨Nat.le_of_ble_eq_true rfl, Nat.le_of_ble_eq_true rfl⟩) (hz.preV hK hs94 rfl) rfl rfl hl.1 rfl (lv_room (Nat.le_of_ble_eq_true rfl)) dX7_common_89 ⟨Nat.le_of_ble_eq_true rfl, Nat.le_of_ble_eq_true rfl⟩) (fun I109 L110 A111 H locs hp hz => ?_)
          have hwp := hwp I109 L110 A111 hp
          refine lv_aload_n hx hb dX7_common_92 rfl (lv_at hl 0 rfl) ?_
          refine lv_aload_n hx hb dX7_common_93 rfl (lv_at hl 0 rfl) ?_
          refine sw_get (C := RX7) (T := TX7) (N := 25) (v := .int (I109 o0 2)) hx hb hts hw0 hown hK hz hs94 rfl 2 (by decide) hw4 (fun _ h9 => h9) rfl dX7_common_94 ?_
          refine sw_putI (C := RX7) (T := TX7) (N := 25) hx hb hts hw0 tyX7 tyX7_ok nmX7 hown hK hz hs94 rfl 3 (by decide) hw3 (fun _ h9 => h9) rfl (by decide +kernel) rfl dX7_common_97 (fun H locs I112 e_I112 hz => ?_)
          have hwp := hwp I112 e_I112
          refine lv_iconst (v := 0) hx hb dX7_common_100 (by decide) ?_
          refine lv_istore (lv' := [(4, .int 0), (0, .ref o0), (1, .int i1), (2, .int i2), (3, .int i3)]) hx hb dX7_common_101 hl (by decide) rfl (fun ls hl => ?_)
          exact wL103 _ _ _ _ _ _ _ hwp hz (lv_sub hl [1, 2, 4, 0] rfl)
        · have hwp := hwp.2 q
          exact wL51 _ _ _ _ _ _ hwp hz (lv_sub hl [0, 1, 2, 3] rfl)
    · have hwp := hwp.2 q
      refine lv_iconst (v := 0) hx hb dX7_common_33 (by decide) ?_
      exact sw_iret hx hb hret hlocks hz hwp dX7_common_34
  have wL26 : ∀ (I : TI) (L : TL) (A : TA) (y0 : Nat) (H : Heap) (locs : List Loc) (ls : Array Slot), wp_X7_common_26 K o0 i1 i2 i3 I L A y0 Q → SS K s I L A H locs → lv_has ls 9 [(0, .ref o0), (1, .int i1), (2, .int i2), (3, .int i3)] → W p (cxl K) e (headSpec wsX7_common (rmF 7 170)).room s m ([.ref o0, .int i1, .int i2, .int i3] : List Value).toArray below meth c H locs 0 0 (MQ below (cxQi K Q) ([.ref o0, .int i1, .int i2, .int i3] : List Value).toArray s 0 0 (PA (cxb K))) (F0 m 26 ls [.ref y0]) := by
    intro I L A y0 H locs ls hwp hz hl
    refine lv_iconst (v := 1) hx hb dX7_common_26 (by decide) ?_
    exact wL27 _ _ _ _ _ _ _ _ hwp hz (lv_sub hl [0, 1, 2, 3] rfl)
  refine lv_aload_n hx hb dX7_common_0 rfl (lv_at hl 0 rfl) ?_
  refine lv_iload_n hx hb dX7_common_1 rfl (lv_at hl 1 rfl) ?_
  obtain ⟨P113, hc114, hwp⟩ := hwp
  refine sw_calli hz (va_runS (As := [.int i1]) (rest := [.ref o0]) ⟨hx, hb, hml, hown, hts⟩ (hc114 hK _) (va_cwS 1 hts gX7_common_X7_isSlot rfl rfl rfl (by decide +kernel) ⟨Nat.le_of_ble_eq_true rfl, Nat.le_of_ble_eq_true rfl⟩) hz.preS rfl rfl hl.1 rfl (lv_room (Nat.le_of_ble_eq_true rfl)) dX7_common_2 ⟨Nat.le_of_ble_eq_true rfl, Nat.le_of_ble_eq_true rfl⟩) (fun r118 I115 L116 A117 H locs hp hz => ?_)
  have hwp := hwp r118 I115 L116 A117 hp
  refine lv_if_eq (tgt := 26) hx hb dX7_common_5 (by decide) (fun q => ?_) (fun q => ?_)
  · have hwp := hwp.1 q
    exact wL26 _ _ _ _ _ _ _ hwp hz (lv_sub hl [0, 1, 2, 3] rfl)
  · have hwp := hwp.2 q
    refine lv_iload_n hx hb dX7_common_8 rfl (lv_at hl 2 rfl) ?_
    obtain ⟨P119, hc120, hwp⟩ := hwp
    refine sw_calli hz (va_runS (As := [.int i2]) (rest := [.ref o0]) ⟨hx, hb, hml, hown, hts⟩ (hc120 hK _) (va_cwS 1 hts gX7_common_X7_isSlot rfl rfl rfl (by decide +kernel) ⟨Nat.le_of_ble_eq_true rfl, Nat.le_of_ble_eq_true rfl⟩) hz.preS rfl rfl hl.1 rfl (lv_room (Nat.le_of_ble_eq_true rfl)) dX7_common_9 ⟨Nat.le_of_ble_eq_true rfl, Nat.le_of_ble_eq_true rfl⟩) (fun r124 I121 L122 A123 H locs hp hz => ?_)
    have hwp := hwp r124 I121 L122 A123 hp
    refine lv_if_eq (tgt := 26) hx hb dX7_common_12 (by decide) (fun q => ?_) (fun q => ?_)
    · have hwp := hwp.1 q
      exact wL26 _ _ _ _ _ _ _ hwp hz (lv_sub hl [0, 1, 2, 3] rfl)
    · have hwp := hwp.2 q
      refine lv_iload_n hx hb dX7_common_15 rfl (lv_at hl 3 rfl) ?_
      obtain ⟨P125, hc126, hwp⟩ := hwp
      refine sw_calli hz (va_runS (As := [.int i3]) (rest := [.ref o0]) ⟨hx, hb, hml, hown, hts⟩ (hc126 hK _) (va_cwS 1 hts gX7_common_X7_isSlot rfl rfl rfl (by decide +kernel) ⟨Nat.le_of_ble_eq_true rfl, Nat.le_of_ble_eq_true rfl⟩) hz.preS rfl rfl hl.1 rfl (lv_room (Nat.le_of_ble_eq_true rfl)) dX7_common_16 ⟨Nat.le_of_ble_eq_true rfl, Nat.le_of_ble_eq_true rfl⟩) (fun r130 I127 L128 A129 H locs hp hz => ?_)
      have hwp := hwp r130 I127 L128 A129 hp
      refine lv_if_eq (tgt := 26) hx hb dX7_common_19 (by decide) (fun q => ?_) (fun q => ?_)
      · have hwp := hwp.1 q
        exact wL26 _ _ _ _ _ _ _ hwp hz (lv_sub hl [0, 1, 2, 3] rfl)
      · have hwp := hwp.2 q
        refine lv_iconst (v := 0) hx hb dX7_common_22 (by decide) ?_
        refine lv_goto (tgt := 27) hx hb dX7_common_23 (by decide) ?_
        exact wL27 _ _ _ _ _ _ _ _ hwp hz (lv_sub hl [0, 1, 2, 3] rfl)

