def wp_X7_raise_72 (K : Cx) (o0 : Nat) (C51 : TI → TL → TA → Int32 → Prop) (I : TI) (L : TL) (A : TA) (x1 : Int32) (Q : TI → TL → TA → Prop) : Prop := cxS K o0 = shX7 o0 ∧ ∃ P2 : TI → TL → TA → Prop, ConV K yX7_modTimes wsX7_modTimes 2 51 I L A [.ref o0, .int 6, .int 6, .int 6] P2 ∧ ∀ (I4 : TI) (L5 : TL) (A6 : TA), P2 I4 L5 A6 → ∀ v7 : Int32, v7 = (x1 / 2) → C51 I4 L5 A6 v7
def wp_X7_raise_51 (K : Cx) (o0 : Nat) (I : TI) (L : TL) (A : TA) (x1 : Int32) (Q : TI → TL → TA → Prop) : Prop := ∃ (Inv : Nat → TI → TL → TA → Int32 → Prop) (μ : Nat), Inv μ I L A x1 ∧ ∀ (μ : Nat) (C51 : TI → TL → TA → Int32 → Prop), (∀ (μ' : Nat) (I : TI) (L : TL) (A : TA) (x1 : Int32) , μ' < μ → Inv μ' I L A x1 → C51 I L A x1) → ∀ (I : TI) (L : TL) (A : TA) (x1 : Int32) , Inv μ I L A x1 → ((x1 ≤ 0 → cxS K o0 = shX7 o0 ∧ ∃ P9 : TI → TL → TA → Prop, ConV K yX7_modCopy wsX7_modCopy 0 0 I L A [.ref o0, .int 4, .int 7] P9 ∧ ∀ (I11 : TI) (L12 : TL) (A13 : TA), P9 I11 L12 A13 → Q I11 L12 A13) ∧ (¬ x1 ≤ 0 → (((x1 - x1 / 2 * 2) = 1 → cxS K o0 = shX7 o0 ∧ ∃ P15 : TI → TL → TA → Prop, ConV K yX7_modTimes wsX7_modTimes 2 51 I L A [.ref o0, .int 7, .int 7, .int 6] P15 ∧ ∀ (I17 : TI) (L18 : TL) (A19 : TA), P15 I17 L18 A19 → wp_X7_raise_72 K o0 C51 I17 L18 A19 x1 Q) ∧ (¬ (x1 - x1 / 2 * 2) = 1 → wp_X7_raise_72 K o0 C51 I L A x1 Q))))
def wp_X7_raise_9 (K : Cx) (o0 : Nat) (I : TI) (L : TL) (A : TA) (x1 : Int32) (Q : TI → TL → TA → Prop) : Prop := ∃ (Inv : Nat → TI → TL → TA → Int32 → Prop) (μ : Nat), Inv μ I L A x1 ∧ ∀ (μ : Nat) (C9 : TI → TL → TA → Int32 → Prop), (∀ (μ' : Nat) (I : TI) (L : TL) (A : TA) (x1 : Int32) , μ' < μ → Inv μ' I L A x1 → C9 I L A x1) → ∀ (I : TI) (L : TL) (A : TA) (x1 : Int32) , Inv μ I L A x1 → ((16 ≤ x1 → cxS K o0 = shX7 o0 ∧ aok (cxS K) (o0 + 8) 0 112 ∧ ∀ I22 : TI, I22 = u2 I (o0 + 8) (ix 112) 1 → ∃ P23 : TI → TL → TA → Prop, ConV K yX7_reduce wsX7_reduce 1 24 I22 L A [.ref o0, .int 7, .int 0] P23 ∧ ∀ (I25 : TI) (L26 : TL) (A27 : TA), P23 I25 L26 A27 → ∀ v28 : Int32, v28 = (I25 o0 19) → wp_X7_raise_51 K o0 I25 L26 A27 v28 Q) ∧ (¬ 16 ≤ x1 → cxS K o0 = shX7 o0 ∧ aok (cxS K) (o0 + 8) 0 (112 + x1) ∧ ∀ I31 : TI, I31 = u2 I (o0 + 8) (ix (112 + x1)) 0 → ∀ v32 : Int32, v32 = x1 + 1 → C9 I31 L A v32))
def wp_X7_raise (K : Cx) (I : TI) (L : TL) (A : TA) (o0 : Nat) (Q : TI → TL → TA → Prop) : Prop := cxS K o0 = shX7 o0 ∧ ∃ P34 : TI → TL → TA → Prop, ConV K yX7_modCopy wsX7_modCopy 0 0 I L A [.ref o0, .int 6, .int 4] P34 ∧ ∀ (I36 : TI) (L37 : TL) (A38 : TA), P34 I36 L37 A38 → wp_X7_raise_9 K o0 I36 L37 A38 0 Q
set_option maxHeartbeats 1000000 in
set_option maxRecDepth 100000 in
theorem w_X7_raise (K : Cx) (I : TI) (L : TL) (A : TA) (o0 : Nat) (Q : TI → TL → TA → Prop) (hwp : wp_X7_raise K I L A o0 Q) : ConV K yX7_raise wsX7_raise 3 76 I L A [.ref o0] Q := by
  intro hK sz
  refine Met.ofW (cc := cX7_raise) (maxL := 2) (ret := none) (by decide) rfl ?_
  intro p e s m args below meth c s₁ B hml hv
  obtain ⟨rfl, hsz, hB⟩ := hv
  have hx := B.exec
  have hb := B.bytes
  have hret := B.returns
  have hts := atoms_spec (ws := wsX7_raise) B.pre
  have hown : s.vm.findClass RX7 = some m.cls := findClass_of_methodNamed B.named
  have hlocks := B.notSynchronized
  subst hsz
  have hz : SS K s I L A s.heap [] := PS.start hB
  have hl := lv_entry ([.ref o0]) (n := 2) (Nat.le_of_ble_eq_true rfl)
  rw [lg_entry_eq]
  generalize (lg_sl ([.ref o0]) ++ List.replicate (2 - (lg_sl ([.ref o0])).length) Slot.unset).toArray = ls at hl ⊢
  have hl : lv_has ls 2 [(0, .ref o0)] := hl
  have hw0 : ∀ w ∈ u_ws RX7 TX7 25, w ∈ wsX7_raise := by decide +kernel
  have hw1 := hts (.fieldLink RX7 32 "GaloisDeskModel" "mod" "[I") (by decide +kernel)
  have hw2 := hts (.fieldLink RX7 167 "GaloisDeskModel" "prime" "I") (by decide +kernel)
  clear hB B
  have wL72 : ∀ (C51 : TI → TL → TA → Int32 → Prop) (hC51 : ∀ (I : TI) (L : TL) (A : TA) (x1 : Int32) (H : Heap) (locs : List Loc) (ls : Array Slot), C51 I L A x1 → SS K s I L A H locs → lv_has ls 2 [(0, .ref o0), (1, .int x1)] → W p (cxl K) e (headSpec wsX7_raise (rmF 3 76)).room s m ([.ref o0] : List Value).toArray below meth c H locs 0 0 (MQ below (cxQv K Q) ([.ref o0] : List Value).toArray s 0 0 (PA (cxb K))) (F0 m 51 ls [])) (I : TI) (L : TL) (A : TA) (x1 : Int32) (H : Heap) (locs : List Loc) (ls : Array Slot), wp_X7_raise_72 K o0 C51 I L A x1 Q → SS K s I L A H locs → lv_has ls 2 [(0, .ref o0), (1, .int x1)] → W p (cxl K) e (headSpec wsX7_raise (rmF 3 76)).room s m ([.ref o0] : List Value).toArray below meth c H locs 0 0 (MQ below (cxQv K Q) ([.ref o0] : List Value).toArray s 0 0 (PA (cxb K))) (F0 m 72 ls []) := by
    intro C51 hC51 I L A x1 H locs ls hwp hz hl
    refine lv_aload_n hx hb dX7_raise_72 rfl (lv_at hl 0 rfl) ?_
    refine lv_bipush (v := 6) hx hb dX7_raise_73 (by decide) ?_
    refine lv_bipush (v := 6) hx hb dX7_raise_75 (by decide) ?_
    refine lv_bipush (v := 6) hx hb dX7_raise_77 (by decide) ?_
    obtain ⟨hs1, hwp⟩ := hwp
    obtain ⟨P2, hc3, hwp⟩ := hwp
    refine sw_callv hz (va_runV (As := [.int 6, .int 6, .int 6]) (rest := []) ⟨hx, hb, hml, hown, hts⟩ (hc3 hK _) (cwV 3 hts gX7_raise_X7_modTimes rfl rfl rfl (by decide +kernel) ⟨Nat.le_of_ble_eq_true rfl, Nat.le_of_ble_eq_true rfl⟩) (hz.preV hK hs1 rfl) rfl rfl hl.1 rfl (lv_room (Nat.le_of_ble_eq_true rfl)) dX7_raise_79 ⟨Nat.le_of_ble_eq_true rfl, Nat.le_of_ble_eq_true rfl⟩) (fun I4 L5 A6 H locs hp hz => ?_)
    have hwp := hwp I4 L5 A6 hp
    refine lv_iload_n hx hb dX7_raise_82 rfl (lv_at hl 1 rfl) ?_
    refine lv_iconst (v := 2) hx hb dX7_raise_83 (by decide) ?_
    refine lv_idiv hx hb dX7_raise_84 (by decide) ?_
    refine lv_topi (fun v7 q_v7 => ?_)
    have hwp := hwp v7 q_v7
    refine lv_istore_n (lv' := [(1, .int v7), (0, .ref o0)]) hx hb dX7_raise_85 rfl hl (by decide) rfl (fun ls hl => ?_)
    refine lv_goto (tgt := 51) hx hb dX7_raise_86 (by decide) ?_
    exact hC51 _ _ _ _ _ _ _ hwp hz (lv_sub hl [1, 0] rfl)
  have wL51 : ∀ (I : TI) (L : TL) (A : TA) (x1 : Int32) (H : Heap) (locs : List Loc) (ls : Array Slot), wp_X7_raise_51 K o0 I L A x1 Q → SS K s I L A H locs → lv_has ls 2 [(0, .ref o0), (1, .int x1)] → W p (cxl K) e (headSpec wsX7_raise (rmF 3 76)).room s m ([.ref o0] : List Value).toArray below meth c H locs 0 0 (MQ below (cxQv K Q) ([.ref o0] : List Value).toArray s 0 0 (PA (cxb K))) (F0 m 51 ls []) := by
    intro I L A x1 H locs ls hwp hz hl
    obtain ⟨Inv, μ, hi, hst⟩ := hwp
    have key : ∀ (μ : Nat) (I : TI) (L : TL) (A : TA) (x1 : Int32) (H : Heap) (locs : List Loc) (ls : Array Slot), Inv μ I L A x1 → SS K s I L A H locs → lv_has ls 2 [(0, .ref o0), (1, .int x1)] → W p (cxl K) e (headSpec wsX7_raise (rmF 3 76)).room s m ([.ref o0] : List Value).toArray below meth c H locs 0 0 (MQ below (cxQv K Q) ([.ref o0] : List Value).toArray s 0 0 (PA (cxb K))) (F0 m 51 ls []) := by
      clear hi hz hl
      intro μ
      induction μ using Nat.strongRecOn with | ind μ ih => ?_
      intro I L A x1 H locs ls hi hz hl
      obtain ⟨C51, hCd⟩ : ∃ C : TI → TL → TA → Int32 → Prop, C = fun I L A x1 => ∃ μ', μ' < μ ∧ Inv μ' I L A x1 := ⟨_, rfl⟩
      have hC51 : ∀ (I : TI) (L : TL) (A : TA) (x1 : Int32) (H : Heap) (locs : List Loc) (ls : Array Slot), C51 I L A x1 → SS K s I L A H locs → lv_has ls 2 [(0, .ref o0), (1, .int x1)] → W p (cxl K) e (headSpec wsX7_raise (rmF 3 76)).room s m ([.ref o0] : List Value).toArray below meth c H locs 0 0 (MQ below (cxQv K Q) ([.ref o0] : List Value).toArray s 0 0 (PA (cxb K))) (F0 m 51 ls []) := by
        intro I L A x1 H locs ls hc hz hl
        rw [hCd] at hc
        obtain ⟨μ', hlt, hc⟩ := hc
        exact ih μ' hlt I L A x1 H locs ls hc hz hl
      have hwp := hst μ C51 (fun μ' I L A x1 hlt hc => by rw [hCd]; exact ⟨μ', hlt, hc⟩) I L A x1 hi
      refine lv_iload_n hx hb dX7_raise_51 rfl (lv_at hl 1 rfl) ?_
      refine lv_if_le (tgt := 89) hx hb dX7_raise_52 (by decide) (fun q => ?_) (fun q => ?_)
      · have hwp := hwp.1 q
        refine lv_aload_n hx hb dX7_raise_89 rfl (lv_at hl 0 rfl) ?_
        refine lv_iconst (v := 4) hx hb dX7_raise_90 (by decide) ?_
        refine lv_bipush (v := 7) hx hb dX7_raise_91 (by decide) ?_
        obtain ⟨hs8, hwp⟩ := hwp
        obtain ⟨P9, hc10, hwp⟩ := hwp
        refine sw_callv hz (va_runV (As := [.int 4, .int 7]) (rest := []) ⟨hx, hb, hml, hown, hts⟩ (hc10 hK _) (cwV 2 hts gX7_raise_X7_modCopy rfl rfl rfl (by decide +kernel) ⟨Nat.le_of_ble_eq_true rfl, Nat.le_of_ble_eq_true rfl⟩) (hz.preV hK hs8 rfl) rfl rfl hl.1 rfl (lv_room (Nat.le_of_ble_eq_true rfl)) dX7_raise_93 ⟨Nat.le_of_ble_eq_true rfl, Nat.le_of_ble_eq_true rfl⟩) (fun I11 L12 A13 H locs hp hz => ?_)
        have hwp := hwp I11 L12 A13 hp
        exact sw_vret hx hb hret hlocks hz hwp dX7_raise_96
      · have hwp := hwp.2 q
        refine lv_iload_n hx hb dX7_raise_55 rfl (lv_at hl 1 rfl) ?_
        refine lv_iconst (v := 2) hx hb dX7_raise_56 (by decide) ?_
        refine lv_irem hx hb dX7_raise_57 (by decide) ?_
        refine lv_iconst (v := 1) hx hb dX7_raise_58 (by decide) ?_
        refine lv_icmp_ne (tgt := 72) hx hb dX7_raise_59 (by decide) (fun q => ?_) (fun q => ?_)
        · have hwp := hwp.2 q
          exact wL72 _ hC51 _ _ _ _ _ _ _ hwp hz (lv_sub hl [0, 1] rfl)
        · have hwp := hwp.1 q
          refine lv_aload_n hx hb dX7_raise_62 rfl (lv_at hl 0 rfl) ?_
          refine lv_bipush (v := 7) hx hb dX7_raise_63 (by decide) ?_
          refine lv_bipush (v := 7) hx hb dX7_raise_65 (by decide) ?_
          refine lv_bipush (v := 6) hx hb dX7_raise_67 (by decide) ?_
          obtain ⟨hs14, hwp⟩ := hwp
          obtain ⟨P15, hc16, hwp⟩ := hwp
          refine sw_callv hz (va_runV (As := [.int 7, .int 7, .int 6]) (rest := []) ⟨hx, hb, hml, hown, hts⟩ (hc16 hK _) (cwV 3 hts gX7_raise_X7_modTimes rfl rfl rfl (by decide +kernel) ⟨Nat.le_of_ble_eq_true rfl, Nat.le_of_ble_eq_true rfl⟩) (hz.preV hK hs14 rfl) rfl rfl hl.1 rfl (lv_room (Nat.le_of_ble_eq_true rfl)) dX7_raise_69 ⟨Nat.le_of_ble_eq_true rfl, Nat.le_of_ble_eq_true rfl⟩) (fun I17 L18 A19 H locs hp hz => ?_)
          have hwp := hwp I17 L18 A19 hp
          exact wL72 _ hC51 _ _ _ _ _ _ _ hwp hz (lv_sub hl [0, 1] rfl)
    exact key μ I L A x1 H locs ls hi hz hl
  have wL9 : ∀ (I : TI) (L : TL) (A : TA) (x1 : Int32) (H : Heap) (locs : List Loc) (ls : Array Slot), wp_X7_raise_9 K o0 I L A x1 Q → SS K s I L A H locs → lv_has ls 2 [(0, .ref o0), (1, .int x1)] → W p (cxl K) e (headSpec wsX7_raise (rmF 3 76)).room s m ([.ref o0] : List Value).toArray below meth c H locs 0 0 (MQ below (cxQv K Q) ([.ref o0] : List Value).toArray s 0 0 (PA (cxb K))) (F0 m 9 ls []) := by
    intro I L A x1 H locs ls hwp hz hl
    obtain ⟨Inv, μ, hi, hst⟩ := hwp
    have key : ∀ (μ : Nat) (I : TI) (L : TL) (A : TA) (x1 : Int32) (H : Heap) (locs : List Loc) (ls : Array Slot), Inv μ I L A x1 → SS K s I L A H locs → lv_has ls 2 [(0, .ref o0), (1, .int x1)] → W p (cxl K) e (headSpec wsX7_raise (rmF 3 76)).room s m ([.ref o0] : List Value).toArray below meth c H locs 0 0 (MQ below (cxQv K Q) ([.ref o0] : List Value).toArray s 0 0 (PA (cxb K))) (F0 m 9 ls []) := by
      clear hi hz hl
      intro μ
      induction μ using Nat.strongRecOn with | ind μ ih => ?_
      intro I L A x1 H locs ls hi hz hl
      obtain ⟨C9, hCd⟩ : ∃ C : TI → TL → TA → Int32 → Prop, C = fun I L A x1 => ∃ μ', μ' < μ ∧ Inv μ' I L A x1 := ⟨_, rfl⟩
      have hC9 : ∀ (I : TI) (L : TL) (A : TA) (x1 : Int32) (H : Heap) (locs : List Loc) (ls : Array Slot), C9 I L A x1 → SS K s I L A H locs → lv_has ls 2 [(0, .ref o0), (1, .int x1)] → W p (cxl K) e (headSpec wsX7_raise (rmF 3 76)).room s m ([.ref o0] : List Value).toArray below meth c H locs 0 0 (MQ below (cxQv K Q) ([.ref o0] : List Value).toArray s 0 0 (PA (cxb K))) (F0 m 9 ls []) := by
        intro I L A x1 H locs ls hc hz hl
        rw [hCd] at hc
        obtain ⟨μ', hlt, hc⟩ := hc
        exact ih μ' hlt I L A x1 H locs ls hc hz hl
      have hwp := hst μ C9 (fun μ' I L A x1 hlt hc => by rw [hCd]; exact ⟨μ', hlt, hc⟩) I L A x1 hi
      refine lv_iload_n hx hb dX7_raise_9 rfl (lv_at hl 1 rfl) ?_
      refine lv_bipush (v := 16) hx hb dX7_raise_10 (by decide) ?_
      refine lv_icmp_ge (tgt := 31) hx hb dX7_raise_12 (by decide) (fun q => ?_) (fun q => ?_)
      · have hwp := hwp.1 q
        refine lv_aload_n hx hb dX7_raise_31 rfl (lv_at hl 0 rfl) ?_
        obtain ⟨hs20, hwp⟩ := hwp
        refine sw_get (C := RX7) (T := TX7) (N := 25) (v := .ref (o0 + 8)) hx hb hts hw0 hown hK hz hs20 rfl 18 (by decide) hw1 (fun _ h9 => h9) rfl dX7_raise_32 ?_
        refine lv_bipush (v := 112) hx hb dX7_raise_35 (by decide) ?_
        refine lv_iconst (v := 1) hx hb dX7_raise_37 (by decide) ?_
        obtain ⟨ho21, hwp⟩ := hwp
        refine sw_iast hx hb hK hz ho21 dX7_raise_38 (fun H locs I22 e_I22 hz => ?_)
        have hwp := hwp I22 e_I22
        refine lv_aload_n hx hb dX7_raise_39 rfl (lv_at hl 0 rfl) ?_
        refine lv_bipush (v := 7) hx hb dX7_raise_40 (by decide) ?_
        refine lv_iconst (v := 0) hx hb dX7_raise_42 (by decide) ?_
        obtain ⟨P23, hc24, hwp⟩ := hwp
        refine sw_callv hz (va_runV (As := [.int 7, .int 0]) (rest := []) ⟨hx, hb, hml, hown, hts⟩ (hc24 hK _) (cwV 2 hts gX7_raise_X7_reduce rfl rfl rfl (by decide +kernel) ⟨Nat.le_of_ble_eq_true rfl, Nat.le_of_ble_eq_true rfl⟩) (hz.preV hK hs20 rfl) rfl rfl hl.1 rfl (lv_room (Nat.le_of_ble_eq_true rfl)) dX7_raise_43 ⟨Nat.le_of_ble_eq_true rfl, Nat.le_of_ble_eq_true rfl⟩) (fun I25 L26 A27 H locs hp hz => ?_)
        have hwp := hwp I25 L26 A27 hp
        refine lv_aload_n hx hb dX7_raise_46 rfl (lv_at hl 0 rfl) ?_
        refine sw_get (C := RX7) (T := TX7) (N := 25) (v := .int (I25 o0 19)) hx hb hts hw0 hown hK hz hs20 rfl 19 (by decide) hw2 (fun _ h9 => h9) rfl dX7_raise_47 ?_
        refine lv_topi (fun v28 q_v28 => ?_)
        have hwp := hwp v28 q_v28
        refine lv_istore_n (lv' := [(1, .int v28), (0, .ref o0)]) hx hb dX7_raise_50 rfl hl (by decide) rfl (fun ls hl => ?_)
        exact wL51 _ _ _ _ _ _ _ hwp hz (lv_sub hl [1, 0] rfl)
      · have hwp := hwp.2 q
        refine lv_aload_n hx hb dX7_raise_15 rfl (lv_at hl 0 rfl) ?_
        obtain ⟨hs29, hwp⟩ := hwp
        refine sw_get (C := RX7) (T := TX7) (N := 25) (v := .ref (o0 + 8)) hx hb hts hw0 hown hK hz hs29 rfl 18 (by decide) hw1 (fun _ h9 => h9) rfl dX7_raise_16 ?_
        refine lv_bipush (v := 112) hx hb dX7_raise_19 (by decide) ?_
        refine lv_iload_n hx hb dX7_raise_21 rfl (lv_at hl 1 rfl) ?_
        refine lv_iadd hx hb dX7_raise_22 ?_
        refine lv_iconst (v := 0) hx hb dX7_raise_23 (by decide) ?_
        obtain ⟨ho30, hwp⟩ := hwp
        refine sw_iast hx hb hK hz ho30 dX7_raise_24 (fun H locs I31 e_I31 hz => ?_)
        have hwp := hwp I31 e_I31
        obtain ⟨v32, q_v32⟩ : ∃ y : Int32, y = x1 + 1 := ⟨_, rfl⟩
        have hwp := hwp v32 q_v32
        refine lv_iinc (v := v32) (lv' := [(1, .int v32), (0, .ref o0)]) hx hb dX7_raise_25 hl (k := 1) rfl (by rw [q_v32]; rfl) (by decide) rfl (fun ls hl => ?_)
        refine lv_goto (tgt := 9) hx hb dX7_raise_28 (by decide) ?_
        exact hC9 _ _ _ _ _ _ _ hwp hz (lv_sub hl [1, 0] rfl)
    exact key μ I L A x1 H locs ls hi hz hl
  refine lv_aload_n hx hb dX7_raise_0 rfl (lv_at hl 0 rfl) ?_
  refine lv_bipush (v := 6) hx hb dX7_raise_1 (by decide) ?_
  refine lv_iconst (v := 4) hx hb dX7_raise_3 (by decide) ?_
  obtain ⟨hs33, hwp⟩ := hwp
  obtain ⟨P34, hc35, hwp⟩ := hwp
  refine sw_callv hz (va_runV (As := [.int 6, .int 4]) (rest := []) ⟨hx, hb, hml, hown, hts⟩ (hc35 hK _) (cwV 2 hts gX7_raise_X7_modCopy rfl rfl rfl (by decide +kernel) ⟨Nat.le_of_ble_eq_true rfl, Nat.le_of_ble_eq_true rfl⟩) (hz.preV hK hs33 rfl) rfl rfl hl.1 rfl (lv_room (Nat.le_of_ble_eq_true rfl)) dX7_raise_4 ⟨Nat.le_of_ble_eq_true rfl, Nat.le_of_ble_eq_true rfl⟩) (fun I36 L37 A38 H locs hp hz => ?_)
  have hwp := hwp I36 L37 A38 hp
  refine lv_iconst (v := 0) hx hb dX7_raise_7 (by decide) ?_
  refine lv_istore_n (lv' := [(1, .int 0), (0, .ref o0)]) hx hb dX7_raise_8 rfl hl (by decide) rfl (fun ls hl => ?_)
  exact wL9 _ _ _ _ _ _ _ hwp hz (lv_sub hl [1, 0] rfl)

def wp_X7_pattern_305 (K : Cx) (o0 : Nat) (i1 : Int32) (i2 : Int32) (C241 : TI → TL → TA → Int32 → Prop) (I : TI) (L : TL) (A : TA) (x4 : Int32) (x5 : Int32) (x6 : Int32) (Q : Int32 → TI → TL → TA → Prop) : Prop := ∃ (Inv : Nat → TI → TL → TA → Int32 → Int32 → Int32 → Prop) (μ : Nat), Inv μ I L A x4 x5 x6 ∧ ∀ (μ : Nat) (C305 : TI → TL → TA → Int32 → Int32 → Int32 → Prop), (∀ (μ' : Nat) (I : TI) (L : TL) (A : TA) (x4 : Int32) (x5 : Int32) (x6 : Int32) , μ' < μ → Inv μ' I L A x4 x5 x6 → C305 I L A x4 x5 x6) → ∀ (I : TI) (L : TL) (A : TA) (x4 : Int32) (x5 : Int32) (x6 : Int32) , Inv μ I L A x4 x5 x6 → ¬ x4 = 0 ∧ (((x5 / x4) ≤ x6 → ((x5 ≤ 0 → ∀ v2 : Int32, v2 = x4 + 1 → C241 I L A v2) ∧ (¬ x5 ≤ 0 → cxS K o0 = shX7 o0 ∧ ∃ P4 : TI → TL → TA → Prop, ConV K yX7_modCopy wsX7_modCopy 0 0 I L A [.ref o0, .int 8, .int 0] P4 ∧ ∀ (I6 : TI) (L7 : TL) (A8 : TA), P4 I6 L7 A8 → ∃ P9 : TI → TL → TA → Prop, ConV K yX7_reduce wsX7_reduce 1 24 I6 L7 A8 [.ref o0, .int 8, .int 3] P9 ∧ ∀ (I11 : TI) (L12 : TL) (A13 : TA), P9 I11 L12 A13 → ∃ P14 : TI → TL → TA → Prop, ConV K yX7_modCopy wsX7_modCopy 0 0 I11 L12 A13 [.ref o0, .int 0, .int 9] P14 ∧ ∀ (I16 : TI) (L17 : TL) (A18 : TA), P14 I16 L17 A18 → ∀ v19 : Int32, v19 = x4 + 1 → C241 I16 L17 A18 v19))) ∧ (¬ (x5 / x4) ≤ x6 → cxS K o0 = shX7 o0 ∧ aok (cxS K) (o0 + 6) 0 (I o0 11) ∧ ∀ I22 : TI, I22 = u2 I (o0 + 6) (ix (I o0 11)) x4 → ∀ I23 : TI, I23 = u2 I22 o0 11 ((I22 o0 11) + 1) → ∀ v24 : Int32, v24 = x6 + 1 → C305 I23 L A x4 x5 v24))
def wp_X7_pattern_241 (K : Cx) (o0 : Nat) (i1 : Int32) (i2 : Int32) (I : TI) (L : TL) (A : TA) (x4 : Int32) (Q : Int32 → TI → TL → TA → Prop) : Prop := ∃ (Inv : Nat → TI → TL → TA → Int32 → Prop) (μ : Nat), Inv μ I L A x4 ∧ ∀ (μ : Nat) (C241 : TI → TL → TA → Int32 → Prop), (∀ (μ' : Nat) (I : TI) (L : TL) (A : TA) (x4 : Int32) , μ' < μ → Inv μ' I L A x4 → C241 I L A x4) → ∀ (I : TI) (L : TL) (A : TA) (x4 : Int32) , Inv μ I L A x4 → cxS K o0 = shX7 o0 ∧ ∃ P26 : Int32 → TI → TL → TA → Prop, ConI K yX7_modDegree wsX7_modDegree 0 0 I L A [.ref o0, .int 0] P26 ∧ ∀ (r31 : Int32) (I28 : TI) (L29 : TL) (A30 : TA), P26 r31 I28 L29 A30 → ((r31 ≤ 0 → Q (I28 o0 11) I28 L29 A30) ∧ (¬ r31 ≤ 0 → ∃ P32 : TI → TL → TA → Prop, ConV K yX7_reduce wsX7_reduce 1 24 I28 L29 A30 [.ref o0, .int 4, .int 0] P32 ∧ ∀ (I34 : TI) (L35 : TL) (A36 : TA), P32 I34 L35 A36 → ∃ P37 : TI → TL → TA → Prop, ConV K yX7_raise wsX7_raise 3 76 I34 L35 A36 [.ref o0] P37 ∧ ∀ (I39 : TI) (L40 : TL) (A41 : TA), P37 I39 L40 A41 → ∃ P42 : TI → TL → TA → Prop, ConV K yX7_modCopy wsX7_modCopy 0 0 I39 L40 A41 [.ref o0, .int 1, .int 0] P42 ∧ ∀ (I44 : TI) (L45 : TL) (A46 : TA), P42 I44 L45 A46 → ∃ P47 : TI → TL → TA → Prop, ConV K yX7_modCopy wsX7_modCopy 0 0 I44 L45 A46 [.ref o0, .int 2, .int 4] P47 ∧ ∀ (I49 : TI) (L50 : TL) (A51 : TA), P47 I49 L50 A51 → aok (cxS K) (o0 + 8) 0 33 ∧ ¬ i2 = 0 ∧ aok (cxS K) (o0 + 8) 0 33 ∧ ∀ I55 : TI, I55 = u2 I49 (o0 + 8) (ix 33) ((((I49 (o0 + 8) (ix 33)) + i2) - 1) - (((I49 (o0 + 8) (ix 33)) + i2) - 1) / i2 * i2) → ∃ P56 : TI → TL → TA → Prop, ConV K yX7_modCommon wsX7_modCommon 2 51 I55 L50 A51 [.ref o0] P56 ∧ ∀ (I58 : TI) (L59 : TL) (A60 : TA), P56 I58 L59 A60 → ∃ P61 : Int32 → TI → TL → TA → Prop, ConI K yX7_modDegree wsX7_modDegree 0 0 I58 L59 A60 [.ref o0, .int 3] P61 ∧ ∀ (r66 : Int32) (I63 : TI) (L64 : TL) (A65 : TA), P61 r66 I63 L64 A65 → wp_X7_pattern_305 K o0 i1 i2 C241 I63 L64 A65 x4 r66 0 Q))
def wp_X7_pattern_204 (K : Cx) (o0 : Nat) (i1 : Int32) (i2 : Int32) (I : TI) (L : TL) (A : TA) (x4 : Int32) (Q : Int32 → TI → TL → TA → Prop) : Prop := ∃ (Inv : Nat → TI → TL → TA → Int32 → Prop) (μ : Nat), Inv μ I L A x4 ∧ ∀ (μ : Nat) (C204 : TI → TL → TA → Int32 → Prop), (∀ (μ' : Nat) (I : TI) (L : TL) (A : TA) (x4 : Int32) , μ' < μ → Inv μ' I L A x4 → C204 I L A x4) → ∀ (I : TI) (L : TL) (A : TA) (x4 : Int32) , Inv μ I L A x4 → ((16 ≤ x4 → wp_X7_pattern_241 K o0 i1 i2 I L A 1 Q) ∧ (¬ 16 ≤ x4 → cxS K o0 = shX7 o0 ∧ ((x4 = 1 → aok (cxS K) (o0 + 8) 0 (64 + x4) ∧ ∀ I72 : TI, I72 = u2 I (o0 + 8) (ix (64 + x4)) 1 → ∀ v73 : Int32, v73 = x4 + 1 → C204 I72 L A v73) ∧ (¬ x4 = 1 → aok (cxS K) (o0 + 8) 0 (64 + x4) ∧ ∀ I69 : TI, I69 = u2 I (o0 + 8) (ix (64 + x4)) 0 → ∀ v70 : Int32, v70 = x4 + 1 → C204 I69 L A v70))))
def wp_X7_pattern_127 (K : Cx) (o0 : Nat) (i1 : Int32) (i2 : Int32) (I : TI) (L : TL) (A : TA) (x3 : Int32) (x4 : Int32) (Q : Int32 → TI → TL → TA → Prop) : Prop := ∃ (Inv : Nat → TI → TL → TA → Int32 → Int32 → Prop) (μ : Nat), Inv μ I L A x3 x4 ∧ ∀ (μ : Nat) (C127 : TI → TL → TA → Int32 → Int32 → Prop), (∀ (μ' : Nat) (I : TI) (L : TL) (A : TA) (x3 : Int32) (x4 : Int32) , μ' < μ → Inv μ' I L A x3 x4 → C127 I L A x3 x4) → ∀ (I : TI) (L : TL) (A : TA) (x3 : Int32) (x4 : Int32) , Inv μ I L A x3 x4 → ((16 ≤ x4 → cxS K o0 = shX7 o0 ∧ aok (cxS K) (o0 + 8) 0 x3 ∧ (((I (o0 + 8) (ix x3)) = 0 → Q (-1) I L A) ∧ (¬ (I (o0 + 8) (ix x3)) = 0 → ∃ P76 : TI → TL → TA → Prop, ConV K yX7_modCommon wsX7_modCommon 2 51 I L A [.ref o0] P76 ∧ ∀ (I78 : TI) (L79 : TL) (A80 : TA), P76 I78 L79 A80 → ∃ P81 : Int32 → TI → TL → TA → Prop, ConI K yX7_modDegree wsX7_modDegree 0 0 I78 L79 A80 [.ref o0, .int 3] P81 ∧ ∀ (r86 : Int32) (I83 : TI) (L84 : TL) (A85 : TA), P81 r86 I83 L84 A85 → ((r86 ≤ 0 → wp_X7_pattern_204 K o0 i1 i2 I83 L84 A85 0 Q) ∧ (¬ r86 ≤ 0 → Q (-1) I83 L84 A85))))) ∧ (¬ 16 ≤ x4 → cxS K o0 = shX7 o0 ∧ ((x3 ≤ x4 → aok (cxS K) (o0 + 8) 0 (32 + x4) ∧ ∀ I89 : TI, I89 = u2 I (o0 + 8) (ix (32 + x4)) 0 → ∀ v90 : Int32, v90 = x4 + 1 → C127 I89 L A x3 v90) ∧ (¬ x3 ≤ x4 → aok (cxS K) (o0 + 8) 0 (x4 + 1) ∧ ¬ i2 = 0 ∧ aok (cxS K) (o0 + 8) 0 (32 + x4) ∧ ∀ I94 : TI, I94 = u2 I (o0 + 8) (ix (32 + x4)) (((I (o0 + 8) (ix (x4 + 1))) * (x4 + 1)) - ((I (o0 + 8) (ix (x4 + 1))) * (x4 + 1)) / i2 * i2) → ∀ v95 : Int32, v95 = x4 + 1 → C127 I94 L A x3 v95))))
def wp_X7_pattern_100 (K : Cx) (o0 : Nat) (i1 : Int32) (i2 : Int32) (C55 : TI → TL → TA → Int32 → Int32 → Prop) (I : TI) (L : TL) (A : TA) (x3 : Int32) (x4 : Int32) (y0 : Int32) (y1 : Int32) (y2 : Nat) (Q : Int32 → TI → TL → TA → Prop) : Prop := aok (cxS K) y2 0 y1 ∧ ∀ I97 : TI, I97 = u2 I y2 (ix y1) y0 → cxS K o0 = shX7 o0 ∧ aok (cxS K) (o0 + 8) 0 x4 ∧ aok (cxS K) (o0 + 8) 0 (16 + x4) ∧ ∀ I101 : TI, I101 = u2 I97 (o0 + 8) (ix (16 + x4)) (I97 (o0 + 8) (ix x4)) → ∀ v102 : Int32, v102 = x4 + 1 → C55 I101 L A x3 v102
def wp_X7_pattern_55 (K : Cx) (o0 : Nat) (i1 : Int32) (i2 : Int32) (I : TI) (L : TL) (A : TA) (x3 : Int32) (x4 : Int32) (Q : Int32 → TI → TL → TA → Prop) : Prop := ∃ (Inv : Nat → TI → TL → TA → Int32 → Int32 → Prop) (μ : Nat), Inv μ I L A x3 x4 ∧ ∀ (μ : Nat) (C55 : TI → TL → TA → Int32 → Int32 → Prop), (∀ (μ' : Nat) (I : TI) (L : TL) (A : TA) (x3 : Int32) (x4 : Int32) , μ' < μ → Inv μ' I L A x3 x4 → C55 I L A x3 x4) → ∀ (I : TI) (L : TL) (A : TA) (x3 : Int32) (x4 : Int32) , Inv μ I L A x3 x4 → ((16 ≤ x4 → wp_X7_pattern_127 K o0 i1 i2 I L A x3 0 Q) ∧ (¬ 16 ≤ x4 → cxS K o0 = shX7 o0 ∧ ((x3 < x4 → wp_X7_pattern_100 K o0 i1 i2 C55 I L A x3 x4 0 x4 (o0 + 8) Q) ∧ (¬ x3 < x4 → aok (cxS K) (o0 + 1) 1 ((8 * i1) + x4) ∧ ¬ (Int32.toInt64 i2) = 0 ∧ ¬ (Int32.toInt64 i2) = 0 ∧ wp_X7_pattern_100 K o0 i1 i2 C55 I L A x3 x4 (Int64.toInt32 ((((L (o0 + 1) (ix ((8 * i1) + x4))) - (L (o0 + 1) (ix ((8 * i1) + x4))) / (Int32.toInt64 i2) * (Int32.toInt64 i2)) + (Int32.toInt64 i2)) - (((L (o0 + 1) (ix ((8 * i1) + x4))) - (L (o0 + 1) (ix ((8 * i1) + x4))) / (Int32.toInt64 i2) * (Int32.toInt64 i2)) + (Int32.toInt64 i2)) / (Int32.toInt64 i2) * (Int32.toInt64 i2))) x4 (o0 + 8) Q))))
def wp_X7_pattern_20 (K : Cx) (o0 : Nat) (i1 : Int32) (i2 : Int32) (I : TI) (L : TL) (A : TA) (y0 : Int32) (y1 : Nat) (Q : Int32 → TI → TL → TA → Prop) : Prop := cxS K y1 = shX7 y1 ∧ ∃ P108 : Int32 → TI → TL → TA → Prop, ConI K yX7_refused wsX7_refused 0 0 I L A [.ref y1, .int y0] P108 ∧ ∀ (r113 : Int32) (I110 : TI) (L111 : TL) (A112 : TA), P108 r113 I110 L111 A112 → ((r113 = 0 → cxS K o0 = shX7 o0 ∧ ∀ I115 : TI, I115 = u2 I110 o0 11 0 → ∃ P116 : Int32 → TI → TL → TA → Prop, ConI K yX7_degreeOf wsX7_degreeOf 0 0 I115 L111 A112 [.ref o0, .int i1] P116 ∧ ∀ (r121 : Int32) (I118 : TI) (L119 : TL) (A120 : TA), P116 r121 I118 L119 A120 → ((1 ≤ r121 → ∀ I122 : TI, I122 = u2 I118 o0 19 i2 → wp_X7_pattern_55 K o0 i1 i2 I122 L119 A120 r121 0 Q) ∧ (¬ 1 ≤ r121 → Q (-3) I118 L119 A120))) ∧ (¬ r113 = 0 → Q 0 I110 L111 A112))
def wp_X7_pattern_19 (K : Cx) (o0 : Nat) (i1 : Int32) (i2 : Int32) (I : TI) (L : TL) (A : TA) (y0 : Nat) (Q : Int32 → TI → TL → TA → Prop) : Prop := wp_X7_pattern_20 K o0 i1 i2 I L A 1 y0 Q
def wp_X7_pattern (K : Cx) (I : TI) (L : TL) (A : TA) (o0 : Nat) (i1 : Int32) (i2 : Int32) (Q : Int32 → TI → TL → TA → Prop) : Prop := ∃ P123 : Int32 → TI → TL → TA → Prop, ConI K yX7_isSlot wsX7_isSlot 0 0 I L A [.int i1] P123 ∧ ∀ (r128 : Int32) (I125 : TI) (L126 : TL) (A127 : TA), P123 r128 I125 L126 A127 → ((r128 = 0 → wp_X7_pattern_19 K o0 i1 i2 I125 L126 A127 o0 Q) ∧ (¬ r128 = 0 → ∃ P129 : Int32 → TI → TL → TA → Prop, ConI K yX7_isPrime wsX7_isPrime 0 0 I125 L126 A127 [.int i2] P129 ∧ ∀ (r134 : Int32) (I131 : TI) (L132 : TL) (A133 : TA), P129 r134 I131 L132 A133 → ((r134 = 0 → wp_X7_pattern_19 K o0 i1 i2 I131 L132 A133 o0 Q) ∧ (¬ r134 = 0 → wp_X7_pattern_20 K o0 i1 i2 I131 L132 A133 0 o0 Q))))
set_option maxHeartbeats 1000000 in
set_option maxRecDepth 100000 in
theorem w_X7_pattern (K : Cx) (I : TI) (L : TL) (A : TA) (o0 : Nat) (i1 : Int32) (i2 : Int32) (Q : Int32 → TI → TL → TA → Prop) (hwp : wp_X7_pattern K I L A o0 i1 i2 Q) : ConI K yX7_pattern wsX7_pattern 4 97 I L A [.ref o0, .int i1, .int i2] Q := by
  intro hK sz
  refine Met.ofW (cc := cX7_pattern) (maxL := 7) (ret := (some .int)) (by decide) rfl ?_
  intro p e s m args below meth c s₁ B hml hv
  obtain ⟨rfl, hsz, hB⟩ := hv
  have hx := B.exec
  have hb := B.bytes
  have hret := B.returns
  have hts := atoms_spec (ws := wsX7_pattern) B.pre
  have hown : s.vm.findClass RX7 = some m.cls := findClass_of_methodNamed B.named
  have hlocks := B.notSynchronized
  subst hsz
  have hz : SS K s I L A s.heap [] := PS.start hB
  have hl := lv_entry ([.ref o0, .int i1, .int i2]) (n := 7) (Nat.le_of_ble_eq_true rfl)
  rw [lg_entry_eq]
  generalize (lg_sl ([.ref o0, .int i1, .int i2]) ++ List.replicate (7 - (lg_sl ([.ref o0, .int i1, .int i2])).length) Slot.unset).toArray = ls at hl ⊢
  have hl : lv_has ls 7 [(0, .ref o0), (1, .int i1), (2, .int i2)] := hl
  have hw0 : ∀ w ∈ u_ws RX7 TX7 25, w ∈ wsX7_pattern := by decide +kernel
  have hw1 := hts (.fieldLink RX7 26 "GaloisDeskModel" "pattern" "[I") (by decide +kernel)
  have hw2 := hts (.fieldLink RX7 188 "GaloisDeskModel" "degrees" "I") (by decide +kernel)
  have hw3 := hts (.fieldLink RX7 32 "GaloisDeskModel" "mod" "[I") (by decide +kernel)
  have hw4 := hts (.fieldLink RX7 7 "GaloisDeskModel" "row" "[J") (by decide +kernel)
  have hw5 := hts (.fieldLink RX7 167 "GaloisDeskModel" "prime" "I") (by decide +kernel)
  clear hB B
  have wL305 : ∀ (C241 : TI → TL → TA → Int32 → Prop) (hC241 : ∀ (I : TI) (L : TL) (A : TA) (x4 : Int32) (H : Heap) (locs : List Loc) (ls : Array Slot), C241 I L A x4 → SS K s I L A H locs → lv_has ls 7 [(0, .ref o0), (2, .int i2), (4, .int x4)] → W p (cxl K) e (headSpec wsX7_pattern (rmF 4 97)).room s m ([.ref o0, .int i1, .int i2] : List Value).toArray below meth c H locs 0 0 (MQ below (cxQi K Q) ([.ref o0, .int i1, .int i2] : List Value).toArray s 0 0 (PA (cxb K))) (F0 m 241 ls [])) (I : TI) (L : TL) (A : TA) (x4 : Int32) (x5 : Int32) (x6 : Int32) (H : Heap) (locs : List Loc) (ls : Array Slot), wp_X7_pattern_305 K o0 i1 i2 C241 I L A x4 x5 x6 Q → SS K s I L A H locs → lv_has ls 7 [(0, .ref o0), (2, .int i2), (4, .int x4), (5, .int x5), (6, .int x6)] → W p (cxl K) e (headSpec wsX7_pattern (rmF 4 97)).room s m ([.ref o0, .int i1, .int i2] : List Value).toArray below meth c H locs 0 0 (MQ below (cxQi K Q) ([.ref o0, .int i1, .int i2] : List Value).toArray s 0 0 (PA (cxb K))) (F0 m 305 ls []) := by
    intro C241 hC241 I L A x4 x5 x6 H locs ls hwp hz hl
    obtain ⟨Inv, μ, hi, hst⟩ := hwp
    have key : ∀ (μ : Nat) (I : TI) (L : TL) (A : TA) (x4 : Int32) (x5 : Int32) (x6 : Int32) (H : Heap) (locs : List Loc) (ls : Array Slot), Inv μ I L A x4 x5 x6 → SS K s I L A H locs → lv_has ls 7 [(0, .ref o0), (2, .int i2), (4, .int x4), (5, .int x5), (6, .int x6)] → W p (cxl K) e (headSpec wsX7_pattern (rmF 4 97)).room s m ([.ref o0, .int i1, .int i2] : List Value).toArray below meth c H locs 0 0 (MQ below (cxQi K Q) ([.ref o0, .int i1, .int i2] : List Value).toArray s 0 0 (PA (cxb K))) (F0 m 305 ls []) := by
      clear hi hz hl
      intro μ
      induction μ using Nat.strongRecOn with | ind μ ih => ?_
      intro I L A x4 x5 x6 H locs ls hi hz hl
      obtain ⟨C305, hCd⟩ : ∃ C : TI → TL → TA → Int32 → Int32 → Int32 → Prop, C = fun I L A x4 x5 x6 => ∃ μ', μ' < μ ∧ Inv μ' I L A x4 x5 x6 := ⟨_, rfl⟩
      have hC305 : ∀ (I : TI) (L : TL) (A : TA) (x4 : Int32) (x5 : Int32) (x6 : Int32) (H : Heap) (locs : List Loc) (ls : Array Slot), C305 I L A x4 x5 x6 → SS K s I L A H locs → lv_has ls 7 [(0, .ref o0), (2, .int i2), (4, .int x4), (5, .int x5), (6, .int x6)] → W p (cxl K) e (headSpec wsX7_pattern (rmF 4 97)).room s m ([.ref o0, .int i1, .int i2] : List Value).toArray below meth c H locs 0 0 (MQ below (cxQi K Q) ([.ref o0, .int i1, .int i2] : List Value).toArray s 0 0 (PA (cxb K))) (F0 m 305 ls []) := by
        intro I L A x4 x5 x6 H locs ls hc hz hl
        rw [hCd] at hc
        obtain ⟨μ', hlt, hc⟩ := hc
        exact ih μ' hlt I L A x4 x5 x6 H locs ls hc hz hl
      have hwp := hst μ C305 (fun μ' I L A x4 x5 x6 hlt hc => by rw [hCd]; exact ⟨μ', hlt, hc⟩) I L A x4 x5 x6 hi
      refine lv_iload hx hb dX7_pattern_305 (lv_at hl 4 rfl) ?_
      refine lv_iload hx hb dX7_pattern_307 (lv_at hl 3 rfl) ?_
      refine lv_iload hx hb dX7_pattern_309 (lv_at hl 2 rfl) ?_
      obtain ⟨hn1, hwp⟩ := hwp
      refine lv_idiv hx hb dX7_pattern_311 hn1 ?_
      refine lv_icmp_ge (tgt := 342) hx hb dX7_pattern_312 (by decide) (fun q => ?_) (fun q => ?_)
      · have hwp := hwp.1 q
        refine lv_iload hx hb dX7_pattern_342 (lv_at hl 3 rfl) ?_
        refine lv_if_le (tgt := 368) hx hb dX7_pattern_344 (by decide) (fun q => ?_) (fun q => ?_)
        · have hwp := hwp.1 q
          obtain ⟨v2, q_v2⟩ : ∃ y : Int32, y = x4 + 1 := ⟨_, rfl⟩
          have hwp := hwp v2 q_v2
          refine lv_iinc (v := v2) (lv' := [(4, .int v2), (0, .ref o0), (2, .int i2), (5, .int x5), (6, .int x6)]) hx hb dX7_pattern_368 hl (k := 2) rfl (by rw [q_v2]; rfl) (by decide) rfl (fun ls hl => ?_)
          refine lv_goto (tgt := 241) hx hb dX7_pattern_371 (by decide) ?_
          exact hC241 _ _ _ _ _ _ _ hwp hz (lv_sub hl [1, 2, 0] rfl)
        · have hwp := hwp.2 q
          refine lv_aload_n hx hb dX7_pattern_347 rfl (lv_at hl 0 rfl) ?_
          refine lv_bipush (v := 8) hx hb dX7_pattern_348 (by decide) ?_
          refine lv_iconst (v := 0) hx hb dX7_pattern_350 (by decide) ?_
          obtain ⟨hs3, hwp⟩ := hwp
          obtain ⟨P4, hc5, hwp⟩ := hwp
          refine sw_callv hz (va_runV (As := [.int 8, .int 0]) (rest := []) ⟨hx, hb, hml, hown, hts⟩ (hc5 hK _) (cwV 2 hts gX7_pattern_X7_modCopy rfl rfl rfl (by decide +kernel) ⟨Nat.le_of_ble_eq_true rfl, Nat.le_of_ble_eq_true rfl⟩) (hz.preV hK hs3 rfl) rfl rfl hl.1 rfl (lv_room (Nat.le_of_ble_eq_true rfl)) dX7_pattern_351 ⟨Nat.le_of_ble_eq_true rfl, Nat.le_of_ble_eq_true rfl⟩) (fun I6 L7 A8 H locs hp hz => ?_)
          have hwp := hwp I6 L7 A8 hp
          refine lv_aload_n hx hb dX7_pattern_354 rfl (lv_at hl 0 rfl) ?_
          refine lv_bipush (v := 8) hx hb dX7_pattern_355 (by decide) ?_
          refine lv_iconst (v := 3) hx hb dX7_pattern_357 (by decide) ?_
          obtain ⟨P9, hc10, hwp⟩ := hwp
          refine sw_callv hz (va_runV (As := [.int 8, .int 3]) (rest := []) ⟨hx, hb, hml, hown, hts⟩ (hc10 hK _) (cwV 2 hts gX7_pattern_X7_reduce rfl rfl rfl (by decide +kernel) ⟨Nat.le_of_ble_eq_true rfl, Nat.le_of_ble_eq_true rfl⟩) (hz.preV hK hs3 rfl) rfl rfl hl.1 rfl (lv_room (Nat.le_of_ble_eq_true rfl)) dX7_pattern_358 ⟨Nat.le_of_ble_eq_true rfl, Nat.le_of_ble_eq_true rfl⟩) (fun I11 L12 A13 H locs hp hz => ?_)
          have hwp := hwp I11 L12 A13 hp
          refine lv_aload_n hx hb dX7_pattern_361 rfl (lv_at hl 0 rfl) ?_
          refine lv_iconst (v := 0) hx hb dX7_pattern_362 (by decide) ?_
          refine lv_bipush (v := 9) hx hb dX7_pattern_363 (by decide) ?_
          obtain ⟨P14, hc15, hwp⟩ := hwp
          refine sw_callv hz (va_runV (As := [.int 0, .int 9]) (rest := []) ⟨hx, hb, hml, hown, hts⟩ (hc15 hK _) (cwV 2 hts gX7_pattern_X7_modCopy rfl rfl rfl (by decide +kernel) ⟨Nat.le_of_ble_eq_true rfl, Nat.le_of_ble_eq_true rfl⟩) (hz.preV hK hs3 rfl) rfl rfl hl.1 rfl (lv_room (Nat.le_of_ble_eq_true rfl)) dX7_pattern_365 ⟨Nat.le_of_ble_eq_true rfl, Nat.le_of_ble_eq_true rfl⟩) (fun I16 L17 A18 H locs hp hz => ?_)
          have hwp := hwp I16 L17 A18 hp
          obtain ⟨v19, q_v19⟩ : ∃ y : Int32, y = x4 + 1 := ⟨_, rfl⟩
          have hwp := hwp v19 q_v19
          refine lv_iinc (v := v19) (lv' := [(4, .int v19), (0, .ref o0), (2, .int i2), (5, .int x5), (6, .int x6)]) hx hb dX7_pattern_368 hl (k := 2) rfl (by rw [q_v19]; rfl) (by decide) rfl (fun ls hl => ?_)
          refine lv_goto (tgt := 241) hx hb dX7_pattern_371 (by decide) ?_
          exact hC241 _ _ _ _ _ _ _ hwp hz (lv_sub hl [1, 2, 0] rfl)
      · have hwp := hwp.2 q
        refine lv_aload_n hx hb dX7_pattern_315 rfl (lv_at hl 0 rfl) ?_
        obtain ⟨hs20, hwp⟩ := hwp
        refine sw_get (C := RX7) (T := TX7) (N := 25) (v := .ref (o0 + 6)) hx hb hts hw0 hown hK hz hs20 rfl 12 (by decide) hw1 (fun _ h9 => h9) rfl dX7_pattern_316 ?_
        refine lv_aload_n hx hb dX7_pattern_319 rfl (lv_at hl 0 rfl) ?_
        refine sw_get (C := RX7) (T := TX7) (N := 25) (v := .int (I o0 11)) hx hb hts hw0 hown hK hz hs20 rfl 11 (by decide) hw2 (fun _ h9 => h9) rfl dX7_pattern_320 ?_
        refine lv_iload hx hb dX7_pattern_323 (lv_at hl 2 rfl) ?_
        obtain ⟨ho21, hwp⟩ := hwp
        refine sw_iast hx hb hK hz ho21 dX7_pattern_325 (fun H locs I22 e_I22 hz => ?_)
        have hwp := hwp I22 e_I22
        refine lv_aload_n hx hb dX7_pattern_326 rfl (lv_at hl 0 rfl) ?_
        refine lv_dup hx hb dX7_pattern_327 rfl ?_
        refine sw_get (C := RX7) (T := TX7) (N := 25) (v := .int (I22 o0 11)) hx hb hts hw0 hown hK hz hs20 rfl 11 (by decide) hw2 (fun _ h9 => h9) rfl dX7_pattern_328 ?_
        refine lv_iconst (v := 1) hx hb dX7_pattern_331 (by decide) ?_
        refine lv_iadd hx hb dX7_pattern_332 ?_
        refine sw_putI (C := RX7) (T := TX7) (N := 25) hx hb hts hw0 tyX7 tyX7_ok nmX7 hown hK hz hs20 rfl 11 (by decide) hw2 (fun _ h9 => h9) rfl (by decide +kernel) rfl dX7_pattern_333 (fun H locs I23 e_I23 hz => ?_)
        have hwp := hwp I23 e_I23
        obtain ⟨v24, q_v24⟩ : ∃ y : Int32, y = x6 + 1 := ⟨_, rfl⟩
        have hwp := hwp v24 q_v24
        refine lv_iinc (v := v24) (lv' := [(6, .int v24), (0, .ref o0), (2, .int i2), (4, .int x4), (5, .int x5)]) hx hb dX7_pattern_336 hl (k := 4) rfl (by rw [q_v24]; rfl) (by decide) rfl (fun ls hl => ?_)
        refine lv_goto (tgt := 305) hx hb dX7_pattern_339 (by decide) ?_
        exact hC305 _ _ _ _ _ _ _ _ _ hwp hz (lv_sub hl [1, 2, 3, 4, 0] rfl)
    exact key μ I L A x4 x5 x6 H locs ls hi hz hl
  have wL241 : ∀ (I : TI) (L : TL) (A : TA) (x4 : Int32) (H : Heap) (locs : List Loc) (ls : Array Slot), wp_X7_pattern_241 K o0 i1 i2 I L A x4 Q → SS K s I L A H locs → lv_has ls 7 [(0, .ref o0), (2, .int i2), (4, .int x4)] → W p (cxl K) e (headSpec wsX7_pattern (rmF 4 97)).room s m ([.ref o0, .int i1, .int i2] : List Value).toArray below meth c H locs 0 0 (MQ below (cxQi K Q) ([.ref o0, .int i1, .int i2] : List Value).toArray s 0 0 (PA (cxb K))) (F0 m 241 ls []) := by
    intro I L A x4 H locs ls hwp hz hl
    obtain ⟨Inv, μ, hi, hst⟩ := hwp
    have key : ∀ (μ : Nat) (I : TI) (L : TL) (A : TA) (x4 : Int32) (H : Heap) (locs : List Loc) (ls : Array Slot), Inv μ I L A x4 → SS K s I L A H locs → lv_has ls 7 [(0, .ref o0), (2, .int i2), (4, .int x4)] → W p (cxl K) e (headSpec wsX7_pattern (rmF 4 97)).room s m ([.ref o0, .int i1, .int i2] : List Value).toArray below meth c H locs 0 0 (MQ below (cxQi K Q) ([.ref o0, .int i1, .int i2] : List Value).toArray s 0 0 (PA (cxb K))) (F0 m 241 ls []) := by
      clear hi hz hl
      intro μ
      induction μ using Nat.strongRecOn with | ind μ ih => ?_
      intro I L A x4 H locs ls hi hz hl
      obtain ⟨C241, hCd⟩ : ∃ C : TI → TL → TA → Int32 → Prop, C = fun I L A x4 => ∃ μ', μ' < μ ∧ Inv μ' I L A x4 := ⟨_, rfl⟩
      have hC241 : ∀ (I : TI) (L : TL) (A : TA) (x4 : Int32) (H : Heap) (locs : List Loc) (ls : Array Slot), C241 I L A x4 → SS K s I L A H locs → lv_has ls 7 [(0, .ref o0), (2, .int i2), (4, .int x4)] → W p (cxl K) e (headSpec wsX7_pattern (rmF 4 97)).room s m ([.ref o0, .int i1, .int i2] : List Value).toArray below meth c H locs 0 0 (MQ below (cxQi K Q) ([.ref o0, .int i1, .int i2] : List Value).toArray s 0 0 (PA (cxb K))) (F0 m 241 ls []) := by
        intro I L A x4 H locs ls hc hz hl
        rw [hCd] at hc
        obtain ⟨μ', hlt, hc⟩ := hc
        exact ih μ' hlt I L A x4 H locs ls hc hz hl
      have hwp := hst μ C241 (fun μ' I L A x4 hlt hc => by rw [hCd]; exact ⟨μ', hlt, hc⟩) I L A x4 hi
      refine lv_aload_n hx hb dX7_pattern_241 rfl (lv_at hl 0 rfl) ?_
      refine lv_iconst (v := 0) hx hb dX7_pattern_242 (by decide) ?_
      obtain ⟨hs25, hwp⟩ := hwp
      obtain ⟨P26, hc27, hwp⟩ := hwp
      refine sw_calli hz (va_runV (As := [.int 0]) (rest := []) ⟨hx, hb, hml, hown, hts⟩ (hc27 hK _) (cwV 1 hts gX7_pattern_X7_modDegree rfl rfl rfl (by decide +kernel) ⟨Nat.le_of_ble_eq_true rfl, Nat.le_of_ble_eq_true rfl⟩) (hz.preV hK hs25 rfl) rfl rfl hl.1 rfl (lv_room (Nat.le_of_ble_eq_true rfl)) dX7_pattern_243 ⟨Nat.le_of_ble_eq_true rfl, Nat.le_of_ble_eq_true rfl⟩) (fun r31 I28 L29 A30 H locs hp hz => ?_)
      have hwp := hwp r31 I28 L29 A30 hp
      refine lv_if_le (tgt := 374) hx hb dX7_pattern_246 (by decide) (fun q => ?_) (fun q => ?_)
      · have hwp := hwp.1 q
        refine lv_aload_n hx hb dX7_pattern_374 rfl (lv_at hl 0 rfl) ?_
        refine sw_get (C := RX7) (T := TX7) (N := 25) (v := .int (I28 o0 11)) hx hb hts hw0 hown hK hz hs25 rfl 11 (by decide) hw2 (fun _ h9 => h9) rfl dX7_pattern_375 ?_
        exact sw_iret hx hb hret hlocks hz hwp dX7_pattern_378
      · have hwp := hwp.2 q
        refine lv_aload_n hx hb dX7_pattern_249 rfl (lv_at hl 0 rfl) ?_
        refine lv_iconst (v := 4) hx hb dX7_pattern_250 (by decide) ?_
        refine lv_iconst (v := 0) hx hb dX7_pattern_251 (by decide) ?_
        obtain ⟨P32, hc33, hwp⟩ := hwp
        refine sw_callv hz (va_runV (As := [.int 4, .int 0]) (rest := []) ⟨hx, hb, hml, hown, hts⟩ (hc33 hK _) (cwV 2 hts gX7_pattern_X7_reduce rfl rfl rfl (by decide +kernel) ⟨Nat.le_of_ble_eq_true rfl, Nat.le_of_ble_eq_true rfl⟩) (hz.preV hK hs25 rfl) rfl rfl hl.1 rfl (lv_room (Nat.le_of_ble_eq_true rfl)) dX7_pattern_252 ⟨Nat.le_of_ble_eq_true rfl, Nat.le_of_ble_eq_true rfl⟩) (fun I34 L35 A36 H locs hp hz => ?_)
        have hwp := hwp I34 L35 A36 hp
        refine lv_aload_n hx hb dX7_pattern_255 rfl (lv_at hl 0 rfl) ?_
        obtain ⟨P37, hc38, hwp⟩ := hwp
        refine sw_callv hz (va_runV (As := []) (rest := []) ⟨hx, hb, hml, hown, hts⟩ (hc38 hK _) (cwV 0 hts gX7_pattern_X7_raise rfl rfl rfl (by decide +kernel) ⟨Nat.le_of_ble_eq_true rfl, Nat.le_of_ble_eq_true rfl⟩) (hz.preV hK hs25 rfl) rfl rfl hl.1 rfl (lv_room (Nat.le_of_ble_eq_true rfl)) dX7_pattern_256 ⟨Nat.le_of_ble_eq_true rfl, Nat.le_of_ble_eq_true rfl⟩) (fun I39 L40 A41 H locs hp hz => ?_)
        have hwp := hwp I39 L40 A41 hp
        refine lv_aload_n hx hb dX7_pattern_259 rfl (lv_at hl 0 rfl) ?_
        refine lv_iconst (v := 1) hx hb dX7_pattern_260 (by decide) ?_
        refine lv_iconst (v := 0) hx hb dX7_pattern_261 (by decide) ?_
        obtain ⟨P42, hc43, hwp⟩ := hwp
        refine sw_callv hz (va_runV (As := [.int 1, .int 0]) (rest := []) ⟨hx, hb, hml, hown, hts⟩ (hc43 hK _) (cwV 2 hts gX7_pattern_X7_modCopy rfl rfl rfl (by decide +kernel) ⟨Nat.le_of_ble_eq_true rfl, Nat.le_of_ble_eq_true rfl⟩) (hz.preV hK hs25 rfl) rfl rfl hl.1 rfl (lv_room (Nat.le_of_ble_eq_true rfl)) dX7_pattern_262 ⟨Nat.le_of_ble_eq_true rfl, Nat.le_of_ble_eq_true rfl⟩) (fun I44 L45 A46 H locs hp hz => ?_)
        have hwp := hwp I44 L45 A46 hp
        refine lv_aload_n hx hb dX7_pattern_265 rfl (lv_at hl 0 rfl) ?_
        refine lv_iconst (v := 2) hx hb dX7_pattern_266 (by decide) ?_
        refine lv_iconst (v := 4) hx hb dX7_pattern_267 (by decide) ?_
        obtain ⟨P47, hc48, hwp⟩ := hwp
        refine sw_callv hz (va_runV (As := [.int 2, .int 4]) (rest := []) ⟨hx, hb, hml, hown, hts⟩ (hc48 hK _) (cwV 2 hts gX7_pattern_X7_modCopy rfl rfl rfl (by decide +kernel) ⟨Nat.le_of_ble_eq_true rfl, Nat.le_of_ble_eq_true rfl⟩) (hz.preV hK hs25 rfl) rfl rfl hl.1 rfl (lv_room (Nat.le_of_ble_eq_true rfl)) dX7_pattern_268 ⟨Nat.le_of_ble_eq_true rfl, Nat.le_of_ble_eq_true rfl⟩) (fun I49 L50 A51 H locs hp hz => ?_)
        have hwp := hwp I49 L50 A51 hp
        refine lv_aload_n hx hb dX7_pattern_271 rfl (lv_at hl 0 rfl) ?_
        refine sw_get (C := RX7) (T := TX7) (N := 25) (v := .ref (o0 + 8)) hx hb hts hw0 hown hK hz hs25 rfl 18 (by decide) hw3 (fun _ h9 => h9) rfl dX7_pattern_272 ?_
        refine lv_bipush (v := 33) hx hb dX7_pattern_275 (by decide) ?_
        refine lv_aload_n hx hb dX7_pattern_277 rfl (lv_at hl 0 rfl) ?_
        refine sw_get (C := RX7) (T := TX7) (N := 25) (v := .ref (o0 + 8)) hx hb hts hw0 hown hK hz hs25 rfl 18 (by decide) hw3 (fun _ h9 => h9) rfl dX7_pattern_278 ?_
        refine lv_bipush (v := 33) hx hb dX7_pattern_281 (by decide) ?_
        obtain ⟨ho52, hwp⟩ := hwp
        refine sw_iald hx hb hK hz ho52 dX7_pattern_283 ?_
        refine lv_iload_n hx hb dX7_pattern_284 rfl (lv_at hl 1 rfl) ?_
        refine lv_iadd hx hb dX7_pattern_285 ?_
        refine lv_iconst (v := 1) hx hb dX7_pattern_286 (by decide) ?_
        refine lv_isub hx hb dX7_pattern_287 ?_
        refine lv_iload_n hx hb dX7_pattern_288 rfl (lv_at hl 1 rfl) ?_
        obtain ⟨hn53, hwp⟩ := hwp
        refine lv_irem hx hb dX7_pattern_289 hn53 ?_
        obtain ⟨ho54, hwp⟩ := hwp
        refine sw_iast hx hb hK hz ho54 dX7_pattern_290 (fun H locs I55 e_I55 hz => ?_)
        have hwp := hwp I55 e_I55
        refine lv_aload_n hx hb dX7_pattern_291 rfl (lv_at hl 0 rfl) ?_
        obtain ⟨P56, hc57, hwp⟩ := hwp
        refine sw_callv hz (va_runV (As := []) (rest := []) ⟨hx, hb, hml, hown, hts⟩ (hc57 hK _) (cwV 0 hts gX7_pattern_X7_modCommon rfl rfl rfl (by decide +kernel) ⟨Nat.le_of_ble_eq_true rfl, Nat.le_of_ble_eq_true rfl⟩) (hz.preV hK hs25 rfl) rfl rfl hl.1 rfl (lv_room (Nat.le_of_ble_eq_true rfl)) dX7_pattern_292 ⟨Nat.le_of_ble_eq_true rfl, Nat.le_of_ble_eq_true rfl⟩) (fun I58 L59 A60 H locs hp hz => ?_)
        have hwp := hwp I58 L59 A60 hp
        refine lv_aload_n hx hb dX7_pattern_295 rfl (lv_at hl 0 rfl) ?_
        refine lv_iconst (v := 3) hx hb dX7_pattern_296 (by decide) ?_
        obtain ⟨P61, hc62, hwp⟩ := hwp
        refine sw_calli hz (va_runV (As := [.int 3]) (rest := []) ⟨hx, hb, hml, hown, hts⟩ (hc62 hK _) (cwV 1 hts gX7_pattern_X7_modDegree rfl rfl rfl (by decide +kernel) ⟨Nat.le_of_ble_eq_true rfl, Nat.le_of_ble_eq_true rfl⟩) (hz.preV hK hs25 rfl) rfl rfl hl.1 rfl (lv_room (Nat.le_of_ble_eq_true rfl)) dX7_pattern_297 ⟨Nat.le_of_ble_eq_true rfl, Nat.le_of_ble_eq_true rfl⟩) (fun r66 I63 L64 A65 H locs hp hz => ?_)
        have hwp := hwp r66 I63 L64 A65 hp
        refine lv_istore (lv' := [(5, .int r66), (0, .ref o0), (2, .int i2), (4, .int x4)]) hx hb dX7_pattern_300 hl (by decide) rfl (fun ls hl => ?_)
        refine lv_iconst (v := 0) hx hb dX7_pattern_302 (by decide) ?_
        refine lv_istore (lv' := [(6, .int 0), (5, .int r66), (0, .ref o0), (2, .int i2), (4, .int x4)]) hx hb dX7_pattern_303 hl (by decide) rfl (fun ls hl => ?_)
        exact wL305 _ hC241 _ _ _ _ _ _ _ _ _ hwp hz (lv_sub hl [2, 3, 4, 1, 0] rfl)
    exact key μ I L A x4 H locs ls hi hz hl
  have wL204 : ∀ (I : TI) (L : TL) (A : TA) (x4 : Int32) (H : Heap) (locs : List Loc) (ls : Array Slot), wp_X7_pattern_204 K o0 i1 i2 I L A x4 Q → SS K s I L A H locs → lv_has ls 7 [(0, .ref o0), (2, .int i2), (4, .int x4)] → W p (cxl K) e (headSpec wsX7_pattern (rmF 4 97)).room s m ([.ref o0, .int i1, .int i2] : List Value).toArray below meth c H locs 0 0 (MQ below (cxQi K Q) ([.ref o0, .int i1, .int i2] : List Value).toArray s 0 0 (PA (cxb K))) (F0 m 204 ls []) := by
    intro I L A x4 H locs ls hwp hz hl
    obtain ⟨Inv, μ, hi, hst⟩ := hwp
    have key : ∀ (μ : Nat) (I : TI) (L : TL) (A : TA) (x4 : Int32) (H : Heap) (locs : List Loc) (ls : Array Slot), Inv μ I L A x4 → SS K s I L A H locs → lv_has ls 7 [(0, .ref o0), (2, .int i2), (4, .int x4)] → W p (cxl K) e (headSpec wsX7_pattern (rmF 4 97)).room s m ([.ref o0, .int i1, .int i2] : List Value).toArray below meth c H locs 0 0 (MQ below (cxQi K Q) ([.ref o0, .int i1, .int i2] : List Value).toArray s 0 0 (PA (cxb K))) (F0 m 204 ls []) := by
      clear hi hz hl
      intro μ
      induction μ using Nat.strongRecOn with | ind μ ih => ?_
      intro I L A x4 H locs ls hi hz hl
      obtain ⟨C204, hCd⟩ : ∃ C : TI → TL → TA → Int32 → Prop, C = fun I L A x4 => ∃ μ', μ' < μ ∧ Inv μ' I L A x4 := ⟨_, rfl⟩
      have hC204 : ∀ (I : TI) (L : TL) (A : TA) (x4 : Int32) (H : Heap) (locs : List Loc) (ls : Array Slot), C204 I L A x4 → SS K s I L A H locs → lv_has ls 7 [(0, .ref o0), (2, .int i2), (4, .int x4)] → W p (cxl K) e (headSpec wsX7_pattern (rmF 4 97)).room s m ([.ref o0, .int i1, .int i2] : List Value).toArray below meth c H locs 0 0 (MQ below (cxQi K Q) ([.ref o0, .int i1, .int i2] : List Value).toArray s 0 0 (PA (cxb K))) (F0 m 204 ls []) := by
        intro I L A x4 H locs ls hc hz hl
        rw [hCd] at hc
        obtain ⟨μ', hlt, hc⟩ := hc
        exact ih μ' hlt I L A x4 H locs ls hc hz hl
      have hwp := hst μ C204 (fun μ' I L A x4 hlt hc => by rw [hCd]; exact ⟨μ', hlt, hc⟩) I L A x4 hi
      refine lv_iload hx hb dX7_pattern_204 (lv_at hl 2 rfl) ?_
      refine lv_bipush (v := 16) hx hb dX7_pattern_206 (by decide) ?_
      refine lv_icmp_ge (tgt := 238) hx hb dX7_pattern_208 (by decide) (fun q => ?_) (fun q => ?_)
      · have hwp := hwp.1 q
        refine lv_iconst (v := 1) hx hb dX7_pattern_238 (by decide) ?_
        refine lv_istore (lv' := [(4, .int 1), (0, .ref o0), (2, .int i2)]) hx hb dX7_pattern_239 hl (by decide) rfl (fun ls hl => ?_)
        exact wL241 _ _ _ _ _ _ _ hwp hz (lv_sub hl [1, 2, 0] rfl)
      · have hwp := hwp.2 q
        refine lv_aload_n hx hb dX7_pattern_211 rfl (lv_at hl 0 rfl) ?_
        obtain ⟨hs67, hwp⟩ := hwp
        refine sw_get (C := RX7) (T := TX7) (N := 25) (v := .ref (o0 + 8)) hx hb hts hw0 hown hK hz hs67 rfl 18 (by decide) hw3 (fun _ h9 => h9) rfl dX7_pattern_212 ?_
        refine lv_bipush (v := 64) hx hb dX7_pattern_215 (by decide) ?_
        refine lv_iload hx hb dX7_pattern_217 (lv_at hl 2 rfl) ?_
        refine lv_iadd hx hb dX7_pattern_219 ?_
        refine lv_iload hx hb dX7_pattern_220 (lv_at hl 2 rfl) ?_
        refine lv_iconst (v := 1) hx hb dX7_pattern_222 (by decide) ?_
        refine lv_icmp_ne (tgt := 230) hx hb dX7_pattern_223 (by decide) (fun q => ?_) (fun q => ?_)
        · have hwp := hwp.2 q
          refine lv_iconst (v := 0) hx hb dX7_pattern_230 (by decide) ?_
          obtain ⟨ho68, hwp⟩ := hwp
          refine sw_iast hx hb hK hz ho68 dX7_pattern_231 (fun H locs I69 e_I69 hz => ?_)
          have hwp := hwp I69 e_I69
          obtain ⟨v70, q_v70⟩ : ∃ y : Int32, y = x4 + 1 := ⟨_, rfl⟩
          have hwp := hwp v70 q_v70
          refine lv_iinc (v := v70) (lv' := [(4, .int v70), (0, .ref o0), (2, .int i2)]) hx hb dX7_pattern_232 hl (k := 2) rfl (by rw [q_v70]; rfl) (by decide) rfl (fun ls hl => ?_)
          refine lv_goto (tgt := 204) hx hb dX7_pattern_235 (by decide) ?_
          exact hC204 _ _ _ _ _ _ _ hwp hz (lv_sub hl [1, 2, 0] rfl)
        · have hwp := hwp.1 q
          refine lv_iconst (v := 1) hx hb dX7_pattern_226 (by decide) ?_
          refine lv_goto (tgt := 231) hx hb dX7_pattern_227 (by decide) ?_
          obtain ⟨ho71, hwp⟩ := hwp
          refine sw_iast hx hb hK hz ho71 dX7_pattern_231 (fun H locs I72 e_I72 hz => ?_)
          have hwp := hwp I72 e_I72
          obtain ⟨v73, q_v73⟩ : ∃ y : Int32, y = x4 + 1 := ⟨_, rfl⟩
          have hwp := hwp v73 q_v73
          refine lv_iinc (v := v73) (lv' := [(4, .int v73), (0, .ref o0), (2, .int i2)]) hx hb dX7_pattern_232 hl (k := 2) rfl (by rw [q_v73]; rfl) (by decide) rfl (fun ls hl => ?_)
          refine lv_goto (tgt := 204) hx hb dX7_pattern_235 (by decide) ?_
          exact hC204 _ _ _ _ _ _ _ hwp hz (lv_sub hl [1, 2, 0] rfl)
    exact key μ I L A x4 H locs ls hi hz hl
  have wL127 : ∀ (I : TI) (L : TL) (A : TA) (x3 : Int32) (x4 : Int32) (H : Heap) (locs : List Loc) (ls : Array Slot), wp_X7_pattern_127 K o0 i1 i2 I L A x3 x4 Q → SS K s I L A H locs → lv_has ls 7 [(0, .ref o0), (2, .int i2), (3, .int x3), (4, .int x4)] → W p (cxl K) e (headSpec wsX7_pattern (rmF 4 97)).room s m ([.ref o0, .int i1, .int i2] : List Value).toArray below meth c H locs 0 0 (MQ below (cxQi K Q) ([.ref o0, .int i1, .int i2] : List Value).toArray s 0 0 (PA (cxb K))) (F0 m 127 ls []) := by
    intro I L A x3 x4 H locs ls hwp hz hl
    obtain ⟨Inv, μ, hi, hst⟩ := hwp
    have key : ∀ (μ : Nat) (I : TI) (L : TL) (A : TA) (x3 : Int32) (x4 : Int32) (H : Heap) (locs : List Loc) (ls : Array Slot), Inv μ I L A x3 x4 → SS K s I L A H locs → lv_has ls 7 [(0, .ref o0), (2, .int i2), (3, .int x3), (4, .int x4)] → W p (cxl K) e (headSpec wsX7_pattern (rmF 4 97)).room s m ([.ref o0, .int i1, .int i2] : List Value).toArray below meth c H locs 0 0 (MQ below (cxQi K Q) ([.ref o0, .int i1, .int i2] : List Value).toArray s 0 0 (PA (cxb K))) (F0 m 127 ls []) := by
      clear hi hz hl
      intro μ
      induction μ using Nat.strongRecOn with | ind μ ih => ?_
      intro I L A x3 x4 H locs ls hi hz hl
      obtain ⟨C127, hCd⟩ : ∃ C : TI → TL → TA → Int32 → Int32 → Prop, C = fun I L A x3 x4 => ∃ μ', μ' < μ ∧ Inv μ' I L A x3 x4 := ⟨_, rfl⟩
      have hC127 : ∀ (I : TI) (L : TL) (A : TA) (x3 : Int32) (x4 : Int32) (H : Heap) (locs : List Loc) (ls : Array Slot), C127 I L A x3 x4 → SS K s I L A H locs → lv_has ls 7 [(0, .ref o0), (2, .int i2), (3, .int x3), (4, .int x4)] → W p (cxl K) e (headSpec wsX7_pattern (rmF 4 97)).room s m ([.ref o0, .int i1, .int i2] : List Value).toArray below meth c H locs 0 0 (MQ below (cxQi K Q) ([.ref o0, .int i1, .int i2] : List Value).toArray s 0 0 (PA (cxb K))) (F0 m 127 ls []) := by
        intro I L A x3 x4 H locs ls hc hz hl
        rw [hCd] at hc
        obtain ⟨μ', hlt, hc⟩ := hc
        exact ih μ' hlt I L A x3 x4 H locs ls hc hz hl
      have hwp := hst μ C127 (fun μ' I L A x3 x4 hlt hc => by rw [hCd]; exact ⟨μ', hlt, hc⟩) I L A x3 x4 hi
      refine lv_iload hx hb dX7_pattern_127 (lv_at hl 3 rfl) ?_
      refine lv_bipush (v := 16) hx hb dX7_pattern_129 (by decide) ?_
      refine lv_icmp_ge (tgt := 176) hx hb dX7_pattern_131 (by decide) (fun q => ?_) (fun q => ?_)
      · have hwp := hwp.1 q
        refine lv_aload_n hx hb dX7_pattern_176 rfl (lv_at hl 0 rfl) ?_
        obtain ⟨hs74, hwp⟩ := hwp
        refine sw_get (C := RX7) (T := TX7) (N := 25) (v := .ref (o0 + 8)) hx hb hts hw0 hown hK hz hs74 rfl 18 (by decide) hw3 (fun _ h9 => h9) rfl dX7_pattern_177 ?_
        refine lv_iload_n hx hb dX7_pattern_180 rfl (lv_at hl 2 rfl) ?_
        obtain ⟨ho75, hwp⟩ := hwp
        refine sw_iald hx hb hK hz ho75 dX7_pattern_181 ?_
        refine lv_if_ne (tgt := 187) hx hb dX7_pattern_182 (by decide) (fun q => ?_) (fun q => ?_)
        · have hwp := hwp.2 q
          refine lv_aload_n hx hb dX7_pattern_187 rfl (lv_at hl 0 rfl) ?_
          obtain ⟨P76, hc77, hwp⟩ := hwp
          refine sw_callv hz (va_runV (As := []) (rest := []) ⟨hx, hb, hml, hown, hts⟩ (hc77 hK _) (cwV 0 hts gX7_pattern_X7_modCommon rfl rfl rfl (by decide +kernel) ⟨Nat.le_of_ble_eq_true rfl, Nat.le_of_ble_eq_true rfl⟩) (hz.preV hK hs74 rfl) rfl rfl hl.1 rfl (lv_room (Nat.le_of_ble_eq_true rfl)) dX7_pattern_188 ⟨Nat.le_of_ble_eq_true rfl, Nat.le_of_ble_eq_true rfl⟩) (fun I78 L79 A80 H locs hp hz => ?_)
          have hwp := hwp I78 L79 A80 hp
          refine lv_aload_n hx hb dX7_pattern_191 rfl (lv_at hl 0 rfl) ?_
          refine lv_iconst (v := 3) hx hb dX7_pattern_192 (by decide) ?_
          obtain ⟨P81, hc82, hwp⟩ := hwp
          refine sw_calli hz (va_runV (As := [.int 3]) (rest := []) ⟨hx, hb, hml, hown, hts⟩ (hc82 hK _) (cwV 1 hts gX7_pattern_X7_modDegree rfl rfl rfl (by decide +kernel) ⟨Nat.le_of_ble_eq_true rfl, Nat.le_of_ble_eq_true rfl⟩) (hz.preV hK hs74 rfl) rfl rfl hl.1 rfl (lv_room (Nat.le_of_ble_eq_true rfl)) dX7_pattern_193 ⟨Nat.le_of_ble_eq_true rfl, Nat.le_of_ble_eq_true rfl⟩) (fun r86 I83 L84 A85 H locs hp hz => ?_)
          have hwp := hwp r86 I83 L84 A85 hp
          refine lv_if_le (tgt := 201) hx hb dX7_pattern_196 (by decide) (fun q => ?_) (fun q => ?_)
          · have hwp := hwp.1 q
            refine lv_iconst (v := 0) hx hb dX7_pattern_201 (by decide) ?_
            refine lv_istore (lv' := [(4, .int 0), (0, .ref o0), (2, .int i2), (3, .int x3)]) hx hb dX7_pattern_202 hl (by decide) rfl (fun ls hl => ?_)
            exact wL204 _ _ _ _ _ _ _ hwp hz (lv_sub hl [1, 2, 0] rfl)
          · have hwp := hwp.2 q
            refine lv_iconst (v := (-1)) hx hb dX7_pattern_199 (by decide) ?_
            exact sw_iret hx hb hret hlocks hz hwp dX7_pattern_200
        · have hwp := hwp.1 q
          refine lv_iconst (v := (-1)) hx hb dX7_pattern_185 (by decide) ?_
          exact sw_iret hx hb hret hlocks hz hwp dX7_pattern_186
      · have hwp := hwp.2 q
        refine lv_aload_n hx hb dX7_pattern_134 rfl (lv_at hl 0 rfl) ?_
        obtain ⟨hs87, hwp⟩ := hwp
        refine sw_get (C := RX7) (T := TX7) (N := 25) (v := .ref (o0 + 8)) hx hb hts hw0 hown hK hz hs87 rfl 18 (by decide) hw3 (fun _ h9 => h9) rfl dX7_pattern_135 ?_
        refine lv_bipush (v := 32) hx hb dX7_pattern_138 (by decide) ?_
        refine lv_iload hx hb dX7_pattern_140 (lv_at hl 3 rfl) ?_
        refine lv_iadd hx hb dX7_pattern_142 ?_
        refine lv_iload hx hb dX7_pattern_143 (lv_at hl 3 rfl) ?_
        refine lv_iload_n hx hb dX7_pattern_145 rfl (lv_at hl 2 rfl) ?_
        refine lv_icmp_ge (tgt := 168) hx hb dX7_pattern_146 (by decide) (fun q => ?_) (fun q => ?_)
        · have hwp := hwp.1 q
          refine lv_iconst (v := 0) hx hb dX7_pattern_168 (by decide) ?_
          obtain ⟨ho88, hwp⟩ := hwp
          refine sw_iast hx hb hK hz ho88 dX7_pattern_169 (fun H locs I89 e_I89 hz => ?_)
          have hwp := hwp I89 e_I89
          obtain ⟨v90, q_v90⟩ : ∃ y : Int32, y = x4 + 1 := ⟨_, rfl⟩
          have hwp := hwp v90 q_v90
          refine lv_iinc (v := v90) (lv' := [(4, .int v90), (0, .ref o0), (2, .int i2), (3, .int x3)]) hx hb dX7_pattern_170 hl (k := 3) rfl (by rw [q_v90]; rfl) (by decide) rfl (fun ls hl => ?_)
          refine lv_goto (tgt := 127) hx hb dX7_pattern_173 (by decide) ?_
          exact hC127 _ _ _ _ _ _ _ _ hwp hz (lv_sub hl [1, 2, 3, 0] rfl)
        · have hwp := hwp.2 q
          refine lv_aload_n hx hb dX7_pattern_149 rfl (lv_at hl 0 rfl) ?_
          refine sw_get (C := RX7) (T := TX7) (N := 25) (v := .ref (o0 + 8)) hx hb hts hw0 hown hK hz hs87 rfl 18 (by decide) hw3 (fun _ h9 => h9) rfl dX7_pattern_150 ?_
          refine lv_iload hx hb dX7_pattern_153 (lv_at hl 3 rfl) ?_
          refine lv_iconst (v := 1) hx hb dX7_pattern_155 (by decide) ?_
          refine lv_iadd hx hb dX7_pattern_156 ?_
          obtain ⟨ho91, hwp⟩ := hwp
          refine sw_iald hx hb hK hz ho91 dX7_pattern_157 ?_
          refine lv_iload hx hb dX7_pattern_158 (lv_at hl 3 rfl) ?_
          refine lv_iconst (v := 1) hx hb dX7_pattern_160 (by decide) ?_
          refine lv_iadd hx hb dX7_pattern_161 ?_
          refine lv_imul hx hb dX7_pattern_162 ?_
          refine lv_iload_n hx hb dX7_pattern_163 rfl (lv_at hl 1 rfl) ?_
          obtain ⟨hn92, hwp⟩ := hwp
          refine lv_irem hx hb dX7_pattern_164 hn92 ?_
          refine lv_goto (tgt := 169) hx hb dX7_pattern_165 (by decide) ?_
          obtain ⟨ho93, hwp⟩ := hwp
          refine sw_iast hx hb hK hz ho93 dX7_pattern_169 (fun H locs I94 e_I94 hz => ?_)
          have hwp := hwp I94 e_I94
          obtain ⟨v95, q_v95⟩ : ∃ y : Int32, y = x4 + 1 := ⟨_, rfl⟩
          have hwp := hwp v95 q_v95
          refine lv_iinc (v := v95) (lv' := [(4, .int v95), (0, .ref o0), (2, .int i2), (3, .int x3)]) hx hb dX7_pattern_170 hl (k := 3) rfl (by rw [q_v95]; rfl) (by decide) rfl (fun ls hl => ?_)
          refine lv_goto (tgt := 127) hx hb dX7_pattern_173 (by decide) ?_
          exact hC127 _ _ _ _ _ _ _ _ hwp hz (lv_sub hl [1, 2, 3, 0] rfl)
    exact key μ I L A x3 x4 H locs ls hi hz hl
  have wL100 : ∀ (C55 : TI → TL → TA → Int32 → Int32 → Prop) (hC55 : ∀ (I : TI) (L : TL) (A : TA) (x3 : Int32) (x4 : Int32) (H : Heap) (locs : List Loc) (ls : Array Slot), C55 I L A x3 x4 → SS K s I L A H locs → lv_has ls 7 [(0, .ref o0), (1, .int i1), (2, .int i2), (3, .int x3), (4, .int x4)] → W p (cxl K) e (headSpec wsX7_pattern (rmF 4 97)).room s m ([.ref o0, .int i1, .int i2] : List Value).toArray below meth c H locs 0 0 (MQ below (cxQi K Q) ([.ref o0, .int i1, .int i2] : List Value).toArray s 0 0 (PA (cxb K))) (F0 m 55 ls [])) (I : TI) (L : TL) (A : TA) (x3 : Int32) (x4 : Int32) (y0 : Int32) (y1 : Int32) (y2 : Nat) (H : Heap) (locs : List Loc) (ls : Array Slot), wp_X7_pattern_100 K o0 i1 i2 C55 I L A x3 x4 y0 y1 y2 Q → SS K s I L A H locs → lv_has ls 7 [(0, .ref o0), (1, .int i1), (2, .int i2), (3, .int x3), (4, .int x4)] → W p (cxl K) e (headSpec wsX7_pattern (rmF 4 97)).room s m ([.ref o0, .int i1, .int i2] : List Value).toArray below meth c H locs 0 0 (MQ below (cxQi K Q) ([.ref o0, .int i1, .int i2] : List Value).toArray s 0 0 (PA (cxb K))) (F0 m 100 ls [.int y0, .int y1, .ref y2]) := by
    intro C55 hC55 I L A x3 x4 y0 y1 y2 H locs ls hwp hz hl
    obtain ⟨ho96, hwp⟩ := hwp
    refine sw_iast hx hb hK hz ho96 dX7_pattern_100 (fun H locs I97 e_I97 hz => ?_)
    have hwp := hwp I97 e_I97
    refine lv_aload_n hx hb dX7_pattern_101 rfl (lv_at hl 0 rfl) ?_
    obtain ⟨hs98, hwp⟩ := hwp
    refine sw_get (C := RX7) (T := TX7) (N := 25) (v := .ref (o0 + 8)) hx hb hts hw0 hown hK hz hs98 rfl 18 (by decide) hw3 (fun _ h9 => h9) rfl dX7_pattern_102 ?_
    refine lv_bipush (v := 16) hx hb dX7_pattern_105 (by decide) ?_
    refine lv_iload hx hb dX7_pattern_107 (lv_at hl 4 rfl) ?_
    refine lv_iadd hx hb dX7_pattern_109 ?_
    refine lv_aload_n hx hb dX7_pattern_110 rfl (lv_at hl 0 rfl) ?_
    refine sw_get (C := RX7) (T := TX7) (N := 25) (v := .ref (o0 + 8)) hx hb hts hw0 hown hK hz hs98 rfl 18 (by decide) hw3 (fun _ h9 => h9) rfl dX7_pattern_111 ?_
    refine lv_iload hx hb dX7_pattern_114 (lv_at hl 4 rfl) ?_
    obtain ⟨ho99, hwp⟩ := hwp
    refine sw_iald hx hb hK hz ho99 dX7_pattern_116 ?_
    obtain ⟨ho100, hwp⟩ := hwp
    refine sw_iast hx hb hK hz ho100 dX7_pattern_117 (fun H locs I101 e_I101 hz => ?_)
    have hwp := hwp I101 e_I101
    obtain ⟨v102, q_v102⟩ : ∃ y : Int32, y = x4 + 1 := ⟨_, rfl⟩
    have hwp := hwp v102 q_v102
    refine lv_iinc (v := v102) (lv' := [(4, .int v102), (0, .ref o0), (1, .int i1), (2, .int i2), (3, .int x3)]) hx hb dX7_pattern_118 hl (k := 4) rfl (by rw [q_v102]; rfl) (by decide) rfl (fun ls hl => ?_)
    refine lv_goto (tgt := 55) hx hb dX7_pattern_121 (by decide) ?_
    exact hC55 _ _ _ _ _ _ _ _ hwp hz (lv_sub hl [1, 2, 3, 4, 0] rfl)
  have wL55 : ∀ (I : TI) (L : TL) (A : TA) (x3 : Int32) (x4 : Int32) (H : Heap) (locs : List Loc) (ls : Array Slot), wp_X7_pattern_55 K o0 i1 i2 I L A x3 x4 Q → SS K s I L A H locs → lv_has ls 7 [(0, .ref o0), (1, .int i1), (2, .int i2), (3, .int x3), (4, .int x4)] → W p (cxl K) e (headSpec wsX7_pattern (rmF 4 97)).room s m ([.ref o0, .int i1, .int i2] : List Value).toArray below meth c H locs 0 0 (MQ below (cxQi K Q) ([.ref o0, .int i1, .int i2] : List Value).toArray s 0 0 (PA (cxb K))) (F0 m 55 ls []) := by
    intro I L A x3 x4 H locs ls hwp hz hl
    obtain ⟨Inv, μ, hi, hst⟩ := hwp
    have key : ∀ (μ : Nat) (I : TI) (L : TL) (A : TA) (x3 : Int32) (x4 : Int32) (H : Heap) (locs : List Loc) (ls : Array Slot), Inv μ I L A x3 x4 → SS K s I L A H locs → lv_has ls 7 [(0, .ref o0), (1, .int i1), (2, .int i2), (3, .int x3), (4, .int x4)] → W p (cxl K) e (headSpec wsX7_pattern (rmF 4 97)).room s m ([.ref o0, .int i1, .int i2] : List Value).toArray below meth c H locs 0 0 (MQ below (cxQi K Q) ([.ref o0, .int i1, .int i2] : List Value).toArray s 0 0 (PA (cxb K))) (F0 m 55 ls []) := by
      clear hi hz hl
      intro μ
      induction μ using Nat.strongRecOn with | ind μ ih => ?_
      intro I L A x3 x4 H locs ls hi hz hl
      obtain ⟨C55, hCd⟩ : ∃ C : TI → TL → TA → Int32 → Int32 → Prop, C = fun I L A x3 x4 => ∃ μ', μ' < μ ∧ Inv μ' I L A x3 x4 := ⟨_, rfl⟩
      have hC55 : ∀ (I : TI) (L : TL) (A : TA) (x3 : Int32) (x4 : Int32) (H : Heap) (locs : List Loc) (ls : Array Slot), C55 I L A x3 x4 → SS K s I L A H locs → lv_has ls 7 [(0, .ref o0), (1, .int i1), (2, .int i2), (3, .int x3), (4, .int x4)] → W p (cxl K) e (headSpec wsX7_pattern (rmF 4 97)).room s m ([.ref o0, .int i1, .int i2] : List Value).toArray below meth c H locs 0 0 (MQ below (cxQi K Q) ([.ref o0, .int i1, .int i2] : List Value).toArray s 0 0 (PA (cxb K))) (F0 m 55 ls []) := by
        intro I L A x3 x4 H locs ls hc hz hl
        rw [hCd] at hc
        obtain ⟨μ', hlt, hc⟩ := hc
        exact ih μ' hlt I L A x3 x4 H locs ls hc hz hl
      have hwp := hst μ C55 (fun μ' I L A x3 x4 hlt hc => by rw [hCd]; exact ⟨μ', hlt, hc⟩) I L A x3 x4 hi
      refine lv_iload hx hb dX7_pattern_55 (lv_at hl 4 rfl) ?_
      refine lv_bipush (v := 16) hx hb dX7_pattern_57 (by decide) ?_
      refine lv_icmp_ge (tgt := 124) hx hb dX7_pattern_59 (by decide) (fun q => ?_) (fun q => ?_)
      · have hwp := hwp.1 q
        refine lv_iconst (v := 0) hx hb dX7_pattern_124 (by decide) ?_
        refine lv_istore (lv' := [(4, .int 0), (0, .ref o0), (1, .int i1), (2, .int i2), (3, .int x3)]) hx hb dX7_pattern_125 hl (by decide) rfl (fun ls hl => ?_)
        exact wL127 _ _ _ _ _ _ _ _ hwp hz (lv_sub hl [1, 3, 4, 0] rfl)
      · have hwp := hwp.2 q
        refine lv_aload_n hx hb dX7_pattern_62 rfl (lv_at hl 0 rfl) ?_
        obtain ⟨hs103, hwp⟩ := hwp
        refine sw_get (C := RX7) (T := TX7) (N := 25) (v := .ref (o0 + 8)) hx hb hts hw0 hown hK hz hs103 rfl 18 (by decide) hw3 (fun _ h9 => h9) rfl dX7_pattern_63 ?_
        refine lv_iload hx hb dX7_pattern_66 (lv_at hl 4 rfl) ?_
        refine lv_iload hx hb dX7_pattern_68 (lv_at hl 4 rfl) ?_
        refine lv_iload_n hx hb dX7_pattern_70 rfl (lv_at hl 3 rfl) ?_
        refine lv_icmp_gt (tgt := 99) hx hb dX7_pattern_71 (by decide) (fun q => ?_) (fun q => ?_)
        · have hwp := hwp.1 q
          refine lv_iconst (v := 0) hx hb dX7_pattern_99 (by decide) ?_
          exact wL100 _ hC55 _ _ _ _ _ _ _ _ _ _ _ hwp hz (lv_sub hl [0, 1, 2, 3, 4] rfl)
        · have hwp := hwp.2 q
          refine lv_aload_n hx hb dX7_pattern_74 rfl (lv_at hl 0 rfl) ?_
          refine sw_get (C := RX7) (T := TX7) (N := 25) (v := .ref (o0 + 1)) hx hb hts hw0 hown hK hz hs103 rfl 1 (by decide) hw4 (fun _ h9 => h9) rfl dX7_pattern_75 ?_
          refine lv_bipush (v := 8) hx hb dX7_pattern_78 (by decide) ?_
          refine lv_iload_n hx hb dX7_pattern_80 rfl (lv_at hl 1 rfl) ?_
          refine lv_imul hx hb dX7_pattern_81 ?_
          refine lv_iload hx hb dX7_pattern_82 (lv_at hl 4 rfl) ?_
          refine lv_iadd hx hb dX7_pattern_84 ?_
          obtain ⟨ho104, hwp⟩ := hwp
          refine sw_lald hx hb hK hz ho104 dX7_pattern_85 ?_
          refine lv_iload_n hx hb dX7_pattern_86 rfl (lv_at hl 2 rfl) ?_
          refine lv_i2l hx hb dX7_pattern_87 rfl ?_
          obtain ⟨hn105, hwp⟩ := hwp
          refine lv_lrem hx hb dX7_pattern_88 hn105 ?_
          refine lv_iload_n hx hb dX7_pattern_89 rfl (lv_at hl 2 rfl) ?_
          refine lv_i2l hx hb dX7_pattern_90 rfl ?_
          refine lv_ladd hx hb dX7_pattern_91 ?_
          refine lv_iload_n hx hb dX7_pattern_92 rfl (lv_at hl 2 rfl) ?_
          refine lv_i2l hx hb dX7_pattern_93 rfl ?_
          obtain ⟨hn106, hwp⟩ := hwp
          refine lv_lrem hx hb dX7_pattern_94 hn106 ?_
          refine lv_l2i hx hb dX7_pattern_95 rfl ?_
          refine lv_goto (tgt := 100) hx hb dX7_pattern_96 (by decide) ?_
          exact wL100 _ hC55 _ _ _ _ _ _ _ _ _ _ _ hwp hz (lv_sub hl [0, 1, 2, 3, 4] rfl)
    exact key μ I L A x3 x4 H locs ls hi hz hl
  have wL20 : ∀ (I : TI) (L : TL) (A : TA) (y0 : Int32) (y1 : Nat) (H : Heap) (locs : List Loc) (ls : Array Slot), wp_X7_pattern_20 K o0 i1 i2 I L A y0 y1 Q → SS K s I L A H locs → lv_has ls 7 [(0, .ref o0), (1, .int i1), (2, .int i2)] → W p (cxl K) e (headSpec wsX7_pattern (rmF 4 97)).room s m ([.ref o0, .int i1, .int i2] : List Value).toArray below meth c H locs 0 0 (MQ below (cxQi K Q) ([.ref o0, .int i1, .int i2] : List Value).toArray s 0 0 (PA (cxb K))) (F0 m 20 ls [.int y0, .ref y1]) := by
    intro I L A y0 y1 H locs ls hwp hz hl
    obtain ⟨hs107, hwp⟩ := hwp
    obtain ⟨P108, hc109, hwp⟩ := hwp
    refine sw_calli hz (va_runV (As := [.int y0]) (rest := []) ⟨hx, hb, hml, hown, hts⟩ (hc109 hK _) (cwV 1 hts gX7_pattern_X7_refused rfl rfl rfl (by decide +kernel) ⟨Nat.le_of_ble_eq_true rfl, Nat.le_of_ble_eq_true rfl⟩) (hz.preV hK hs107 rfl) rfl rfl hl.1 rfl (lv_room (Nat.le_of_ble_eq_true rfl)) dX7_pattern_20 ⟨Nat.le_of_ble_eq_true rfl, Nat.le_of_ble_eq_true rfl⟩) (fun r113 I110 L111 A112 H locs hp hz => ?_)
    have hwp := hwp r113 I110 L111 A112 hp
    refine lv_if_eq (tgt := 28) hx hb dX7_pattern_23 (by decide) (fun q => ?_) (fun q => ?_)
    · have hwp := hwp.1 q
      refine lv_aload_n hx hb dX7_pattern_28 rfl (lv_at hl 0 rfl) ?_
      refine lv_iconst (v := 0) hx hb dX7_pattern_29 (by decide) ?_
      obtain ⟨hs114, hwp⟩ := hwp
      refine sw_putI (C := RX7) (T := TX7) (N := 25) hx hb hts hw0 tyX7 tyX7_ok nmX7 hown hK hz hs114 rfl 11 (by decide) hw2 (fun _ h9 => h9) rfl (by decide +kernel) rfl dX7_pattern_30 (fun H locs I115 e_I115 hz => ?_)
      have hwp := hwp I115 e_I115
      refine lv_aload_n hx hb dX7_pattern_33 rfl (lv_at hl 0 rfl) ?_
      refine lv_iload_n hx hb dX7_pattern_34 rfl (lv_at hl 1 rfl) ?_
      obtain ⟨P116, hc117, hwp⟩ := hwp
      refine sw_calli hz (va_runV (As := [.int i1]) (rest := []) ⟨hx, hb, hml, hown, hts⟩ (hc117 hK _) (cwV 1 hts gX7_pattern_X7_degreeOf rfl rfl rfl (by decide +kernel) ⟨Nat.le_of_ble_eq_true rfl, Nat.le_of_ble_eq_true rfl⟩) (hz.preV hK hs114 rfl) rfl rfl hl.1 rfl (lv_room (Nat.le_of_ble_eq_true rfl)) dX7_pattern_35 ⟨Nat.le_of_ble_eq_true rfl, Nat.le_of_ble_eq_true rfl⟩) (fun r121 I118 L119 A120 H locs hp hz => ?_)
      have hwp := hwp r121 I118 L119 A120 hp
      refine lv_istore_n (lv' := [(3, .int r121), (0, .ref o0), (1, .int i1), (2, .int i2)]) hx hb dX7_pattern_38 rfl hl (by decide) rfl (fun ls hl => ?_)
      refine lv_iload_n hx hb dX7_pattern_39 rfl (lv_at hl 0 rfl) ?_
      refine lv_iconst (v := 1) hx hb dX7_pattern_40 (by decide) ?_
      refine lv_icmp_ge (tgt := 47) hx hb dX7_pattern_41 (by decide) (fun q => ?_) (fun q => ?_)
      · have hwp := hwp.1 q
        refine lv_aload_n hx hb dX7_pattern_47 rfl (lv_at hl 1 rfl) ?_
        refine lv_iload_n hx hb dX7_pattern_48 rfl (lv_at hl 3 rfl) ?_
        refine sw_putI (C := RX7) (T := TX7) (N := 25) hx hb hts hw0 tyX7 tyX7_ok nmX7 hown hK hz hs114 rfl 19 (by decide) hw5 (fun _ h9 => h9) rfl (by decide +kernel) rfl dX7_pattern_49 (fun H locs I122 e_I122 hz => ?_)
        have hwp := hwp I122 e_I122
        refine lv_iconst (v := 0) hx hb dX7_pattern_52 (by decide) ?_
        refine lv_istore (lv' := [(4, .int 0), (3, .int r121), (0, .ref o0), (1, .int i1), (2, .int i2)]) hx hb dX7_pattern_53 hl (by decide) rfl (fun ls hl => ?_)
        exact wL55 _ _ _ _ _ _ _ _ hwp hz (lv_sub hl [2, 3, 4, 1, 0] rfl)
      · have hwp := hwp.2 q
        refine lv_bipush (v := (-3)) hx hb dX7_pattern_44 (by decide) ?_
        exact sw_iret hx hb hret hlocks hz hwp dX7_pattern_46
    · have hwp := hwp.2 q
      refine lv_iconst (v := 0) hx hb dX7_pattern_26 (by decide) ?_
      exact sw_iret hx hb hret hlocks hz hwp dX7_pattern_27
  have wL19 : ∀ (I : TI) (L : TL) (A : TA) (y0 : Nat) (H : Heap) (locs : List Loc) (ls : Array Slot), wp_X7_pattern_19 K o0 i1 i2 I L A y0 Q → SS K s I L A H locs → lv_has ls 7 [(0, .ref o0), (1, .int i1), (2, .int i2)] → W p (cxl K) e (headSpec wsX7_pattern (rmF 4 97)).room s m ([.ref o0, .int i1, .int i2] : List Value).toArray below meth c H locs 0 0 (MQ below (cxQi K Q) ([.ref o0, .int i1, .int i2] : List Value).toArray s 0 0 (PA (cxb K))) (F0 m 19 ls [.ref y0]) := by
    intro I L A y0 H locs ls hwp hz hl
    refine lv_iconst (v := 1) hx hb dX7_pattern_19 (by decide) ?_
    exact wL20 _ _ _ _ _ _ _ _ hwp hz (lv_sub hl [0, 1, 2] rfl)
  refine lv_aload_n hx hb dX7_pattern_0 rfl (lv_at hl 0 rfl) ?_
  refine lv_iload_n hx hb dX7_pattern_1 rfl (lv_at hl 1 rfl) ?_
  obtain ⟨P123, hc124, hwp⟩ := hwp
  refine sw_calli hz (va_runS (As := [.int i1]) (rest := [.ref o0]) ⟨hx, hb, hml, hown, hts⟩ (hc124 hK _) (va_cwS 1 hts gX7_pattern_X7_isSlot rfl rfl rfl (by decide +kernel) ⟨Nat.le_of_ble_eq_true rfl, Nat.le_of_ble_eq_true rfl⟩) hz.preS rfl rfl hl.1 rfl (lv_room (Nat.le_of_ble_eq_true rfl)) dX7_pattern_2 ⟨Nat.le_of_ble_eq_true rfl, Nat.le_of_ble_eq_true rfl⟩) (fun r128 I125 L126 A127 H locs hp hz => ?_)
  have hwp := hwp r128 I125 L126 A127 hp
  refine lv_if_eq (tgt := 19) hx hb dX7_pattern_5 (by decide) (fun q => ?_) (fun q => ?_)
  · have hwp := hwp.1 q
    exact wL19 _ _ _ _ _ _ _ hwp hz (lv_sub hl [0, 1, 2] rfl)
  · have hwp := hwp.2 q
    refine lv_iload_n hx hb dX7_pattern_8 rfl (lv_at hl 2 rfl) ?_
    obtain ⟨P129, hc130, hwp⟩ := hwp
    refine sw_calli hz (va_runS (As := [.int i2]) (rest := [.ref o0]) ⟨hx, hb, hml, hown, hts⟩ (hc130 hK _) (va_cwS 1 hts gX7_pattern_X7_isPrime rfl rfl rfl (by decide +kernel) ⟨Nat.le_of_ble_eq_true rfl, Nat.le_of_ble_eq_true rfl⟩) hz.preS rfl rfl hl.1 rfl (lv_room (Nat.le_of_ble_eq_true rfl)) dX7_pattern_9 ⟨Nat.le_of_ble_eq_true rfl, Nat.le_of_ble_eq_true rfl⟩) (fun r134 I131 L132 A133 H locs hp hz => ?_)
    have hwp := hwp r134 I131 L132 A133 hp
    refine lv_if_eq (tgt := 19) hx hb dX7_pattern_12 (by decide) (fun q => ?_) (fun q => ?_)
    · have hwp := hwp.1 q
      exact wL19 _ _ _ _ _ _ _ hwp hz (lv_sub hl [0, 1, 2] rfl)
    · have hwp := hwp.2 q
      refine lv_iconst (v := 0) hx hb dX7_pattern_15 (by decide) ?_
      refine lv_goto (tgt := 20) hx hb dX7_pattern_16 (by decide) ?_
      exact wL20 _ _ _ _ _ _ _ _ hwp hz (lv_sub hl [0, 1, 2] rfl)

def wp_X7_set_36 (K : Cx) (o0 : Nat) (i1 : Int32) (i2 : Int32) (i3 : Int32) (I : TI) (L : TL) (A : TA) (y0 : Int32) (y1 : Nat) (Q : Int32 → TI → TL → TA → Prop) : Prop := cxS K y1 = shX7 y1 ∧ ∃ P2 : Int32 → TI → TL → TA → Prop, ConI K yX7_refused wsX7_refused 0 0 I L A [.ref y1, .int y0] P2 ∧ ∀ (r7 : Int32) (I4 : TI) (L5 : TL) (A6 : TA), P2 r7 I4 L5 A6 → ((r7 = 0 → cxS K o0 = shX7 o0 ∧ aok (cxS K) (o0 + 1) 1 ((8 * i1) + i2) ∧ ∀ L10 : TL, L10 = u2 L5 (o0 + 1) (ix ((8 * i1) + i2)) (Int32.toInt64 i3) → ∃ P11 : Int32 → TI → TL → TA → Prop, ConI K yX7_degreeOf wsX7_degreeOf 0 0 I4 L10 A6 [.ref o0, .int i1] P11 ∧ ∀ (r16 : Int32) (I13 : TI) (L14 : TL) (A15 : TA), P11 r16 I13 L14 A15 → Q r16 I13 L14 A15) ∧ (¬ r7 = 0 → Q 0 I4 L5 A6))
def wp_X7_set_35 (K : Cx) (o0 : Nat) (i1 : Int32) (i2 : Int32) (i3 : Int32) (I : TI) (L : TL) (A : TA) (y0 : Nat) (Q : Int32 → TI → TL → TA → Prop) : Prop := wp_X7_set_36 K o0 i1 i2 i3 I L A 1 y0 Q
def wp_X7_set (K : Cx) (I : TI) (L : TL) (A : TA) (o0 : Nat) (i1 : Int32) (i2 : Int32) (i3 : Int32) (Q : Int32 → TI → TL → TA → Prop) : Prop := ∃ P17 : Int32 → TI → TL → TA → Prop, ConI K yX7_isSlot wsX7_isSlot 0 0 I L A [.int i1] P17 ∧ ∀ (r22 : Int32) (I19 : TI) (L20 : TL) (A21 : TA), P17 r22 I19 L20 A21 → ((r22 = 0 → wp_X7_set_35 K o0 i1 i2 i3 I19 L20 A21 o0 Q) ∧ (¬ r22 = 0 → ∃ P23 : Int32 → TI → TL → TA → Prop, ConI K yX7_isIn wsX7_isIn 0 0 I19 L20 A21 [.int i2, .int 0, .int 6] P23 ∧ ∀ (r28 : Int32) (I25 : TI) (L26 : TL) (A27 : TA), P23 r28 I25 L26 A27 → ((r28 = 0 → wp_X7_set_35 K o0 i1 i2 i3 I25 L26 A27 o0 Q) ∧ (¬ r28 = 0 → ∃ P29 : Int32 → TI → TL → TA → Prop, ConI K yX7_isIn wsX7_isIn 0 0 I25 L26 A27 [.int i3, .int (-300), .int 300] P29 ∧ ∀ (r34 : Int32) (I31 : TI) (L32 : TL) (A33 : TA), P29 r34 I31 L32 A33 → ((r34 = 0 → wp_X7_set_35 K o0 i1 i2 i3 I31 L32 A33 o0 Q) ∧ (¬ r34 = 0 → wp_X7_set_36 K o0 i1 i2 i3 I31 L32 A33 0 o0 Q))))))
set_option maxHeartbeats 1000000 in
set_option maxRecDepth 100000 in
theorem w_X7_set (K : Cx) (I : TI) (L : TL) (A : TA) (o0 : Nat) (i1 : Int32) (i2 : Int32) (i3 : Int32) (Q : Int32 → TI → TL → TA → Prop) (hwp : wp_X7_set K I L A o0 i1 i2 i3 Q) : ConI K yX7_set wsX7_set 1 22 I L A [.ref o0, .int i1, .int i2, .int i3] Q := by
  intro hK sz
  refine Met.ofW (cc := cX7_set) (maxL := 4) (ret := (some .int)) (by decide) rfl ?_
  intro p e s m args below meth c s₁ B hml hv
  obtain ⟨rfl, hsz, hB⟩ := hv
  have hx := B.exec
  have hb := B.bytes
  have hret := B.returns
  have hts := atoms_spec (ws := wsX7_set) B.pre
  have hown : s.vm.findClass RX7 = some m.cls := findClass_of_methodNamed B.named
  have hlocks := B.notSynchronized
  subst hsz
  have hz : SS K s I L A s.heap [] := PS.start hB
  have hl := lv_entry ([.ref o0, .int i1, .int i2, .int i3]) (n := 4) (Nat.le_of_ble_eq_true rfl)
  rw [lg_entry_eq]
  generalize (lg_sl ([.ref o0, .int i1, .int i2, .int i3]) ++ List.replicate (4 - (lg_sl ([.ref o0, .int i1, .int i2, .int i3])).length) Slot.unset).toArray = ls at hl ⊢
  have hl : lv_has ls 4 [(0, .ref o0), (1, .int i1), (2, .int i2), (3, .int i3)] := hl
  have hw0 : ∀ w ∈ u_ws RX7 TX7 25, w ∈ wsX7_set := by decide +kernel
  have hw1 := hts (.fieldLink RX7 7 "GaloisDeskModel" "row" "[J") (by decide +kernel)
  clear hB B
  have wL36 : ∀ (I : TI) (L : TL) (A : TA) (y0 : Int32) (y1 : Nat) (H : Heap) (locs : List Loc) (ls : Array Slot), wp_X7_set_36 K o0 i1 i2 i3 I L A y0 y1 Q → SS K s I L A H locs → lv_has ls 4 [(0, .ref o0), (1, .int i1), (2, .int i2), (3, .int i3)] → W p (cxl K) e (headSpec wsX7_set (rmF 1 22)).room s m ([.ref o0, .int i1, .int i2, .int i3] : List Value).toArray below meth c H locs 0 0 (MQ below (cxQi K Q) ([.ref o0, .int i1, .int i2, .int i3] : List Value).toArray s 0 0 (PA (cxb K))) (F0 m 36 ls [.int y0, .ref y1]) := by
    intro I L A y0 y1 H locs ls hwp hz hl
    obtain ⟨hs1, hwp⟩ := hwp
    obtain ⟨P2, hc3, hwp⟩ := hwp
    refine sw_calli hz (va_runV (As := [.int y0]) (rest := []) ⟨hx, hb, hml, hown, hts⟩ (hc3 hK _) (cwV 1 hts gX7_set_X7_refused rfl rfl rfl (by decide +kernel) ⟨Nat.le_of_ble_eq_true rfl, Nat.le_of_ble_eq_true rfl⟩) (hz.preV hK hs1 rfl) rfl rfl hl.1 rfl (lv_room (Nat.le_of_ble_eq_true rfl)) dX7_set_36 ⟨Nat.le_of_ble_eq_true rfl, Nat.le_of_ble_eq_true rfl⟩) (fun r7 I4 L5 A6 H locs hp hz => ?_)
    have hwp := hwp r7 I4 L5 A6 hp
    refine lv_if_eq (tgt := 44) hx hb dX7_set_39 (by decide) (fun q => ?_) (fun q => ?_)
    · have hwp := hwp.1 q
      refine lv_aload_n hx hb dX7_set_44 rfl (lv_at hl 0 rfl) ?_
      obtain ⟨hs8, hwp⟩ := hwp
      refine sw_get (C := RX7) (T := TX7) (N := 25) (v := .ref (o0 + 1)) hx hb hts hw0 hown hK hz hs8 rfl 1 (by decide) hw1 (fun _ h9 => h9) rfl dX7_set_45 ?_
      refine lv_bipush (v := 8) hx hb dX7_set_48 (by decide) ?_
      refine lv_iload_n hx hb dX7_set_50 rfl (lv_at hl 1 rfl) ?_
      refine lv_imul hx hb dX7_set_51 ?_
      refine lv_iload_n hx hb dX7_set_52 rfl (lv_at hl 2 rfl) ?_
      refine lv_iadd hx hb dX7_set_53 ?_
      refine lv_iload_n hx hb dX7_set_54 rfl (lv_at hl 3 rfl) ?_
      refine lv_i2l hx hb dX7_set_55 rfl ?_
      obtain ⟨ho9, hwp⟩ := hwp
      refine sw_last hx hb hK hz ho9 dX7_set_56 (fun H locs L10 e_L10 hz => ?_)
      have hwp := hwp L10 e_L10
      refine lv_aload_n hx hb dX7_set_57 rfl (lv_at hl 0 rfl) ?_
      refine lv_iload_n hx hb dX7_set_58 rfl (lv_at hl 1 rfl) ?_
      obtain ⟨P11, hc12, hwp⟩ := hwp
      refine sw_calli hz (va_runV (As := [.int i1]) (rest := []) ⟨hx, hb, hml, hown, hts⟩ (hc12 hK _) (cwV 1 hts gX7_set_X7_degreeOf rfl rfl rfl (by decide +kernel) ⟨Nat.le_of_ble_eq_true rfl, Nat.le_of_ble_eq_true rfl⟩) (hz.preV hK hs8 rfl) rfl rfl hl.1 rfl (lv_room (Nat.le_of_ble_eq_true rfl)) dX7_set_59 ⟨Nat.le_of_ble_eq_true rfl, Nat.le_of_ble_eq_true rfl⟩) (fun r16 I13 L14 A15 H locs hp hz => ?_)
      have hwp := hwp r16 I13 L14 A15 hp
      exact sw_iret hx hb hret hlocks hz hwp dX7_set_62
    · have hwp := hwp.2 q
      refine lv_iconst (v := 0) hx hb dX7_set_42 (by decide) ?_
      exact sw_iret hx hb hret hlocks hz hwp dX7_set_43
  have wL35 : ∀ (I : TI) (L : TL) (A : TA) (y0 : Nat) (H : Heap) (locs : List Loc) (ls : Array Slot), wp_X7_set_35 K o0 i1 i2 i3 I L A y0 Q → SS K s I L A H locs → lv_has ls 4 [(0, .ref o0), (1, .int i1), (2, .int i2), (3, .int i3)] → W p (cxl K) e (headSpec wsX7_set (rmF 1 22)).room s m ([.ref o0, .int i1, .int i2, .int i3] : List Value).toArray below meth c H locs 0 0 (MQ below (cxQi K Q) ([.ref o0, .int i1, .int i2, .int i3] : List Value).toArray s 0 0 (PA (cxb K))) (F0 m 35 ls [.ref y0]) := by
    intro I L A y0 H locs ls hwp hz hl
    refine lv_iconst (v := 1) hx hb dX7_set_35 (by decide) ?_
    exact wL36 _ _ _ _ _ _ _ _ hwp hz (lv_sub hl [0, 1, 2, 3] rfl)
  refine lv_aload_n hx hb dX7_set_0 rfl (lv_at hl 0 rfl) ?_
  refine lv_iload_n hx hb dX7_set_1 rfl (lv_at hl 1 rfl) ?_
  obtain ⟨P17, hc18, hwp⟩ := hwp
  refine sw_calli hz (va_runS (As := [.int i1]) (rest := [.ref o0]) ⟨hx, hb, hml, hown, hts⟩ (hc18 hK _) (va_cwS 1 hts gX7_set_X7_isSlot rfl rfl rfl (by decide +kernel) ⟨Nat.le_of_ble_eq_true rfl, Nat.le_of_ble_eq_true rfl⟩) hz.preS rfl rfl hl.1 rfl (lv_room (Nat.le_of_ble_eq_true rfl)) dX7_set_2 ⟨Nat.le_of_ble_eq_true rfl, Nat.le_of_ble_eq_true rfl⟩) (fun r22 I19 L20 A21 H locs hp hz => ?_)
  have hwp := hwp r22 I19 L20 A21 hp
  refine lv_if_eq (tgt := 35) hx hb dX7_set_5 (by decide) (fun q => ?_) (fun q => ?_)
  · have hwp := hwp.1 q
    exact wL35 _ _ _ _ _ _ _ hwp hz (lv_sub hl [0, 1, 2, 3] rfl)
  · have hwp := hwp.2 q
    refine lv_iload_n hx hb dX7_set_8 rfl (lv_at hl 2 rfl) ?_
    refine lv_iconst (v := 0) hx hb dX7_set_9 (by decide) ?_
    refine lv_bipush (v := 6) hx hb dX7_set_10 (by decide) ?_
    obtain ⟨P23, hc24, hwp⟩ := hwp
    refine sw_calli hz (va_runS (As := [.int i2, .int 0, .int 6]) (rest := [.ref o0]) ⟨hx, hb, hml, hown, hts⟩ (hc24 hK _) (va_cwS 3 hts gX7_set_X7_isIn rfl rfl rfl (by decide +kernel) ⟨Nat.le_of_ble_eq_true rfl, Nat.le_of_ble_eq_true rfl⟩) hz.preS rfl rfl hl.1 rfl (lv_room (Nat.le_of_ble_eq_true rfl)) dX7_set_12 ⟨Nat.le_of_ble_eq_true rfl, Nat.le_of_ble_eq_true rfl⟩) (fun r28 I25 L26 A27 H locs hp hz => ?_)
    have hwp := hwp r28 I25 L26 A27 hp
    refine lv_if_eq (tgt := 35) hx hb dX7_set_15 (by decide) (fun q => ?_) (fun q => ?_)
    · have hwp := hwp.1 q
      exact wL35 _ _ _ _ _ _ _ hwp hz (lv_sub hl [0, 1, 2, 3] rfl)
    · have hwp := hwp.2 q
      refine lv_iload_n hx hb dX7_set_18 rfl (lv_at hl 3 rfl) ?_
      refine lv_sipush (v := (-300)) hx hb dX7_set_19 (by decide) ?_
      refine lv_sipush (v := 300) hx hb dX7_set_22 (by decide) ?_
      obtain ⟨P29, hc30, hwp⟩ := hwp
      refine sw_calli hz (va_runS (As := [.int i3, .int (-300), .int 300]) (rest := [.ref o0]) ⟨hx, hb, hml, hown, hts⟩ (hc30 hK _) (va_cwS 3 hts gX7_set_X7_isIn rfl rfl rfl (by decide +kernel) ⟨Nat.le_of_ble_eq_true rfl, Nat.le_of_ble_eq_true rfl⟩) hz.preS rfl rfl hl.1 rfl (lv_room (Nat.le_of_ble_eq_true rfl)) dX7_set_25 ⟨Nat.le_of_ble_eq_true rfl, Nat.le_of_ble_eq_true rfl⟩) (fun r34 I31 L32 A33 H locs hp hz => ?_)
      have hwp := hwp r34 I31 L32 A33 hp
      refine lv_if_eq (tgt := 35) hx hb dX7_set_28 (by decide) (fun q => ?_) (fun q => ?_)
      · have hwp := hwp.1 q
        exact wL35 _ _ _ _ _ _ _ hwp hz (lv_sub hl [0, 1, 2, 3] rfl)
      · have hwp := hwp.2 q
        refine lv_iconst (v := 0) hx hb dX7_set_31 (by decide) ?_
        refine lv_goto (tgt := 36) hx hb dX7_set_32 (by decide) ?_
        exact wL36 _ _ _ _ _ _ _ _ hwp hz (lv_sub hl [0, 1, 2, 3] rfl)

def wp_X7_thrown (K : Cx) (I : TI) (L : TL) (A : TA) (o0 : Nat) (Q : Int32 → TI → TL → TA → Prop) : Prop := cxS K o0 = shX7 o0 ∧ Q (I o0 0) I L A
set_option maxHeartbeats 1000000 in
set_option maxRecDepth 100000 in
theorem w_X7_thrown (K : Cx) (I : TI) (L : TL) (A : TA) (o0 : Nat) (Q : Int32 → TI → TL → TA → Prop) (hwp : wp_X7_thrown K I L A o0 Q) : ConI K yX7_thrown wsX7_thrown 0 0 I L A [.ref o0] Q := by
  intro hK sz
  refine Met.ofW (cc := cX7_thrown) (maxL := 1) (ret := (some .int)) (by decide) rfl ?_
  intro p e s m args below meth c s₁ B hml hv
  obtain ⟨rfl, hsz, hB⟩ := hv
  have hx := B.exec
  have hb := B.bytes
  have hret := B.returns
  have hts := atoms_spec (ws := wsX7_thrown) B.pre
  have hown : s.vm.findClass RX7 = some m.cls := findClass_of_methodNamed B.named
  have hlocks := B.notSynchronized
  subst hsz
  have hz : SS K s I L A s.heap [] := PS.start hB
  have hl := lv_entry ([.ref o0]) (n := 1) (Nat.le_of_ble_eq_true rfl)
  rw [lg_entry_eq]
  generalize (lg_sl ([.ref o0]) ++ List.replicate (1 - (lg_sl ([.ref o0])).length) Slot.unset).toArray = ls at hl ⊢
  have hl : lv_has ls 1 [(0, .ref o0)] := hl
  have hw0 : ∀ w ∈ u_ws RX7 TX7 25, w ∈ wsX7_thrown := by decide +kernel
  have hw1 := hts (.fieldLink RX7 35 "GaloisDeskModel" "refusal" "I") (by decide +kernel)
  clear hB B
  refine lv_aload_n hx hb dX7_thrown_0 rfl (lv_at hl 0 rfl) ?_
  obtain ⟨hs1, hwp⟩ := hwp
  refine sw_get (C := RX7) (T := TX7) (N := 25) (v := .int (I o0 0)) hx hb hts hw0 hown hK hz hs1 rfl 0 (by decide) hw1 (fun _ h9 => h9) rfl dX7_thrown_1 ?_
  exact sw_iret hx hb hret hlocks hz hwp dX7_thrown_4

def wp_X7_times (K : Cx) (I : TI) (L : TL) (A : TA) (o0 : Nat) (i1 : Int32) (Q : Int32 → TI → TL → TA → Prop) : Prop := cxS K o0 = shX7 o0 ∧ ∀ I2 : TI, I2 = u2 I o0 0 0 → ∃ P3 : Int32 → TI → TL → TA → Prop, ConI K yX7_isIn wsX7_isIn 0 0 I2 L A [.int i1, .int 0, .int ((I2 o0 7) - 1)] P3 ∧ ∀ (r8 : Int32) (I5 : TI) (L6 : TL) (A7 : TA), P3 r8 I5 L6 A7 → ((r8 = 0 → Q 0 I5 L6 A7) ∧ (¬ r8 = 0 → aok (cxS K) (o0 + 5) 0 i1 ∧ Q (I5 (o0 + 5) (ix i1)) I5 L6 A7))
set_option maxHeartbeats 1000000 in
set_option maxRecDepth 100000 in
theorem w_X7_times (K : Cx) (I : TI) (L : TL) (A : TA) (o0 : Nat) (i1 : Int32) (Q : Int32 → TI → TL → TA → Prop) (hwp : wp_X7_times K I L A o0 i1 Q) : ConI K yX7_times wsX7_times 1 22 I L A [.ref o0, .int i1] Q := by
  intro hK sz
  refine Met.ofW (cc := cX7_times) (maxL := 2) (ret := (some .int)) (by decide) rfl ?_
  intro p e s m args below meth c s₁ B hml hv
  obtain ⟨rfl, hsz, hB⟩ := hv
  have hx := B.exec
  have hb := B.bytes
  have hret := B.returns
  have hts := atoms_spec (ws := wsX7_times) B.pre
  have hown : s.vm.findClass RX7 = some m.cls := findClass_of_methodNamed B.named
  have hlocks := B.notSynchronized
  subst hsz
  have hz : SS K s I L A s.heap [] := PS.start hB
  have hl := lv_entry ([.ref o0, .int i1]) (n := 2) (Nat.le_of_ble_eq_true rfl)
  rw [lg_entry_eq]
  generalize (lg_sl ([.ref o0, .int i1]) ++ List.replicate (2 - (lg_sl ([.ref o0, .int i1])).length) Slot.unset).toArray = ls at hl ⊢
  have hl : lv_has ls 2 [(0, .ref o0), (1, .int i1)] := hl
  have hw0 : ∀ w ∈ u_ws RX7 TX7 25, w ∈ wsX7_times := by decide +kernel
  have hw1 := hts (.fieldLink RX7 35 "GaloisDeskModel" "refusal" "I") (by decide +kernel)
  have hw2 := hts (.fieldLink RX7 161 "GaloisDeskModel" "told" "I") (by decide +kernel)
  have hw3 := hts (.fieldLink RX7 23 "GaloisDeskModel" "toldOften" "[I") (by decide +kernel)
  clear hB B
  refine lv_aload_n hx hb dX7_times_0 rfl (lv_at hl 0 rfl) ?_
  refine lv_iconst (v := 0) hx hb dX7_times_1 (by decide) ?_
  obtain ⟨hs1, hwp⟩ := hwp
  refine sw_putI (C := RX7) (T := TX7) (N := 25) hx hb hts hw0 tyX7 tyX7_ok nmX7 hown hK hz hs1 rfl 0 (by decide) hw1 (fun _ h9 => h9) rfl (by decide +kernel) rfl dX7_times_2 (fun H locs I2 e_I2 hz => ?_)
  have hwp := hwp I2 e_I2
  refine lv_iload_n hx hb dX7_times_5 rfl (lv_at hl 1 rfl) ?_
  refine lv_iconst (v := 0) hx hb dX7_times_6 (by decide) ?_
  refine lv_aload_n hx hb dX7_times_7 rfl (lv_at hl 0 rfl) ?_
  refine sw_get (C := RX7) (T := TX7) (N := 25) (v := .int (I2 o0 7)) hx hb hts hw0 hown hK hz hs1 rfl 7 (by decide) hw2 (fun _ h9 => h9) rfl dX7_times_8 ?_
  refine lv_iconst (v := 1) hx hb dX7_times_11 (by decide) ?_
  refine lv_isub hx hb dX7_times_12 ?_
  obtain ⟨P3, hc4, hwp⟩ := hwp
  refine sw_calli hz (va_runS (As := [.int i1, .int 0, .int ((I2 o0 7) - 1)]) (rest := []) ⟨hx, hb, hml, hown, hts⟩ (hc4 hK _) (va_cwS 3 hts gX7_times_X7_isIn rfl rfl rfl (by decide +kernel) ⟨Nat.le_of_ble_eq_true rfl, Nat.le_of_ble_eq_true rfl⟩) hz.preS rfl rfl hl.1 rfl (lv_room (Nat.le_of_ble_eq_true rfl)) dX7_times_13 ⟨Nat.le_of_ble_eq_true rfl, Nat.le_of_ble_eq_true rfl⟩) (fun r8 I5 L6 A7 H locs hp hz => ?_)
  have hwp := hwp r8 I5 L6 A7 hp
  refine lv_if_eq (tgt := 28) hx hb dX7_times_16 (by decide) (fun q => ?_) (fun q => ?_)
  · have hwp := hwp.1 q
    refine lv_iconst (v := 0) hx hb dX7_times_28 (by decide) ?_
    exact sw_iret hx hb hret hlocks hz hwp dX7_times_29
  · have hwp := hwp.2 q
    refine lv_aload_n hx hb dX7_times_19 rfl (lv_at hl 0 rfl) ?_
    refine sw_get (C := RX7) (T := TX7) (N := 25) (v := .ref (o0 + 5)) hx hb hts hw0 hown hK hz hs1 rfl 10 (by decide) hw3 (fun _ h9 => h9) rfl dX7_times_20 ?_
    refine lv_iload_n hx hb dX7_times_23 rfl (lv_at hl 1 rfl) ?_
    obtain ⟨ho9, hwp⟩ := hwp
    refine sw_iald hx hb hK hz ho9 dX7_times_24 ?_
    refine lv_goto (tgt := 29) hx hb dX7_times_25 (by decide) ?_
    exact sw_iret hx hb hret hlocks hz hwp dX7_times_29

