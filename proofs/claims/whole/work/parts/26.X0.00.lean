def wp_X0_chooseModulus_9 (K : Cx) (o0 : Nat) (I : TI) (L : TL) (A : TA) (x2 : Int32) (x3 : Int32) (Q : TI → TL → TA → Prop) : Prop := ∃ (Inv : Nat → TI → TL → TA → Int32 → Int32 → Prop) (μ : Nat), Inv μ I L A x2 x3 ∧ ∀ (μ : Nat) (C9 : TI → TL → TA → Int32 → Int32 → Prop), (∀ (μ' : Nat) (I : TI) (L : TL) (A : TA) (x2 : Int32) (x3 : Int32) , μ' < μ → Inv μ' I L A x2 x3 → C9 I L A x2 x3) → ∀ (I : TI) (L : TL) (A : TA) (x2 : Int32) (x3 : Int32) , Inv μ I L A x2 x3 → ((x2 ≤ x3 → Q I L A) ∧ (¬ x2 ≤ x3 → vp_in x3 6 ∧ ∀ v2 : Int64, v2 = (bigP (ix x3)) → cxS K o0 = shX0 o0 ∧ cxS K (o0 + 1) = shX5 (o0 + 1) ∧ ∃ P5 : Int32 → TI → TL → TA → Prop, ConI K yX5_load wsX5_load 4 92 I L A [.ref (o0 + 1), .ref (o0 + 57), .long v2] P5 ∧ ∀ (r10 : Int32) (I7 : TI) (L8 : TL) (A9 : TA), P5 r10 I7 L8 A9 → ((r10 = 0 → ∀ v11 : Int32, v11 = x3 + 1 → C9 I7 L8 A9 x2 v11) ∧ (¬ r10 = 0 → Q I7 L8 A9))))
def wp_X0_chooseModulus (K : Cx) (I : TI) (L : TL) (A : TA) (o0 : Nat) (Q : TI → TL → TA → Prop) : Prop := wp_X0_chooseModulus_9 K o0 I L A 6 0 Q
set_option maxHeartbeats 1000000 in
set_option maxRecDepth 100000 in
theorem w_X0_chooseModulus (K : Cx) (I : TI) (L : TL) (A : TA) (o0 : Nat) (Q : TI → TL → TA → Prop) (hwp : wp_X0_chooseModulus K I L A o0 Q) : ConV K yX0_chooseModulus wsX0_chooseModulus 5 115 I L A [.ref o0] Q := by
  intro hK sz
  refine Met.ofW (cc := cX0_chooseModulus) (maxL := 6) (ret := none) (by decide) rfl ?_
  intro p e s m args below meth c s₁ B hml hv
  obtain ⟨rfl, hsz, hB⟩ := hv
  have hx := B.exec
  have hb := B.bytes
  have hret := B.returns
  have hts := atoms_spec (ws := wsX0_chooseModulus) B.pre
  have hown : s.vm.findClass RX0 = some m.cls := findClass_of_methodNamed B.named
  have hlocks := B.notSynchronized
  subst hsz
  have hz : SS K s I L A s.heap [] := PS.start hB
  have hl := lv_entry ([.ref o0]) (n := 6) (Nat.le_of_ble_eq_true rfl)
  rw [lg_entry_eq]
  generalize (lg_sl ([.ref o0]) ++ List.replicate (6 - (lg_sl ([.ref o0])).length) Slot.unset).toArray = ls at hl ⊢
  have hl : lv_has ls 6 [(0, .ref o0)] := hl
  have hw0 : ∀ w ∈ u_ws RX0 TX0 10, w ∈ wsX0_chooseModulus := by decide +kernel
  have hw1 := hts (.fieldLink RX0 12 "GaloisDesk$Factoring" "splitter" "LGaloisDesk$Splitter;") (by decide +kernel)
  have hw2 := hts (.fieldLink RX0 30 "GaloisDesk$Factoring" "rest" "LGaloisDesk$Row;") (by decide +kernel)
  obtain ⟨tP, hgp⟩ := hz.gp
  clear hB B
  have wL9 : ∀ (I : TI) (L : TL) (A : TA) (x2 : Int32) (x3 : Int32) (H : Heap) (locs : List Loc) (ls : Array Slot), wp_X0_chooseModulus_9 K o0 I L A x2 x3 Q → SS K s I L A H locs → lv_has ls 6 [(0, .ref o0), (1, .ref tP), (2, .int x2), (3, .int x3)] → W p (cxl K) e (headSpec wsX0_chooseModulus (rmF 5 115)).room s m ([.ref o0] : List Value).toArray below meth c H locs 0 0 (MQ below (cxQv K Q) ([.ref o0] : List Value).toArray s 0 0 (PA (cxb K))) (F0 m 9 ls []) := by
    intro I L A x2 x3 H locs ls hwp hz hl
    obtain ⟨Inv, μ, hi, hst⟩ := hwp
    have key : ∀ (μ : Nat) (I : TI) (L : TL) (A : TA) (x2 : Int32) (x3 : Int32) (H : Heap) (locs : List Loc) (ls : Array Slot), Inv μ I L A x2 x3 → SS K s I L A H locs → lv_has ls 6 [(0, .ref o0), (1, .ref tP), (2, .int x2), (3, .int x3)] → W p (cxl K) e (headSpec wsX0_chooseModulus (rmF 5 115)).room s m ([.ref o0] : List Value).toArray below meth c H locs 0 0 (MQ below (cxQv K Q) ([.ref o0] : List Value).toArray s 0 0 (PA (cxb K))) (F0 m 9 ls []) := by
      clear hi hz hl
      intro μ
      induction μ using Nat.strongRecOn with | ind μ ih => ?_
      intro I L A x2 x3 H locs ls hi hz hl
      obtain ⟨C9, hCd⟩ : ∃ C : TI → TL → TA → Int32 → Int32 → Prop, C = fun I L A x2 x3 => ∃ μ', μ' < μ ∧ Inv μ' I L A x2 x3 := ⟨_, rfl⟩
      have hC9 : ∀ (I : TI) (L : TL) (A : TA) (x2 : Int32) (x3 : Int32) (H : Heap) (locs : List Loc) (ls : Array Slot), C9 I L A x2 x3 → SS K s I L A H locs → lv_has ls 6 [(0, .ref o0), (1, .ref tP), (2, .int x2), (3, .int x3)] → W p (cxl K) e (headSpec wsX0_chooseModulus (rmF 5 115)).room s m ([.ref o0] : List Value).toArray below meth c H locs 0 0 (MQ below (cxQv K Q) ([.ref o0] : List Value).toArray s 0 0 (PA (cxb K))) (F0 m 9 ls []) := by
        intro I L A x2 x3 H locs ls hc hz hl
        rw [hCd] at hc
        obtain ⟨μ', hlt, hc⟩ := hc
        exact ih μ' hlt I L A x2 x3 H locs ls hc hz hl
      have hwp := hst μ C9 (fun μ' I L A x2 x3 hlt hc => by rw [hCd]; exact ⟨μ', hlt, hc⟩) I L A x2 x3 hi
      refine lv_iload_n hx hb dX0_chooseModulus_9 rfl (lv_at hl 3 rfl) ?_
      refine lv_iload_n hx hb dX0_chooseModulus_10 rfl (lv_at hl 2 rfl) ?_
      refine lv_icmp_ge (tgt := 42) hx hb dX0_chooseModulus_11 (by decide) (fun q => ?_) (fun q => ?_)
      · have hwp := hwp.1 q
        exact sw_vret hx hb hret hlocks hz hwp dX0_chooseModulus_42
      · have hwp := hwp.2 q
        refine lv_aload_n hx hb dX0_chooseModulus_14 rfl (lv_at hl 1 rfl) ?_
        refine lv_iload_n hx hb dX0_chooseModulus_15 rfl (lv_at hl 3 rfl) ?_
        obtain ⟨ho1, hwp⟩ := hwp
        refine sw_tl hx hb hz hgp ho1 dX0_chooseModulus_16 ?_
        refine lv_topl (fun v2 q_v2 => ?_)
        have hwp := hwp v2 q_v2
        refine lv_lstore (lv' := [(4, .long v2), (0, .ref o0), (1, .ref tP), (2, .int x2), (3, .int x3)]) hx hb dX0_chooseModulus_17 hl (by decide) rfl (fun ls hl => ?_)
        refine lv_aload_n hx hb dX0_chooseModulus_19 rfl (lv_at hl 1 rfl) ?_
        obtain ⟨hs3, hwp⟩ := hwp
        refine sw_get (C := RX0) (T := TX0) (N := 10) (v := .ref (o0 + 1)) hx hb hts hw0 hown hK hz hs3 rfl 0 (by decide) hw1 (fun _ h9 => h9) rfl dX0_chooseModulus_20 ?_
        refine lv_aload_n hx hb dX0_chooseModulus_23 rfl (lv_at hl 1 rfl) ?_
        refine sw_get (C := RX0) (T := TX0) (N := 10) (v := .ref (o0 + 57)) hx hb hts hw0 hown hK hz hs3 rfl 3 (by decide) hw2 (fun _ h9 => h9) rfl dX0_chooseModulus_24 ?_
        refine lv_lload hx hb dX0_chooseModulus_27 (lv_at hl 0 rfl) ?_
        obtain ⟨hs4, hwp⟩ := hwp
        obtain ⟨P5, hc6, hwp⟩ := hwp
        refine sw_calli hz (va_runV (As := [.ref (o0 + 57), .long v2]) (rest := []) ⟨hx, hb, hml, hown, hts⟩ (hc6 hK _) (cwV 2 hts gX0_chooseModulus_X5_load rfl rfl rfl (by decide +kernel) ⟨Nat.le_of_ble_eq_true rfl, Nat.le_of_ble_eq_true rfl⟩) (hz.preV hK hs4 rfl) rfl rfl hl.1 rfl (lv_room (Nat.le_of_ble_eq_true rfl)) dX0_chooseModulus_29 ⟨Nat.le_of_ble_eq_true rfl, Nat.le_of_ble_eq_true rfl⟩) (fun r10 I7 L8 A9 H locs hp hz => ?_)
        have hwp := hwp r10 I7 L8 A9 hp
        refine lv_if_eq (tgt := 36) hx hb dX0_chooseModulus_32 (by decide) (fun q => ?_) (fun q => ?_)
        · have hwp := hwp.1 q
          obtain ⟨v11, q_v11⟩ : ∃ y : Int32, y = x3 + 1 := ⟨_, rfl⟩
          have hwp := hwp v11 q_v11
          refine lv_iinc (v := v11) (lv' := [(3, .int v11), (4, .long v2), (0, .ref o0), (1, .ref tP), (2, .int x2)]) hx hb dX0_chooseModulus_36 hl (k := 4) rfl (by rw [q_v11]; rfl) (by decide) rfl (fun ls hl => ?_)
          refine lv_goto (tgt := 9) hx hb dX0_chooseModulus_39 (by decide) ?_
          exact hC9 _ _ _ _ _ _ _ _ hwp hz (lv_sub hl [2, 3, 4, 0] rfl)
        · have hwp := hwp.2 q
          exact sw_vret hx hb hret hlocks hz hwp dX0_chooseModulus_35
    exact key μ I L A x2 x3 H locs ls hi hz hl
  refine sw_gets hx hb hz hgp hown dX0_chooseModulus_0 ?_
  refine lv_astore_n (lv' := [(1, .ref tP), (0, .ref o0)]) hx hb dX0_chooseModulus_3 rfl hl (by decide) rfl (fun ls hl => ?_)
  refine lv_aload_n hx hb dX0_chooseModulus_4 rfl (lv_at hl 0 rfl) ?_
  refine sw_tlen hx hb hz hgp dX0_chooseModulus_5 ?_
  refine lv_istore_n (lv' := [(2, .int 6), (1, .ref tP), (0, .ref o0)]) hx hb dX0_chooseModulus_6 rfl hl (by decide) rfl (fun ls hl => ?_)
  refine lv_iconst (v := 0) hx hb dX0_chooseModulus_7 (by decide) ?_
  refine lv_istore_n (lv' := [(3, .int 0), (2, .int 6), (1, .ref tP), (0, .ref o0)]) hx hb dX0_chooseModulus_8 rfl hl (by decide) rfl (fun ls hl => ?_)
  exact wL9 _ _ _ _ _ _ _ _ hwp hz (lv_sub hl [3, 2, 1, 0] rfl)

def wp_X0_countEach_15 (K : Cx) (o0 : Nat) (C2 : TI → TL → TA → Int32 → Prop) (I : TI) (L : TL) (A : TA) (x1 : Int32) (x2 : Int32) (Q : TI → TL → TA → Prop) : Prop := ∃ (Inv : Nat → TI → TL → TA → Int32 → Int32 → Prop) (μ : Nat), Inv μ I L A x1 x2 ∧ ∀ (μ : Nat) (C15 : TI → TL → TA → Int32 → Int32 → Prop), (∀ (μ' : Nat) (I : TI) (L : TL) (A : TA) (x1 : Int32) (x2 : Int32) , μ' < μ → Inv μ' I L A x1 x2 → C15 I L A x1 x2) → ∀ (I : TI) (L : TL) (A : TA) (x1 : Int32) (x2 : Int32) , Inv μ I L A x1 x2 → ((6 ≤ x2 → ∀ v1 : Int32, v1 = x1 + 1 → C2 I L A v1) ∧ (¬ 6 ≤ x2 → cxS K o0 = shX0 o0 ∧ cxS K (o0 + 69) = shX2 (o0 + 69) ∧ aok (cxS K) ((o0 + 69) + 1) 2 x1 ∧ cxS K (o0 + 65) = shX4 (o0 + 65) ∧ ∃ P6 : Int32 → TI → TL → TA → Prop, ConI K yX4_becomeQuotient wsX4_becomeQuotient 2 61 I L A [.ref (o0 + 65), .ref (o0 + 55), .ref (A ((o0 + 69) + 1) (ix x1)), .ref (o0 + 67)] P6 ∧ ∀ (r11 : Int32) (I8 : TI) (L9 : TL) (A10 : TA), P6 r11 I8 L9 A10 → ((r11 = 0 → ∀ v12 : Int32, v12 = x1 + 1 → C2 I8 L9 A10 v12) ∧ (¬ r11 = 0 → cxS K (o0 + 55) = shX4 (o0 + 55) ∧ ∃ P14 : TI → TL → TA → Prop, ConV K yX4_become wsX4_become 1 40 I8 L9 A10 [.ref (o0 + 55), .ref (o0 + 65)] P14 ∧ ∀ (I16 : TI) (L17 : TL) (A18 : TA), P14 I16 L17 A18 → aok (cxS K) ((o0 + 69) + 14) 0 x1 ∧ aok (cxS K) ((o0 + 69) + 14) 0 x1 ∧ ∀ I21 : TI, I21 = u2 I16 ((o0 + 69) + 14) (ix x1) ((I16 ((o0 + 69) + 14) (ix x1)) + 1) → ∀ v22 : Int32, v22 = x2 + 1 → C15 I21 L17 A18 x1 v22))))
def wp_X0_countEach_2 (K : Cx) (o0 : Nat) (I : TI) (L : TL) (A : TA) (x1 : Int32) (Q : TI → TL → TA → Prop) : Prop := ∃ (Inv : Nat → TI → TL → TA → Int32 → Prop) (μ : Nat), Inv μ I L A x1 ∧ ∀ (μ : Nat) (C2 : TI → TL → TA → Int32 → Prop), (∀ (μ' : Nat) (I : TI) (L : TL) (A : TA) (x1 : Int32) , μ' < μ → Inv μ' I L A x1 → C2 I L A x1) → ∀ (I : TI) (L : TL) (A : TA) (x1 : Int32) , Inv μ I L A x1 → cxS K o0 = shX0 o0 ∧ cxS K (o0 + 69) = shX2 (o0 + 69) ∧ (((I (o0 + 69) 2) ≤ x1 → Q I L A) ∧ (¬ (I (o0 + 69) 2) ≤ x1 → wp_X0_countEach_15 K o0 C2 I L A x1 0 Q))
def wp_X0_countEach (K : Cx) (I : TI) (L : TL) (A : TA) (o0 : Nat) (Q : TI → TL → TA → Prop) : Prop := wp_X0_countEach_2 K o0 I L A 0 Q
set_option maxHeartbeats 1000000 in
set_option maxRecDepth 100000 in
theorem w_X0_countEach (K : Cx) (I : TI) (L : TL) (A : TA) (o0 : Nat) (Q : TI → TL → TA → Prop) (hwp : wp_X0_countEach K I L A o0 Q) : ConV K yX0_countEach wsX0_countEach 3 92 I L A [.ref o0] Q := by
  intro hK sz
  refine Met.ofW (cc := cX0_countEach) (maxL := 3) (ret := none) (by decide) rfl ?_
  intro p e s m args below meth c s₁ B hml hv
  obtain ⟨rfl, hsz, hB⟩ := hv
  have hx := B.exec
  have hb := B.bytes
  have hret := B.returns
  have hts := atoms_spec (ws := wsX0_countEach) B.pre
  have hown : s.vm.findClass RX0 = some m.cls := findClass_of_methodNamed B.named
  have hlocks := B.notSynchronized
  subst hsz
  have hz : SS K s I L A s.heap [] := PS.start hB
  have hl := lv_entry ([.ref o0]) (n := 3) (Nat.le_of_ble_eq_true rfl)
  rw [lg_entry_eq]
  generalize (lg_sl ([.ref o0]) ++ List.replicate (3 - (lg_sl ([.ref o0])).length) Slot.unset).toArray = ls at hl ⊢
  have hl : lv_has ls 3 [(0, .ref o0)] := hl
  have hw0 : ∀ w ∈ u_ws RX0 TX0 10, w ∈ wsX0_countEach := by decide +kernel
  have hw1 := hts (.fieldLink RX0 42 "GaloisDesk$Factoring" "quotient" "LGaloisDesk$Row;") (by decide +kernel)
  have hw2 := hts (.fieldLink RX0 26 "GaloisDesk$Factoring" "body" "LGaloisDesk$Row;") (by decide +kernel)
  have hw3 := hts (.fieldLink RX0 51 "GaloisDesk$Factoring" "found" "LGaloisDesk$PartList;") (by decide +kernel)
  have hw4 : ∀ w ∈ u_ws RX2 TX2 4, w ∈ wsX0_countEach := by decide +kernel
  have hw5 := hts (.fieldLink RX0 169 "GaloisDesk$PartList" "rows" "[LGaloisDesk$Row;") (by decide +kernel)
  have hw6 := hts (.fieldLink RX0 45 "GaloisDesk$Factoring" "scratch" "LGaloisDesk$Row;") (by decide +kernel)
  have hw7 := hts (.fieldLink RX0 172 "GaloisDesk$PartList" "often" "[I") (by decide +kernel)
  have hw8 := hts (.fieldLink RX0 166 "GaloisDesk$PartList" "count" "I") (by decide +kernel)
  clear hB B
  have wL15 : ∀ (C2 : TI → TL → TA → Int32 → Prop) (hC2 : ∀ (I : TI) (L : TL) (A : TA) (x1 : Int32) (H : Heap) (locs : List Loc) (ls : Array Slot), C2 I L A x1 → SS K s I L A H locs → lv_has ls 3 [(0, .ref o0), (1, .int x1)] → W p (cxl K) e (headSpec wsX0_countEach (rmF 3 92)).room s m ([.ref o0] : List Value).toArray below meth c H locs 0 0 (MQ below (cxQv K Q) ([.ref o0] : List Value).toArray s 0 0 (PA (cxb K))) (F0 m 2 ls [])) (I : TI) (L : TL) (A : TA) (x1 : Int32) (x2 : Int32) (H : Heap) (locs : List Loc) (ls : Array Slot), wp_X0_countEach_15 K o0 C2 I L A x1 x2 Q → SS K s I L A H locs → lv_has ls 3 [(0, .ref o0), (1, .int x1), (2, .int x2)] → W p (cxl K) e (headSpec wsX0_countEach (rmF 3 92)).room s m ([.ref o0] : List Value).toArray below meth c H locs 0 0 (MQ below (cxQv K Q) ([.ref o0] : List Value).toArray s 0 0 (PA (cxb K))) (F0 m 15 ls []) := by
    intro C2 hC2 I L A x1 x2 H locs ls hwp hz hl
    obtain ⟨Inv, μ, hi, hst⟩ := hwp
    have key : ∀ (μ : Nat) (I : TI) (L : TL) (A : TA) (x1 : Int32) (x2 : Int32) (H : Heap) (locs : List Loc) (ls : Array Slot), Inv μ I L A x1 x2 → SS K s I L A H locs → lv_has ls 3 [(0, .ref o0), (1, .int x1), (2, .int x2)] → W p (cxl K) e (headSpec wsX0_countEach (rmF 3 92)).room s m ([.ref o0] : List Value).toArray below meth c H locs 0 0 (MQ below (cxQv K Q) ([.ref o0] : List Value).toArray s 0 0 (PA (cxb K))) (F0 m 15 ls []) := by
      clear hi hz hl
      intro μ
      induction μ using Nat.strongRecOn with | ind μ ih => ?_
      intro I L A x1 x2 H locs ls hi hz hl
      obtain ⟨C15, hCd⟩ : ∃ C : TI → TL → TA → Int32 → Int32 → Prop, C = fun I L A x1 x2 => ∃ μ', μ' < μ ∧ Inv μ' I L A x1 x2 := ⟨_, rfl⟩
      have hC15 : ∀ (I : TI) (L : TL) (A : TA) (x1 : Int32) (x2 : Int32) (H : Heap) (locs : List Loc) (ls : Array Slot), C15 I L A x1 x2 → SS K s I L A H locs → lv_has ls 3 [(0, .ref o0), (1, .int x1), (2, .int x2)] → W p (cxl K) e (headSpec wsX0_countEach (rmF 3 92)).room s m ([.ref o0] : List Value).toArray below meth c H locs 0 0 (MQ below (cxQv K Q) ([.ref o0] : List Value).toArray s 0 0 (PA (cxb K))) (F0 m 15 ls []) := by
        intro I L A x1 x2 H locs ls hc hz hl
        rw [hCd] at hc
        obtain ⟨μ', hlt, hc⟩ := hc
        exact ih μ' hlt I L A x1 x2 H locs ls hc hz hl
      have hwp := hst μ C15 (fun μ' I L A x1 x2 hlt hc => by rw [hCd]; exact ⟨μ', hlt, hc⟩) I L A x1 x2 hi
      refine lv_iload_n hx hb dX0_countEach_15 rfl (lv_at hl 2 rfl) ?_
      refine lv_bipush (v := 6) hx hb dX0_countEach_16 (by decide) ?_
      refine lv_icmp_ge (tgt := 78) hx hb dX0_countEach_18 (by decide) (fun q => ?_) (fun q => ?_)
      · have hwp := hwp.1 q
        obtain ⟨v1, q_v1⟩ : ∃ y : Int32, y = x1 + 1 := ⟨_, rfl⟩
        have hwp := hwp v1 q_v1
        refine lv_iinc (v := v1) (lv' := [(1, .int v1), (0, .ref o0), (2, .int x2)]) hx hb dX0_countEach_78 hl (k := 1) rfl (by rw [q_v1]; rfl) (by decide) rfl (fun ls hl => ?_)
        refine lv_goto (tgt := 2) hx hb dX0_countEach_81 (by decide) ?_
        exact hC2 _ _ _ _ _ _ _ hwp hz (lv_sub hl [1, 0] rfl)
      · have hwp := hwp.2 q
        refine lv_aload_n hx hb dX0_countEach_21 rfl (lv_at hl 0 rfl) ?_
        obtain ⟨hs2, hwp⟩ := hwp
        refine sw_get (C := RX0) (T := TX0) (N := 10) (v := .ref (o0 + 65)) hx hb hts hw0 hown hK hz hs2 rfl 7 (by decide) hw1 (fun _ h9 => h9) rfl dX0_countEach_22 ?_
        refine lv_aload_n hx hb dX0_countEach_25 rfl (lv_at hl 0 rfl) ?_
        refine sw_get (C := RX0) (T := TX0) (N := 10) (v := .ref (o0 + 55)) hx hb hts hw0 hown hK hz hs2 rfl 2 (by decide) hw2 (fun _ h9 => h9) rfl dX0_countEach_26 ?_
        refine lv_aload_n hx hb dX0_countEach_29 rfl (lv_at hl 0 rfl) ?_
        refine sw_get (C := RX0) (T := TX0) (N := 10) (v := .ref (o0 + 69)) hx hb hts hw0 hown hK hz hs2 rfl 9 (by decide) hw3 (fun _ h9 => h9) rfl dX0_countEach_30 ?_
        obtain ⟨hs3, hwp⟩ := hwp
        refine sw_get (C := RX2) (T := TX2) (N := 4) (v := .ref ((o0 + 69) + 1)) hx hb hts hw4 hown hK hz hs3 rfl 0 (by decide) hw5 (fun _ h9 => h9) rfl dX0_countEach_33 ?_
        refine lv_iload_n hx hb dX0_countEach_36 rfl (lv_at hl 1 rfl) ?_
        obtain ⟨ho4, hwp⟩ := hwp
        refine sw_aald hx hb hK hz ho4 dX0_countEach_37 ?_
        refine lv_aload_n hx hb dX0_countEach_38 rfl (lv_at hl 0 rfl) ?_
        refine sw_get (C := RX0) (T := TX0) (N := 10) (v := .ref (o0 + 67)) hx hb hts hw0 hown hK hz hs2 rfl 8 (by decide) hw6 (fun _ h9 => h9) rfl dX0_countEach_39 ?_
        obtain ⟨hs5, hwp⟩ := hwp
        obtain ⟨P6, hc7, hwp⟩ := hwp
        refine sw_calli hz (va_runV (As := [.ref (o0 + 55), .ref (A ((o0 + 69) + 1) (ix x1)), .ref (o0 + 67)]) (rest := []) ⟨hx, hb, hml, hown, hts⟩ (hc7 hK _) (cwV 3 hts gX0_countEach_X4_becomeQuotient rfl rfl rfl (by decide +kernel) ⟨Nat.le_of_ble_eq_true rfl, Nat.le_of_ble_eq_true rfl⟩) (hz.preV hK hs5 rfl) rfl rfl hl.1 rfl (lv_room (Nat.le_of_ble_eq_true rfl)) dX0_countEach_42 ⟨Nat.le_of_ble_eq_true rfl, Nat.le_of_ble_eq_true rfl⟩) (fun r11 I8 L9 A10 H locs hp hz => ?_)
        have hwp := hwp r11 I8 L9 A10 hp
        refine lv_if_eq (tgt := 78) hx hb dX0_countEach_45 (by decide) (fun q => ?_) (fun q => ?_)
        · have hwp := hwp.1 q
          obtain ⟨v12, q_v12⟩ : ∃ y : Int32, y = x1 + 1 := ⟨_, rfl⟩
          have hwp := hwp v12 q_v12
          refine lv_iinc (v := v12) (lv' := [(1, .int v12), (0, .ref o0), (2, .int x2)]) hx hb dX0_countEach_78 hl (k := 1) rfl (by rw [q_v12]; rfl) (by decide) rfl (fun ls hl => ?_)
          refine lv_goto (tgt := 2) hx hb dX0_countEach_81 (by decide) ?_
          exact hC2 _ _ _ _ _ _ _ hwp hz (lv_sub hl [1, 0] rfl)
        · have hwp := hwp.2 q
          refine lv_aload_n hx hb dX0_countEach_48 rfl (lv_at hl 0 rfl) ?_
          refine sw_get (C := RX0) (T := TX0) (N := 10) (v := .ref (o0 + 55)) hx hb hts hw0 hown hK hz hs2 rfl 2 (by decide) hw2 (fun _ h9 => h9) rfl dX0_countEach_49 ?_
          refine lv_aload_n hx hb dX0_countEach_52 rfl (lv_at hl 0 rfl) ?_
          refine sw_get (C := RX0) (T := TX0) (N := 10) (v := .ref (o0 + 65)) hx hb hts hw0 hown hK hz hs2 rfl 7 (by decide) hw1 (fun _ h9 => h9) rfl dX0_countEach_53 ?_
          obtain ⟨hs13, hwp⟩ := hwp
          obtain ⟨P14, hc15, hwp⟩ := hwp
          refine sw_callv hz (va_runV (As := [.ref (o0 + 65)]) (rest := []) ⟨hx, hb, hml, hown, hts⟩ (hc15 hK _) (cwV 1 hts gX0_countEach_X4_become rfl rfl rfl (by decide +kernel) ⟨Nat.le_of_ble_eq_true rfl, Nat.le_of_ble_eq_true rfl⟩) (hz.preV hK hs13 rfl) rfl rfl hl.1 rfl (lv_room (Nat.le_of_ble_eq_true rfl)) dX0_countEach_56 ⟨Nat.le_of_ble_eq_true rfl, Nat.le_of_ble_eq_true rfl⟩) (fun I16 L17 A18 H locs hp hz => ?_)
          have hwp := hwp I16 L17 A18 hp
          refine lv_aload_n hx hb dX0_countEach_59 rfl (lv_at hl 0 rfl) ?_
          refine sw_get (C := RX0) (T := TX0) (N := 10) (v := .ref (o0 + 69)) hx hb hts hw0 hown hK hz hs2 rfl 9 (by decide) hw3 (fun _ h9 => h9) rfl dX0_countEach_60 ?_
          refine sw_get (C := RX2) (T := TX2) (N := 4) (v := .ref ((o0 + 69) + 14)) hx hb hts hw4 hown hK hz hs3 rfl 1 (by decide) hw7 (fun _ h9 => h9) rfl dX0_countEach_63 ?_
          refine lv_iload_n hx hb dX0_countEach_66 rfl (lv_at hl 1 rfl) ?_
          refine lv_dup2_11 hx hb dX0_countEach_67 rfl rfl ?_
          obtain ⟨ho19, hwp⟩ := hwp
          refine sw_iald hx hb hK hz ho19 dX0_countEach_68 ?_
          refine lv_iconst (v := 1) hx hb dX0_countEach_69 (by decide) ?_
          refine lv_iadd hx hb dX0_countEach_70 ?_
          obtain ⟨ho20, hwp⟩ := hwp
          refine sw_iast hx hb hK hz ho20 dX0_countEach_71 (fun H locs I21 e_I21 hz => ?_)
          have hwp := hwp I21 e_I21
          obtain ⟨v22, q_v22⟩ : ∃ y : Int32, y = x2 + 1 := ⟨_, rfl⟩
          have hwp := hwp v22 q_v22
          refine lv_iinc (v := v22) (lv' := [(2, .int v22), (0, .ref o0), (1, .int x1)]) hx hb dX0_countEach_72 hl (k := 2) rfl (by rw [q_v22]; rfl) (by decide) rfl (fun ls hl => ?_)
          refine lv_goto (tgt := 15) hx hb dX0_countEach_75 (by decide) ?_
          exact hC15 _ _ _ _ _ _ _ _ hwp hz (lv_sub hl [1, 2, 0] rfl)
    exact key μ I L A x1 x2 H locs ls hi hz hl
  have wL2 : ∀ (I : TI) (L : TL) (A : TA) (x1 : Int32) (H : Heap) (locs : List Loc) (ls : Array Slot), wp_X0_countEach_2 K o0 I L A x1 Q → SS K s I L A H locs → lv_has ls 3 [(0, .ref o0), (1, .int x1)] → W p (cxl K) e (headSpec wsX0_countEach (rmF 3 92)).room s m ([.ref o0] : List Value).toArray below meth c H locs 0 0 (MQ below (cxQv K Q) ([.ref o0] : List Value).toArray s 0 0 (PA (cxb K))) (F0 m 2 ls []) := by
    intro I L A x1 H locs ls hwp hz hl
    obtain ⟨Inv, μ, hi, hst⟩ := hwp
    have key : ∀ (μ : Nat) (I : TI) (L : TL) (A : TA) (x1 : Int32) (H : Heap) (locs : List Loc) (ls : Array Slot), Inv μ I L A x1 → SS K s I L A H locs → lv_has ls 3 [(0, .ref o0), (1, .int x1)] → W p (cxl K) e (headSpec wsX0_countEach (rmF 3 92)).room s m ([.ref o0] : List Value).toArray below meth c H locs 0 0 (MQ below (cxQv K Q) ([.ref o0] : List Value).toArray s 0 0 (PA (cxb K))) (F0 m 2 ls []) := by
      clear hi hz hl
      intro μ
      induction μ using Nat.strongRecOn with | ind μ ih => ?_
      intro I L A x1 H locs ls hi hz hl
      obtain ⟨C2, hCd⟩ : ∃ C : TI → TL → TA → Int32 → Prop, C = fun I L A x1 => ∃ μ', μ' < μ ∧ Inv μ' I L A x1 := ⟨_, rfl⟩
      have hC2 : ∀ (I : TI) (L : TL) (A : TA) (x1 : Int32) (H : Heap) (locs : List Loc) (ls : Array Slot), C2 I L A x1 → SS K s I L A H locs → lv_has ls 3 [(0, .ref o0), (1, .int x1)] → W p (cxl K) e (headSpec wsX0_countEach (rmF 3 92)).room s m ([.ref o0] : List Value).toArray below meth c H locs 0 0 (MQ below (cxQv K Q) ([.ref o0] : List Value).toArray s 0 0 (PA (cxb K))) (F0 m 2 ls []) := by
        intro I L A x1 H locs ls hc hz hl
        rw [hCd] at hc
        obtain ⟨μ', hlt, hc⟩ := hc
        exact ih μ' hlt I L A x1 H locs ls hc hz hl
      have hwp := hst μ C2 (fun μ' I L A x1 hlt hc => by rw [hCd]; exact ⟨μ', hlt, hc⟩) I L A x1 hi
      refine lv_iload_n hx hb dX0_countEach_2 rfl (lv_at hl 1 rfl) ?_
      refine lv_aload_n hx hb dX0_countEach_3 rfl (lv_at hl 0 rfl) ?_
      obtain ⟨hs23, hwp⟩ := hwp
      refine sw_get (C := RX0) (T := TX0) (N := 10) (v := .ref (o0 + 69)) hx hb hts hw0 hown hK hz hs23 rfl 9 (by decide) hw3 (fun _ h9 => h9) rfl dX0_countEach_4 ?_
      obtain ⟨hs24, hwp⟩ := hwp
      refine sw_get (C := RX2) (T := TX2) (N := 4) (v := .int (I (o0 + 69) 2)) hx hb hts hw4 hown hK hz hs24 rfl 2 (by decide) hw8 (fun _ h9 => h9) rfl dX0_countEach_7 ?_
      refine lv_icmp_ge (tgt := 84) hx hb dX0_countEach_10 (by decide) (fun q => ?_) (fun q => ?_)
      · have hwp := hwp.1 q
        exact sw_vret hx hb hret hlocks hz hwp dX0_countEach_84
      · have hwp := hwp.2 q
        refine lv_iconst (v := 0) hx hb dX0_countEach_13 (by decide) ?_
        refine lv_istore_n (lv' := [(2, .int 0), (0, .ref o0), (1, .int x1)]) hx hb dX0_countEach_14 rfl hl (by decide) rfl (fun ls hl => ?_)
        exact wL15 _ hC2 _ _ _ _ _ _ _ _ hwp hz (lv_sub hl [1, 2, 0] rfl)
    exact key μ I L A x1 H locs ls hi hz hl
  refine lv_iconst (v := 0) hx hb dX0_countEach_0 (by decide) ?_
  refine lv_istore_n (lv' := [(1, .int 0), (0, .ref o0)]) hx hb dX0_countEach_1 rfl hl (by decide) rfl (fun ls hl => ?_)
  exact wL2 _ _ _ _ _ _ _ hwp hz (lv_sub hl [1, 0] rfl)

def wp_X0_divides (K : Cx) (I : TI) (L : TL) (A : TA) (o0 : Nat) (o1 : Nat) (o2 : Nat) (Q : Int32 → TI → TL → TA → Prop) : Prop := cxS K o1 = shX4 o1 ∧ ∃ P2 : Int32 → TI → TL → TA → Prop, ConI K yX4_isWithin wsX4_isWithin 0 0 I L A [.ref o1, .long 1000000] P2 ∧ ∀ (r7 : Int32) (I4 : TI) (L5 : TL) (A6 : TA), P2 r7 I4 L5 A6 → ((r7 = 0 → Q 0 I4 L5 A6) ∧ (¬ r7 = 0 → cxS K o0 = shX0 o0 ∧ cxS K (o0 + 65) = shX4 (o0 + 65) ∧ ∃ P10 : Int32 → TI → TL → TA → Prop, ConI K yX4_becomeQuotient wsX4_becomeQuotient 2 61 I4 L5 A6 [.ref (o0 + 65), .ref o2, .ref o1, .ref (o0 + 67)] P10 ∧ ∀ (r15 : Int32) (I12 : TI) (L13 : TL) (A14 : TA), P10 r15 I12 L13 A14 → ((r15 = 0 → Q 0 I12 L13 A14) ∧ (¬ r15 = 0 → Q 1 I12 L13 A14))))
set_option maxHeartbeats 1000000 in
set_option maxRecDepth 100000 in
theorem w_X0_divides (K : Cx) (I : TI) (L : TL) (A : TA) (o0 : Nat) (o1 : Nat) (o2 : Nat) (Q : Int32 → TI → TL → TA → Prop) (hwp : wp_X0_divides K I L A o0 o1 o2 Q) : ConI K yX0_divides wsX0_divides 3 92 I L A [.ref o0, .ref o1, .ref o2] Q := by
  intro hK sz
  refine Met.ofW (cc := cX0_divides) (maxL := 3) (ret := (some .boolean)) (by decide) rfl ?_
  intro p e s m args below meth c s₁ B hml hv
  obtain ⟨rfl, hsz, hB⟩ := hv
  have hx := B.exec
  have hb := B.bytes
  have hret := B.returns
  have hts := atoms_spec (ws := wsX0_divides) B.pre
  have hown : s.vm.findClass RX0 = some m.cls := findClass_of_methodNamed B.named
  have hlocks := B.notSynchronized
  subst hsz
  have hz : SS K s I L A s.heap [] := PS.start hB
  have hl := lv_entry ([.ref o0, .ref o1, .ref o2]) (n := 3) (Nat.le_of_ble_eq_true rfl)
  rw [lg_entry_eq]
  generalize (lg_sl ([.ref o0, .ref o1, .ref o2]) ++ List.replicate (3 - (lg_sl ([.ref o0, .ref o1, .ref o2])).length) Slot.unset).toArray = ls at hl ⊢
  have hl : lv_has ls 3 [(0, .ref o0), (1, .ref o1), (2, .ref o2)] := hl
  have hw0 := hts (.constantLong RX0 139 (1000000)) (by decide +kernel)
  have hw1 : ∀ w ∈ u_ws RX0 TX0 10, w ∈ wsX0_divides := by decide +kernel
  have hw2 := hts (.fieldLink RX0 42 "GaloisDesk$Factoring" "quotient" "LGaloisDesk$Row;") (by decide +kernel)
  have hw3 := hts (.fieldLink RX0 45 "GaloisDesk$Factoring" "scratch" "LGaloisDesk$Row;") (by decide +kernel)
  clear hB B
  refine lv_aload_n hx hb dX0_divides_0 rfl (lv_at hl 1 rfl) ?_
  refine lv_ldc2 hx hb hown hw0 dX0_divides_1 ?_
  obtain ⟨hs1, hwp⟩ := hwp
  obtain ⟨P2, hc3, hwp⟩ := hwp
  refine sw_calli hz (va_runV (As := [.long 1000000]) (rest := []) ⟨hx, hb, hml, hown, hts⟩ (hc3 hK _) (cwV 1 hts gX0_divides_X4_isWithin rfl rfl rfl (by decide +kernel) ⟨Nat.le_of_ble_eq_true rfl, Nat.le_of_ble_eq_true rfl⟩) (hz.preV hK hs1 rfl) rfl rfl hl.1 rfl (lv_room (Nat.le_of_ble_eq_true rfl)) dX0_divides_4 ⟨Nat.le_of_ble_eq_true rfl, Nat.le_of_ble_eq_true rfl⟩) (fun r7 I4 L5 A6 H locs hp hz => ?_)
  have hwp := hwp r7 I4 L5 A6 hp
  refine lv_if_eq (tgt := 30) hx hb dX0_divides_7 (by decide) (fun q => ?_) (fun q => ?_)
  · have hwp := hwp.1 q
    refine lv_iconst (v := 0) hx hb dX0_divides_30 (by decide) ?_
    exact sw_zret hx hb hret hlocks hz (Or.inl rfl) hwp dX0_divides_31
  · have hwp := hwp.2 q
    refine lv_aload_n hx hb dX0_divides_10 rfl (lv_at hl 0 rfl) ?_
    obtain ⟨hs8, hwp⟩ := hwp
    refine sw_get (C := RX0) (T := TX0) (N := 10) (v := .ref (o0 + 65)) hx hb hts hw1 hown hK hz hs8 rfl 7 (by decide) hw2 (fun _ h9 => h9) rfl dX0_divides_11 ?_
    refine lv_aload_n hx hb dX0_divides_14 rfl (lv_at hl 2 rfl) ?_
    refine lv_aload_n hx hb dX0_divides_15 rfl (lv_at hl 1 rfl) ?_
    refine lv_aload_n hx hb dX0_divides_16 rfl (lv_at hl 0 rfl) ?_
    refine sw_get (C := RX0) (T := TX0) (N := 10) (v := .ref (o0 + 67)) hx hb hts hw1 hown hK hz hs8 rfl 8 (by decide) hw3 (fun _ h9 => h9) rfl dX0_divides_17 ?_
    obtain ⟨hs9, hwp⟩ := hwp
    obtain ⟨P10, hc11, hwp⟩ := hwp
    refine sw_calli hz (va_runV (As := [.ref o2, .ref o1, .ref (o0 + 67)]) (rest := []) ⟨hx, hb, hml, hown, hts⟩ (hc11 hK _) (cwV 3 hts gX0_divides_X4_becomeQuotient rfl rfl rfl (by decide +kernel) ⟨Nat.le_of_ble_eq_true rfl, Nat.le_of_ble_eq_true rfl⟩) (hz.preV hK hs9 rfl) rfl rfl hl.1 rfl (lv_room (Nat.le_of_ble_eq_true rfl)) dX0_divides_20 ⟨Nat.le_of_ble_eq_true rfl, Nat.le_of_ble_eq_true rfl⟩) (fun r15 I12 L13 A14 H locs hp hz => ?_)
    have hwp := hwp r15 I12 L13 A14 hp
    refine lv_if_eq (tgt := 30) hx hb dX0_divides_23 (by decide) (fun q => ?_) (fun q => ?_)
    · have hwp := hwp.1 q
      refine lv_iconst (v := 0) hx hb dX0_divides_30 (by decide) ?_
      exact sw_zret hx hb hret hlocks hz (Or.inl rfl) hwp dX0_divides_31
    · have hwp := hwp.2 q
      refine lv_iconst (v := 1) hx hb dX0_divides_26 (by decide) ?_
      refine lv_goto (tgt := 31) hx hb dX0_divides_27 (by decide) ?_
      exact sw_zret hx hb hret hlocks hz (Or.inr rfl) hwp dX0_divides_31

def wp_X0_findCommon_26 (K : Cx) (o0 : Nat) (o1 : Nat) (o2 : Nat) (o3 : Nat) (I : TI) (L : TL) (A : TA) (x4 : Int64) (x7 : Int32) (x8 : Int32) (Q : TI → TL → TA → Prop) : Prop := ∃ (Inv : Nat → TI → TL → TA → Int64 → Int32 → Int32 → Prop) (μ : Nat), Inv μ I L A x4 x7 x8 ∧ ∀ (μ : Nat) (C26 : TI → TL → TA → Int64 → Int32 → Int32 → Prop), (∀ (μ' : Nat) (I : TI) (L : TL) (A : TA) (x4 : Int64) (x7 : Int32) (x8 : Int32) , μ' < μ → Inv μ' I L A x4 x7 x8 → C26 I L A x4 x7 x8) → ∀ (I : TI) (L : TL) (A : TA) (x4 : Int64) (x7 : Int32) (x8 : Int32) , Inv μ I L A x4 x7 x8 → ((x7 ≤ x8 → cxS K o1 = shX4 o1 ∧ ∃ P2 : TI → TL → TA → Prop, ConV K yX4_becomeNumber wsX4_becomeNumber 1 21 I L A [.ref o1, .long 1] P2 ∧ ∀ (I4 : TI) (L5 : TL) (A6 : TA), P2 I4 L5 A6 → Q I4 L5 A6) ∧ (¬ x7 ≤ x8 → vp_in x8 6 ∧ ∀ v8 : Int64, v8 = (bigP (ix x8)) → cxS K o0 = shX0 o0 ∧ cxS K (o0 + 2) = shX3 (o0 + 2) ∧ ∃ P11 : TI → TL → TA → Prop, ConV K yX3_useModulus wsX3_useModulus 0 0 I L A [.ref (o0 + 2), .long v8] P11 ∧ ∀ (I13 : TI) (L14 : TL) (A15 : TA), P11 I13 L14 A15 → ∃ P16 : TI → TL → TA → Prop, ConV K yX3_reduce wsX3_reduce 1 40 I13 L14 A15 [.ref (o0 + 2), .ref (o0 + 63), .ref o2] P16 ∧ ∀ (I18 : TI) (L19 : TL) (A20 : TA), P16 I18 L19 A20 → ∃ P21 : TI → TL → TA → Prop, ConV K yX3_reduce wsX3_reduce 1 40 I18 L19 A20 [.ref (o0 + 2), .ref (o0 + 65), .ref o3] P21 ∧ ∀ (I23 : TI) (L24 : TL) (A25 : TA), P21 I23 L24 A25 → ∃ P26 : TI → TL → TA → Prop, ConV K yX3_findCommon wsX3_findCommon 3 65 I23 L24 A25 [.ref (o0 + 2), .ref (o0 + 67), .ref (o0 + 63), .ref (o0 + 65)] P26 ∧ ∀ (I28 : TI) (L29 : TL) (A30 : TA), P26 I28 L29 A30 → cxS K (o0 + 63) = shX4 (o0 + 63) ∧ ∃ P32 : TI → TL → TA → Prop, ConV K yX4_becomeSum wsX4_becomeSum 1 21 I28 L29 A30 [.ref (o0 + 63), .ref (o0 + 67), .long x4, .ref (o0 + 67), .long 0] P32 ∧ ∀ (I34 : TI) (L35 : TL) (A36 : TA), P32 I34 L35 A36 → ∃ P37 : TI → TL → TA → Prop, ConV K yX3_lift wsX3_lift 2 63 I34 L35 A36 [.ref (o0 + 2), .ref o1, .ref (o0 + 63)] P37 ∧ ∀ (I39 : TI) (L40 : TL) (A41 : TA), P37 I39 L40 A41 → cxS K o1 = shX4 o1 ∧ ∃ P43 : TI → TL → TA → Prop, ConV K yX4_makePrimitive wsX4_makePrimitive 3 93 I39 L40 A41 [.ref o1] P43 ∧ ∀ (I45 : TI) (L46 : TL) (A47 : TA), P43 I45 L46 A47 → ∃ P48 : Int32 → TI → TL → TA → Prop, ConI K yX0_divides wsX0_divides 3 92 I45 L46 A47 [.ref o0, .ref o1, .ref o2] P48 ∧ ∀ (r53 : Int32) (I50 : TI) (L51 : TL) (A52 : TA), P48 r53 I50 L51 A52 → ((r53 = 0 → ∀ v54 : Int32, v54 = x8 + 1 → C26 I50 L51 A52 x4 x7 v54) ∧ (¬ r53 = 0 → ∃ P55 : Int32 → TI → TL → TA → Prop, ConI K yX0_divides wsX0_divides 3 92 I50 L51 A52 [.ref o0, .ref o1, .ref o3] P55 ∧ ∀ (r60 : Int32) (I57 : TI) (L58 : TL) (A59 : TA), P55 r60 I57 L58 A59 → ((r60 = 0 → ∀ v61 : Int32, v61 = x8 + 1 → C26 I57 L58 A59 x4 x7 v61) ∧ (¬ r60 = 0 → Q I57 L58 A59))))))
def wp_X0_findCommon (K : Cx) (I : TI) (L : TL) (A : TA) (o0 : Nat) (o1 : Nat) (o2 : Nat) (o3 : Nat) (Q : TI → TL → TA → Prop) : Prop := cxS K o2 = shX4 o2 ∧ ∃ P63 : Int64 → TI → TL → TA → Prop, ConL K yX4_lead wsX4_lead 1 21 I L A [.ref o2] P63 ∧ ∀ (r68 : Int64) (I65 : TI) (L66 : TL) (A67 : TA), P63 r68 I65 L66 A67 → cxS K o3 = shX4 o3 ∧ ∃ P70 : Int64 → TI → TL → TA → Prop, ConL K yX4_lead wsX4_lead 1 21 I65 L66 A67 [.ref o3] P70 ∧ ∀ (r75 : Int64) (I72 : TI) (L73 : TL) (A74 : TA), P70 r75 I72 L73 A74 → ∃ P76 : Int64 → TI → TL → TA → Prop, ConL K yX6_greatestDivisor wsX6_greatestDivisor 1 40 I72 L73 A74 [.long r68, .long r75] P76 ∧ ∀ (r81 : Int64) (I78 : TI) (L79 : TL) (A80 : TA), P76 r81 I78 L79 A80 → wp_X0_findCommon_26 K o0 o1 o2 o3 I78 L79 A80 r81 6 0 Q
set_option maxHeartbeats 1000000 in
set_option maxRecDepth 100000 in
theorem w_X0_findCommon (K : Cx) (I : TI) (L : TL) (A : TA) (o0 : Nat) (o1 : Nat) (o2 : Nat) (o3 : Nat) (Q : TI → TL → TA → Prop) (hwp : wp_X0_findCommon K I L A o0 o1 o2 o3 Q) : ConV K yX0_findCommon wsX0_findCommon 4 116 I L A [.ref o0, .ref o1, .ref o2, .ref o3] Q := by
  intro hK sz
  refine Met.ofW (cc := cX0_findCommon) (maxL := 11) (ret := none) (by decide) rfl ?_
  intro p e s m args below meth c s₁ B hml hv
  obtain ⟨rfl, hsz, hB⟩ := hv
  have hx := B.exec
  have hb := B.bytes
  have hret := B.returns
  have hts := atoms_spec (ws := wsX0_findCommon) B.pre
  have hown : s.vm.findClass RX0 = some m.cls := findClass_of_methodNamed B.named
  have hlocks := B.notSynchronized
  subst hsz
  have hz : SS K s I L A s.heap [] := PS.start hB
  have hl := lv_entry ([.ref o0, .ref o1, .ref o2, .ref o3]) (n := 11) (Nat.le_of_ble_eq_true rfl)
  rw [lg_entry_eq]
  generalize (lg_sl ([.ref o0, .ref o1, .ref o2, .ref o3]) ++ List.replicate (11 - (lg_sl ([.ref o0, .ref o1, .ref o2, .ref o3])).length) Slot.unset).toArray = ls at hl ⊢
  have hl : lv_has ls 11 [(0, .ref o0), (1, .ref o1), (2, .ref o2), (3, .ref o3)] := hl
  have hw0 : ∀ w ∈ u_ws RX0 TX0 10, w ∈ wsX0_findCommon := by decide +kernel
  have hw1 := hts (.fieldLink RX0 22 "GaloisDesk$Factoring" "residues" "LGaloisDesk$Residues;") (by decide +kernel)
  have hw2 := hts (.fieldLink RX0 39 "GaloisDesk$Factoring" "candidate" "LGaloisDesk$Row;") (by decide +kernel)
  have hw3 := hts (.fieldLink RX0 42 "GaloisDesk$Factoring" "quotient" "LGaloisDesk$Row;") (by decide +kernel)
  have hw4 := hts (.fieldLink RX0 45 "GaloisDesk$Factoring" "scratch" "LGaloisDesk$Row;") (by decide +kernel)
  have hw5 := hts (.initialized RX6) (by decide +kernel)
  have hw6 := hts (.static yX6_greatestDivisor) (by decide +kernel)
  obtain ⟨tP, hgp⟩ := hz.gp
  clear hB B
  have wL26 : ∀ (I : TI) (L : TL) (A : TA) (x4 : Int64) (x7 : Int32) (x8 : Int32) (H : Heap) (locs : List Loc) (ls : Array Slot), wp_X0_findCommon_26 K o0 o1 o2 o3 I L A x4 x7 x8 Q → SS K s I L A H locs → lv_has ls 11 [(0, .ref o0), (1, .ref o1), (2, .ref o2), (3, .ref o3), (4, .long x4), (6, .ref tP), (7, .int x7), (8, .int x8)] → W p (cxl K) e (headSpec wsX0_findCommon (rmF 4 116)).room s m ([.ref o0, .ref o1, .ref o2, .ref o3] : List Value).toArray below meth c H locs 0 0 (MQ below (cxQv K Q) ([.ref o0, .ref o1, .ref o2, .ref o3] : List Value).toArray s 0 0 (PA (cxb K))) (F0 m 26 ls []) := by
    intro I L A x4 x7 x8 H locs ls hwp hz hl
    obtain ⟨Inv, μ, hi, hst⟩ := hwp
    have key : ∀ (μ : Nat) (I : TI) (L : TL) (A : TA) (x4 : Int64) (x7 : Int32) (x8 : Int32) (H : Heap) (locs : List Loc) (ls : Array Slot), Inv μ I L A x4 x7 x8 → SS K s I L A H locs → lv_has ls 11 [(0, .ref o0), (1, .ref o1), (2, .ref o2), (3, .ref o3), (4, .long x4), (6, .ref tP), (7, .int x7), (8, .int x8)] → W p (cxl K) e (headSpec wsX0_findCommon (rmF 4 116)).room s m ([.ref o0, .ref o1, .ref o2, .ref o3] : List Value).toArray below meth c H locs 0 0 (MQ below (cxQv K Q) ([.ref o0, .ref o1, .ref o2, .ref o3] : List Value).toArray s 0 0 (PA (cxb K))) (F0 m 26 ls []) := by
      clear hi hz hl
      intro μ
      induction μ using Nat.strongRecOn with | ind μ ih => ?_
      intro I L A x4 x7 x8 H locs ls hi hz hl
      obtain ⟨C26, hCd⟩ : ∃ C : TI → TL → TA → Int64 → Int32 → Int32 → Prop, C = fun I L A x4 x7 x8 => ∃ μ', μ' < μ ∧ Inv μ' I L A x4 x7 x8 := ⟨_, rfl⟩
      have hC26 : ∀ (I : TI) (L : TL) (A : TA) (x4 : Int64) (x7 : Int32) (x8 : Int32) (H : Heap) (locs : List Loc) (ls : Array Slot), C26 I L A x4 x7 x8 → SS K s I L A H locs → lv_has ls 11 [(0, .ref o0), (1, .ref o1), (2, .ref o2), (3, .ref o3), (4, .long x4), (6, .ref tP), (7, .int x7), (8, .int x8)] → W p (cxl K) e (headSpec wsX0_findCommon (rmF 4 116)).room s m ([.ref o0, .ref o1, .ref o2, .ref o3] : List Value).toArray below meth c H locs 0 0 (MQ below (cxQv K Q) ([.ref o0, .ref o1, .ref o2, .ref o3] : List Value).toArray s 0 0 (PA (cxb K))) (F0 m 26 ls []) := by
        intro I L A x4 x7 x8 H locs ls hc hz hl
        rw [hCd] at hc
        obtain ⟨μ', hlt, hc⟩ := hc
        exact ih μ' hlt I L A x4 x7 x8 H locs ls hc hz hl
      have hwp := hst μ C26 (fun μ' I L A x4 x7 x8 hlt hc => by rw [hCd]; exact ⟨μ', hlt, hc⟩) I L A x4 x7 x8 hi
      refine lv_iload hx hb dX0_findCommon_26 (lv_at hl 7 rfl) ?_
      refine lv_iload hx hb dX0_findCommon_28 (lv_at hl 6 rfl) ?_
      refine lv_icmp_ge (tgt := 151) hx hb dX0_findCommon_30 (by decide) (fun q => ?_) (fun q => ?_)
      · have hwp := hwp.1 q
        refine lv_aload_n hx hb dX0_findCommon_151 rfl (lv_at hl 1 rfl) ?_
        refine lv_lconst (v := 1) hx hb dX0_findCommon_152 (by decide) ?_
        obtain ⟨hs1, hwp⟩ := hwp
        obtain ⟨P2, hc3, hwp⟩ := hwp
        refine sw_callv hz (va_runV (As := [.long 1]) (rest := []) ⟨hx, hb, hml, hown, hts⟩ (hc3 hK _) (cwV 1 hts gX0_findCommon_X4_becomeNumber rfl rfl rfl (by decide +kernel) ⟨Nat.le_of_ble_eq_true rfl, Nat.le_of_ble_eq_true rfl⟩) (hz.preV hK hs1 rfl) rfl rfl hl.1 rfl (lv_room (Nat.le_of_ble_eq_true rfl)) dX0_findCommon_153 ⟨Nat.le_of_ble_eq_true rfl, Nat.le_of_ble_eq_true rfl⟩) (fun I4 L5 A6 H locs hp hz => ?_)
        have hwp := hwp I4 L5 A6 hp
        exact sw_vret hx hb hret hlocks hz hwp dX0_findCommon_156
      · have hwp := hwp.2 q
        refine lv_aload hx hb dX0_findCommon_33 (lv_at hl 5 rfl) ?_
        refine lv_iload hx hb dX0_findCommon_35 (lv_at hl 7 rfl) ?_
        obtain ⟨ho7, hwp⟩ := hwp
        refine sw_tl hx hb hz hgp ho7 dX0_findCommon_37 ?_
        refine lv_topl (fun v8 q_v8 => ?_)
        have hwp := hwp v8 q_v8
        refine lv_lstore (lv' := [(9, .long v8), (0, .ref o0), (1, .ref o1), (2, .ref o2), (3, .ref o3), (4, .long x4), (6, .ref tP), (7, .int x7), (8, .int x8)]) hx hb dX0_findCommon_38 hl (by decide) rfl (fun ls hl => ?_)
        refine lv_aload_n hx hb dX0_findCommon_40 rfl (lv_at hl 1 rfl) ?_
        obtain ⟨hs9, hwp⟩ := hwp
        refine sw_get (C := RX0) (T := TX0) (N := 10) (v := .ref (o0 + 2)) hx hb hts hw0 hown hK hz hs9 rfl 1 (by decide) hw1 (fun _ h9 => h9) rfl dX0_findCommon_41 ?_
        refine lv_lload hx hb dX0_findCommon_44 (lv_at hl 0 rfl) ?_
        obtain ⟨hs10, hwp⟩ := hwp
        obtain ⟨P11, hc12, hwp⟩ := hwp
        refine sw_callv hz (va_runV (As := [.long v8]) (rest := []) ⟨hx, hb, hml, hown, hts⟩ (hc12 hK _) (cwV 1 hts gX0_findCommon_X3_useModulus rfl rfl rfl (by decide +kernel) ⟨Nat.le_of_ble_eq_true rfl, Nat.le_of_ble_eq_true rfl⟩) (hz.preV hK hs10 rfl) rfl rfl hl.1 rfl (lv_room (Nat.le_of_ble_eq_true rfl)) dX0_findCommon_46 ⟨Nat.le_of_ble_eq_true rfl, Nat.le_of_ble_eq_true rfl⟩) (fun I13 L14 A15 H locs hp hz => ?_)
        have hwp := hwp I13 L14 A15 hp
        refine lv_aload_n hx hb dX0_findCommon_49 rfl (lv_at hl 1 rfl) ?_
        refine sw_get (C := RX0) (T := TX0) (N := 10) (v := .ref (o0 + 2)) hx hb hts hw0 hown hK hz hs9 rfl 1 (by decide) hw1 (fun _ h9 => h9) rfl dX0_findCommon_50 ?_
        refine lv_aload_n hx hb dX0_findCommon_53 rfl (lv_at hl 1 rfl) ?_
        refine sw_get (C := RX0) (T := TX0) (N := 10) (v := .ref (o0 + 63)) hx hb hts hw0 hown hK hz hs9 rfl 6 (by decide) hw2 (fun _ h9 => h9) rfl dX0_findCommon_54 ?_
        refine lv_aload_n hx hb dX0_findCommon_57 rfl (lv_at hl 3 rfl) ?_
        obtain ⟨P16, hc17, hwp⟩ := hwp
        refine sw_callv hz (va_runV (As := [.ref (o0 + 63), .ref o2]) (rest := []) ⟨hx, hb, hml, hown, hts⟩ (hc17 hK _) (cwV 2 hts gX0_findCommon_X3_reduce rfl rfl rfl (by decide +kernel) ⟨Nat.le_of_ble_eq_true rfl, Nat.le_of_ble_eq_true rfl⟩) (hz.preV hK hs10 rfl) rfl rfl hl.1 rfl (lv_room (Nat.le_of_ble_eq_true rfl)) dX0_findCommon_58 ⟨Nat.le_of_ble_eq_true rfl, Nat.le_of_ble_eq_true rfl⟩) (fun I18 L19 A20 H locs hp hz => ?_)
        have hwp := hwp I18 L19 A20 hp
        refine lv_aload_n hx hb dX0_findCommon_61 rfl (lv_at hl 1 rfl) ?_
        refine sw_get (C := RX0) (T := TX0) (N := 10) (v := .ref (o0 + 2)) hx hb hts hw0 hown hK hz hs9 rfl 1 (by decide) hw1 (fun _ h9 => h9) rfl dX0_findCommon_62 ?_
        refine lv_aload_n hx hb dX0_findCommon_65 rfl (lv_at hl 1 rfl) ?_
        refine sw_get (C := RX0) (T := TX0) (N := 10) (v := .ref (o0 + 65)) hx hb hts hw0 hown hK hz hs9 rfl 7 (by decide) hw3 (fun _ h9 => h9) rfl dX0_findCommon_66 ?_
        refine lv_aload_n hx hb dX0_findCommon_69 rfl (lv_at hl 4 rfl) ?_
        obtain ⟨P21, hc22, hwp⟩ := hwp
        refine sw_callv hz (va_runV (As := [.ref (o0 + 65), .ref o3]) (rest := []) ⟨hx, hb, hml, hown, hts⟩ (hc22 hK _) (cwV 2 hts gX0_findCommon_X3_reduce rfl rfl rfl (by decide +kernel) ⟨Nat.le_of_ble_eq_true rfl, Nat.le_of_ble_eq_true rfl⟩) (hz.preV hK hs10 rfl) rfl rfl hl.1 rfl (lv_room (Nat.le_of_ble_eq_true rfl)) dX0_findCommon_70 ⟨Nat.le_of_ble_eq_true rfl, Nat.le_of_ble_eq_true rfl⟩) (fun I23 L24 A25 H locs hp hz => ?_)
        have hwp := hwp I23 L24 A25 hp
        refine lv_aload_n hx hb dX0_findCommon_73 rfl (lv_at hl 1 rfl) ?_
        refine sw_get (C := RX0) (T := TX0) (N := 10) (v := .ref (o0 + 2)) hx hb hts hw0 hown hK hz hs9 rfl 1 (by decide) hw1 (fun _ h9 => h9) rfl dX0_findCommon_74 ?_
        refine lv_aload_n hx hb dX0_findCommon_77 rfl (lv_at hl 1 rfl) ?_
        refine sw_get (C := RX0) (T := TX0) (N := 10) (v := .ref (o0 + 67)) hx hb hts hw0 hown hK hz hs9 rfl 8 (by decide) hw4 (fun _ h9 => h9) rfl dX0_findCommon_78 ?_
        refine lv_aload_n hx hb dX0_findCommon_81 rfl (lv_at hl 1 rfl) ?_
        refine sw_get (C := RX0) (T := TX0) (N := 10) (v := .ref (o0 + 63)) hx hb hts hw0 hown hK hz hs9 rfl 6 (by decide) hw2 (fun _ h9 => h9) rfl dX0_findCommon_82 ?_
        refine lv_aload_n hx hb dX0_findCommon_85 rfl (lv_at hl 1 rfl) ?_
        refine sw_get (C := RX0) (T := TX0) (N := 10) (v := .ref (o0 + 65)) hx hb hts hw0 hown hK hz hs9 rfl 7 (by decide) hw3 (fun _ h9 => h9) rfl dX0_findCommon_86 ?_
        obtain ⟨P26, hc27, hwp⟩ := hwp
        refine sw_callv hz (va_runV (As := [.ref (o0 + 67), .ref (o0 + 63), .ref (o0 + 65)]) (rest := []) ⟨hx, hb, hml, hown, hts⟩ (hc27 hK _) (cwV 3 hts gX0_findCommon_X3_findCommon rfl rfl rfl (by decide +kernel) ⟨Nat.le_of_ble_eq_true rfl, Nat.le_of_ble_eq_true rfl⟩) (hz.preV hK hs10 rfl) rfl rfl hl.1 rfl (lv_room (Nat.le_of_ble_eq_true rfl)) dX0_findCommon_89 ⟨Nat.le_of_ble_eq_true rfl, Nat.le_of_ble_eq_true rfl⟩) (fun I28 L29 A30 H locs hp hz => ?_)
        have hwp := hwp I28 L29 A30 hp
        refine lv_aload_n hx hb dX0_findCommon_92 rfl (lv_at hl 1 rfl) ?_
        refine sw_get (C := RX0) (T := TX0) (N := 10) (v := .ref (o0 + 63)) hx hb hts hw0 hown hK hz hs9 rfl 6 (by decide) hw2 (fun _ h9 => h9) rfl dX0_findCommon_93 ?_
        refine lv_aload_n hx hb dX0_findCommon_96 rfl (lv_at hl 1 rfl) ?_
        refine sw_get (C := RX0) (T := TX0) (N := 10) (v := .ref (o0 + 67)) hx hb hts hw0 hown hK hz hs9 rfl 8 (by decide) hw4 (fun _ h9 => h9) rfl dX0_findCommon_97 ?_
        refine lv_lload hx hb dX0_findCommon_100 (lv_at hl 5 rfl) ?_
        refine lv_aload_n hx hb dX0_findCommon_102 rfl (lv_at hl 1 rfl) ?_
        refine sw_get (C := RX0) (T := TX0) (N := 10) (v := .ref (o0 + 67)) hx hb hts hw0 hown hK hz hs9 rfl 8 (by decide) hw4 (fun _ h9 => h9) rfl dX0_findCommon_103 ?_
        refine lv_lconst (v := 0) hx hb dX0_findCommon_106 (by decide) ?_
        obtain ⟨hs31, hwp⟩ := hwp
        obtain ⟨P32, hc33, hwp⟩ := hwp
        refine sw_callv hz (va_runV (As := [.ref (o0 + 67), .long x4, .ref (o0 + 67), .long 0]) (rest := []) ⟨hx, hb, hml, hown, hts⟩ (hc33 hK _) (cwV 4 hts gX0_findCommon_X4_becomeSum rfl rfl rfl (by decide +kernel) ⟨Nat.le_of_ble_eq_true rfl, Nat.le_of_ble_eq_true rfl⟩) (hz.preV hK hs31 rfl) rfl rfl hl.1 rfl (lv_room (Nat.le_of_ble_eq_true rfl)) dX0_findCommon_107 ⟨Nat.le_of_ble_eq_true rfl, Nat.le_of_ble_eq_true rfl⟩) (fun I34 L35 A36 H locs hp hz => ?_)
        have hwp := hwp I34 L35 A36 hp
        refine lv_aload_n hx hb dX0_findCommon_110 rfl (lv_at hl 1 rfl) ?_
        refine sw_get (C := RX0) (T := TX0) (N := 10) (v := .ref (o0 + 2)) hx hb hts hw0 hown hK hz hs9 rfl 1 (by decide) hw1 (fun _ h9 => h9) rfl dX0_findCommon_111 ?_
        refine lv_aload_n hx hb dX0_findCommon_114 rfl (lv_at hl 2 rfl) ?_
        refine lv_aload_n hx hb dX0_findCommon_115 rfl (lv_at hl 1 rfl) ?_
        refine sw_get (C := RX0) (T := TX0) (N := 10) (v := .ref (o0 + 63)) hx hb hts hw0 hown hK hz hs9 rfl 6 (by decide) hw2 (fun _ h9 => h9) rfl dX0_findCommon_116 ?_
        obtain ⟨P37, hc38, hwp⟩ := hwp
        refine sw_callv hz (va_runV (As := [.ref o1, .ref (o0 + 63)]) (rest := []) ⟨hx, hb, hml, hown, hts⟩ (hc38 hK _) (cwV 2 hts gX0_findCommon_X3_lift rfl rfl rfl (by decide +kernel) ⟨Nat.le_of_ble_eq_true rfl, Nat.le_of_ble_eq_true rfl⟩) (hz.preV hK hs10 rfl) rfl rfl hl.1 rfl (lv_room (Nat.le_of_ble_eq_true rfl)) dX0_findCommon_119 ⟨Nat.le_of_ble_eq_true rfl, Nat.le_of_ble_eq_true rfl⟩) (fun I39 L40 A41 H locs hp hz => ?_)
        have hwp := hwp I39 L40 A41 hp
        refine lv_aload_n hx hb dX0_findCommon_122 rfl (lv_at hl 2 rfl) ?_
        obtain ⟨hs42, hwp⟩ := hwp
        obtain ⟨P43, hc44, hwp⟩ := hwp
        refine sw_callv hz (va_runV (As := []) (rest := []) ⟨hx, hb, hml, hown, hts⟩ (hc44 hK _) (cwV 0 hts gX0_findCommon_X4_makePrimitive rfl rfl rfl (by decide +kernel) ⟨Nat.le_of_ble_eq_true rfl, Nat.le_of_ble_eq_true rfl⟩) (hz.preV hK hs42 rfl) rfl rfl hl.1 rfl (lv_room (Nat.le_of_ble_eq_true rfl)) dX0_findCommon_123 ⟨Nat.le_of_ble_eq_true rfl, Nat.le_of_ble_eq_true rfl⟩) (fun I45 L46 A47 H locs hp hz => ?_)
        have hwp := hwp I45 L46 A47 hp
        refine lv_aload_n hx hb dX0_findCommon_126 rfl (lv_at hl 1 rfl) ?_
        refine lv_aload_n hx hb dX0_findCommon_127 rfl (lv_at hl 2 rfl) ?_
        refine lv_aload_n hx hb dX0_findCommon_128 rfl (lv_at hl 3 rfl) ?_
        obtain ⟨P48, hc49, hwp⟩ := hwp
        refine sw_calli hz (va_runV (As := [.ref o1, .ref o2]) (rest := []) ⟨hx, hb, hml, hown, hts⟩ (hc49 hK _) (cwV 2 hts gX0_findCommon_X0_divides rfl rfl rfl (by decide +kernel) ⟨Nat.le_of_ble_eq_true rfl, Nat.le_of_ble_eq_true rfl⟩) (hz.preV hK hs9 rfl) rfl rfl hl.1 rfl (lv_room (Nat.le_of_ble_eq_true rfl)) dX0_findCommon_129 ⟨Nat.le_of_ble_eq_true rfl, Nat.le_of_ble_eq_true rfl⟩) (fun r53 I50 L51 A52 H locs hp hz => ?_)
        have hwp := hwp r53 I50 L51 A52 hp
        refine lv_if_eq (tgt := 145) hx hb dX0_findCommon_132 (by decide) (fun q => ?_) (fun q => ?_)
        · have hwp := hwp.1 q
          obtain ⟨v54, q_v54⟩ : ∃ y : Int32, y = x8 + 1 := ⟨_, rfl⟩
          have hwp := hwp v54 q_v54
          refine lv_iinc (v := v54) (lv' := [(8, .int v54), (9, .long v8), (0, .ref o0), (1, .ref o1), (2, .ref o2), (3, .ref o3), (4, .long x4), (6, .ref tP), (7, .int x7)]) hx hb dX0_findCommon_145 hl (k := 8) rfl (by rw [q_v54]; rfl) (by decide) rfl (fun ls hl => ?_)
          refine lv_goto (tgt := 26) hx hb dX0_findCommon_148 (by decide) ?_
          exact hC26 _ _ _ _ _ _ _ _ _ hwp hz (lv_sub hl [2, 3, 4, 5, 6, 7, 8, 0] rfl)
        · have hwp := hwp.2 q
          refine lv_aload_n hx hb dX0_findCommon_135 rfl (lv_at hl 1 rfl) ?_
          refine lv_aload_n hx hb dX0_findCommon_136 rfl (lv_at hl 2 rfl) ?_
          refine lv_aload_n hx hb dX0_findCommon_137 rfl (lv_at hl 4 rfl) ?_
          obtain ⟨P55, hc56, hwp⟩ := hwp
          refine sw_calli hz (va_runV (As := [.ref o1, .ref o3]) (rest := []) ⟨hx, hb, hml, hown, hts⟩ (hc56 hK _) (cwV 2 hts gX0_findCommon_X0_divides rfl rfl rfl (by decide +kernel) ⟨Nat.le_of_ble_eq_true rfl, Nat.le_of_ble_eq_true rfl⟩) (hz.preV hK hs9 rfl) rfl rfl hl.1 rfl (lv_room (Nat.le_of_ble_eq_true rfl)) dX0_findCommon_138 ⟨Nat.le_of_ble_eq_true rfl, Nat.le_of_ble_eq_true rfl⟩) (fun r60 I57 L58 A59 H locs hp hz => ?_)
          have hwp := hwp r60 I57 L58 A59 hp
          refine lv_if_eq (tgt := 145) hx hb dX0_findCommon_141 (by decide) (fun q => ?_) (fun q => ?_)
          · have hwp := hwp.1 q
            obtain ⟨v61, q_v61⟩ : ∃ y : Int32, y = x8 + 1 := ⟨_, rfl⟩
            have hwp := hwp v61 q_v61
            refine lv_iinc (v := v61) (lv' := [(8, .int v61), (9, .long v8), (0, .ref o0), (1, .ref o1), (2, .ref o2), (3, .ref o3), (4, .long x4), (6, .ref tP), (7, .int x7)]) hx hb dX0_findCommon_145 hl (k := 8) rfl (by rw [q_v61]; rfl) (by decide) rfl (fun ls hl => ?_)
            refine lv_goto (tgt := 26) hx hb dX0_findCommon_148 (by decide) ?_
            exact hC26 _ _ _ _ _ _ _ _ _ hwp hz (lv_sub hl [2, 3, 4, 5, 6, 7, 8, 0] rfl)
          · have hwp := hwp.2 q
            exact sw_vret hx hb hret hlocks hz hwp dX0_findCommon_144
    exact key μ I L A x4 x7 x8 H locs ls hi hz hl
  refine lv_aload_n hx hb dX0_findCommon_0 rfl (lv_at hl 2 rfl) ?_
  obtain ⟨hs62, hwp⟩ := hwp
  obtain ⟨P63, hc64, hwp⟩ := hwp
  refine sw_calll hz (va_runV (As := []) (rest := []) ⟨hx, hb, hml, hown, hts⟩ (hc64 hK _) (cwV 0 hts gX0_findCommon_X4_lead rfl rfl rfl (by decide +kernel) ⟨Nat.le_of_ble_eq_true rfl, Nat.le_of_ble_eq_true rfl⟩) (hz.preV hK hs62 rfl) rfl rfl hl.1 rfl (lv_room (Nat.le_of_ble_eq_true rfl)) dX0_findCommon_1 ⟨Nat.le_of_ble_eq_true rfl, Nat.le_of_ble_eq_true rfl⟩) (fun r68 I65 L66 A67 H locs hp hz => ?_)
  have hwp := hwp r68 I65 L66 A67 hp
  refine lv_aload_n hx hb dX0_findCommon_4 rfl (lv_at hl 3 rfl) ?_
  obtain ⟨hs69, hwp⟩ := hwp
  obtain ⟨P70, hc71, hwp⟩ := hwp
  refine sw_calll hz (va_runV (As := []) (rest := [.long r68]) ⟨hx, hb, hml, hown, hts⟩ (hc71 hK _) (cwV 0 hts gX0_findCommon_X4_lead rfl rfl rfl (by decide +kernel) ⟨Nat.le_of_ble_eq_true rfl, Nat.le_of_ble_eq_true rfl⟩) (hz.preV hK hs69 rfl) rfl rfl hl.1 rfl (lv_room (Nat.le_of_ble_eq_true rfl)) dX0_findCommon_5 ⟨Nat.le_of_ble_eq_true rfl, Nat.le_of_ble_eq_true rfl⟩) (fun r75 I72 L73 A74 H locs hp hz => ?_)
  have hwp := hwp r75 I72 L73 A74 hp
  obtain ⟨P76, hc77, hwp⟩ := hwp
  refine sw_calll hz (va_runSN (As := [.long r68, .long r75]) (rest := []) ⟨hx, hb, hml, hown, hts⟩ (hc77 hK _) ⟨va_cnB 2 hts gX0_findCommon_X6_greatestDivisor_n106 rfl rfl rfl hz.gn.2.2.2.2.2.2.2.2.2.2.2.2.1 hw5 (by decide +kernel) ⟨Nat.le_of_ble_eq_true rfl, Nat.le_of_ble_eq_true rfl⟩, hw6, trivial⟩ hz.preS rfl rfl hl.1 rfl (lv_room (Nat.le_of_ble_eq_true rfl)) dX0_findCommon_8 ⟨Nat.le_of_ble_eq_true rfl, Nat.le_of_ble_eq_true rfl⟩) (fun r81 I78 L79 A80 H locs hp hz => ?_)
  have hwp := hwp r81 I78 L79 A80 hp
  refine lv_lstore (lv' := [(4, .long r81), (0, .ref o0), (1, .ref o1), (2, .ref o2), (3, .ref o3)]) hx hb dX0_findCommon_11 hl (by decide) rfl (fun ls hl => ?_)
  refine sw_gets hx hb hz hgp hown dX0_findCommon_13 ?_
  refine lv_astore (lv' := [(6, .ref tP), (4, .long r81), (0, .ref o0), (1, .ref o1), (2, .ref o2), (3, .ref o3)]) hx hb dX0_findCommon_16 hl (by decide) rfl (fun ls hl => ?_)
  refine lv_aload hx hb dX0_findCommon_18 (lv_at hl 0 rfl) ?_
  refine sw_tlen hx hb hz hgp dX0_findCommon_20 ?_
  refine lv_istore (lv' := [(7, .int 6), (6, .ref tP), (4, .long r81), (0, .ref o0), (1, .ref o1), (2, .ref o2), (3, .ref o3)]) hx hb dX0_findCommon_21 hl (by decide) rfl (fun ls hl => ?_)
  refine lv_iconst (v := 0) hx hb dX0_findCommon_23 (by decide) ?_
  refine lv_istore (lv' := [(8, .int 0), (7, .int 6), (6, .ref tP), (4, .long r81), (0, .ref o0), (1, .ref o1), (2, .ref o2), (3, .ref o3)]) hx hb dX0_findCommon_24 hl (by decide) rfl (fun ls hl => ?_)
  exact wL26 _ _ _ _ _ _ _ _ _ hwp hz (lv_sub hl [4, 5, 6, 7, 3, 2, 1, 0] rfl)

def wp_X0_takeOut_16 (K : Cx) (o0 : Nat) (i1 : Int32) (I : TI) (L : TL) (A : TA) (x2 : Int32) (Q : Int32 → TI → TL → TA → Prop) : Prop := ∃ (Inv : Nat → TI → TL → TA → Int32 → Prop) (μ : Nat), Inv μ I L A x2 ∧ ∀ (μ : Nat) (C16 : TI → TL → TA → Int32 → Prop), (∀ (μ' : Nat) (I : TI) (L : TL) (A : TA) (x2 : Int32) , μ' < μ → Inv μ' I L A x2 → C16 I L A x2) → ∀ (I : TI) (L : TL) (A : TA) (x2 : Int32) , Inv μ I L A x2 → cxS K o0 = shX0 o0 ∧ cxS K (o0 + 1) = shX5 (o0 + 1) ∧ (((I (o0 + 1) 9) ≤ x2 → cxS K (o0 + 2) = shX3 (o0 + 2) ∧ ∃ P4 : TI → TL → TA → Prop, ConV K yX3_lift wsX3_lift 2 63 I L A [.ref (o0 + 2), .ref (o0 + 61), .ref (o0 + 63)] P4 ∧ ∀ (I6 : TI) (L7 : TL) (A8 : TA), P4 I6 L7 A8 → cxS K (o0 + 61) = shX4 (o0 + 61) ∧ ∃ P10 : TI → TL → TA → Prop, ConV K yX4_makePrimitive wsX4_makePrimitive 3 93 I6 L7 A8 [.ref (o0 + 61)] P10 ∧ ∀ (I12 : TI) (L13 : TL) (A14 : TA), P10 I12 L13 A14 → ∃ P15 : Int32 → TI → TL → TA → Prop, ConI K yX0_divides wsX0_divides 3 92 I12 L13 A14 [.ref o0, .ref (o0 + 61), .ref (o0 + 57)] P15 ∧ ∀ (r20 : Int32) (I17 : TI) (L18 : TL) (A19 : TA), P15 r20 I17 L18 A19 → ((r20 = 0 → Q 0 I17 L18 A19) ∧ (¬ r20 = 0 → cxS K (o0 + 69) = shX2 (o0 + 69) ∧ ∃ P22 : TI → TL → TA → Prop, ConV K yX2_append wsX2_append 2 61 I17 L18 A19 [.ref (o0 + 69), .ref (o0 + 61)] P22 ∧ ∀ (I24 : TI) (L25 : TL) (A26 : TA), P22 I24 L25 A26 → cxS K (o0 + 57) = shX4 (o0 + 57) ∧ ∃ P28 : TI → TL → TA → Prop, ConV K yX4_become wsX4_become 1 40 I24 L25 A26 [.ref (o0 + 57), .ref (o0 + 65)] P28 ∧ ∀ (I30 : TI) (L31 : TL) (A32 : TA), P28 I30 L31 A32 → Q 1 I30 L31 A32))) ∧ (¬ (I (o0 + 1) 9) ≤ x2 → ((((i1 >>> (x2 &&& 31)) &&& 1) = 1 → aok (cxS K) ((o0 + 1) + 41) 2 x2 ∧ cxS K (o0 + 67) = shX4 (o0 + 67) ∧ ∃ P36 : TI → TL → TA → Prop, ConV K yX4_becomeProduct wsX4_becomeProduct 1 21 I L A [.ref (o0 + 67), .ref (o0 + 63), .ref (A ((o0 + 1) + 41) (ix x2))] P36 ∧ ∀ (I38 : TI) (L39 : TL) (A40 : TA), P36 I38 L39 A40 → cxS K (o0 + 2) = shX3 (o0 + 2) ∧ ∃ P42 : TI → TL → TA → Prop, ConV K yX3_reduce wsX3_reduce 1 40 I38 L39 A40 [.ref (o0 + 2), .ref (o0 + 63), .ref (o0 + 67)] P42 ∧ ∀ (I44 : TI) (L45 : TL) (A46 : TA), P42 I44 L45 A46 → ∀ v47 : Int32, v47 = x2 + 1 → C16 I44 L45 A46 v47) ∧ (¬ ((i1 >>> (x2 &&& 31)) &&& 1) = 1 → ∀ v33 : Int32, v33 = x2 + 1 → C16 I L A v33))))
def wp_X0_takeOut (K : Cx) (I : TI) (L : TL) (A : TA) (o0 : Nat) (i1 : Int32) (Q : Int32 → TI → TL → TA → Prop) : Prop := cxS K o0 = shX0 o0 ∧ cxS K (o0 + 57) = shX4 (o0 + 57) ∧ ∃ P50 : Int64 → TI → TL → TA → Prop, ConL K yX4_lead wsX4_lead 1 21 I L A [.ref (o0 + 57)] P50 ∧ ∀ (r55 : Int64) (I52 : TI) (L53 : TL) (A54 : TA), P50 r55 I52 L53 A54 → cxS K (o0 + 63) = shX4 (o0 + 63) ∧ ∃ P57 : TI → TL → TA → Prop, ConV K yX4_becomeNumber wsX4_becomeNumber 1 21 I52 L53 A54 [.ref (o0 + 63), .long r55] P57 ∧ ∀ (I59 : TI) (L60 : TL) (A61 : TA), P57 I59 L60 A61 → wp_X0_takeOut_16 K o0 i1 I59 L60 A61 0 Q
set_option maxHeartbeats 1000000 in
set_option maxRecDepth 100000 in
theorem w_X0_takeOut (K : Cx) (I : TI) (L : TL) (A : TA) (o0 : Nat) (i1 : Int32) (Q : Int32 → TI → TL → TA → Prop) (hwp : wp_X0_takeOut K I L A o0 i1 Q) : ConI K yX0_takeOut wsX0_takeOut 4 116 I L A [.ref o0, .int i1] Q := by
  intro hK sz
  refine Met.ofW (cc := cX0_takeOut) (maxL := 3) (ret := (some .boolean)) (by decide) rfl ?_
  intro p e s m args below meth c s₁ B hml hv
  obtain ⟨rfl, hsz, hB⟩ := hv
  have hx := B.exec
  have hb := B.bytes
  have hret := B.returns
  have hts := atoms_spec (ws := wsX0_takeOut) B.pre
  have hown : s.vm.findClass RX0 = some m.cls := findClass_of_methodNamed B.named
  have hlocks := B.notSynchronized
  subst hsz
  have hz : SS K s I L A s.heap [] := PS.start hB
  have hl := lv_entry ([.ref o0, .int i1]) (n := 3) (Nat.le_of_ble_eq_true rfl)
  rw [lg_entry_eq]
  generalize (lg_sl ([.ref o0, .int i1]) ++ List.replicate (3 - (lg_sl ([.ref o0, .int i1])).length) Slot.unset).toArray = ls at hl ⊢
  have hl : lv_has ls 3 [(0, .ref o0), (1, .int i1)] := hl
  have hw0 : ∀ w ∈ u_ws RX0 TX0 10, w ∈ wsX0_takeOut := by decide +kernel
  have hw1 := hts (.fieldLink RX0 12 "GaloisDesk$Factoring" "splitter" "LGaloisDesk$Splitter;") (by decide +kernel)
  have hw2 : ∀ w ∈ u_ws RX5 TX5 10, w ∈ wsX0_takeOut := by decide +kernel
  have hw3 := hts (.fieldLink RX0 149 "GaloisDesk$Splitter" "pieceCount" "I") (by decide +kernel)
  have hw4 := hts (.fieldLink RX0 22 "GaloisDesk$Factoring" "residues" "LGaloisDesk$Residues;") (by decide +kernel)
  have hw5 := hts (.fieldLink RX0 36 "GaloisDesk$Factoring" "shared" "LGaloisDesk$Row;") (by decide +kernel)
  have hw6 := hts (.fieldLink RX0 39 "GaloisDesk$Factoring" "candidate" "LGaloisDesk$Row;") (by decide +kernel)
  have hw7 := hts (.fieldLink RX0 30 "GaloisDesk$Factoring" "rest" "LGaloisDesk$Row;") (by decide +kernel)
  have hw8 := hts (.fieldLink RX0 51 "GaloisDesk$Factoring" "found" "LGaloisDesk$PartList;") (by decide +kernel)
  have hw9 := hts (.fieldLink RX0 42 "GaloisDesk$Factoring" "quotient" "LGaloisDesk$Row;") (by decide +kernel)
  have hw10 := hts (.fieldLink RX0 45 "GaloisDesk$Factoring" "scratch" "LGaloisDesk$Row;") (by decide +kernel)
  have hw11 := hts (.fieldLink RX0 156 "GaloisDesk$Splitter" "pieces" "[LGaloisDesk$Row;") (by decide +kernel)
  clear hB B
  have wL16 : ∀ (I : TI) (L : TL) (A : TA) (x2 : Int32) (H : Heap) (locs : List Loc) (ls : Array Slot), wp_X0_takeOut_16 K o0 i1 I L A x2 Q → SS K s I L A H locs → lv_has ls 3 [(0, .ref o0), (1, .int i1), (2, .int x2)] → W p (cxl K) e (headSpec wsX0_takeOut (rmF 4 116)).room s m ([.ref o0, .int i1] : List Value).toArray below meth c H locs 0 0 (MQ below (cxQi K Q) ([.ref o0, .int i1] : List Value).toArray s 0 0 (PA (cxb K))) (F0 m 16 ls []) := by
    intro I L A x2 H locs ls hwp hz hl
    obtain ⟨Inv, μ, hi, hst⟩ := hwp
    have key : ∀ (μ : Nat) (I : TI) (L : TL) (A : TA) (x2 : Int32) (H : Heap) (locs : List Loc) (ls : Array Slot), Inv μ I L A x2 → SS K s I L A H locs → lv_has ls 3 [(0, .ref o0), (1, .int i1), (2, .int x2)] → W p (cxl K) e (headSpec wsX0_takeOut (rmF 4 116)).room s m ([.ref o0, .int i1] : List Value).toArray below meth c H locs 0 0 (MQ below (cxQi K Q) ([.ref o0, .int i1] : List Value).toArray s 0 0 (PA (cxb K))) (F0 m 16 ls []) := by
      clear hi hz hl
      intro μ
      induction μ using Nat.strongRecOn with | ind μ ih => ?_
      intro I L A x2 H locs ls hi hz hl
      obtain ⟨C16, hCd⟩ : ∃ C : TI → TL → TA → Int32 → Prop, C = fun I L A x2 => ∃ μ', μ' < μ ∧ Inv μ' I L A x2 := ⟨_, rfl⟩
      have hC16 : ∀ (I : TI) (L : TL) (A : TA) (x2 : Int32) (H : Heap) (locs : List Loc) (ls : Array Slot), C16 I L A x2 → SS K s I L A H locs → lv_has ls 3 [(0, .ref o0), (1, .int i1), (2, .int x2)] → W p (cxl K) e (headSpec wsX0_takeOut (rmF 4 116)).room s m ([.ref o0, .int i1] : List Value).toArray below meth c H locs 0 0 (MQ below (cxQi K Q) ([.ref o0, .int i1] : List Value).toArray s 0 0 (PA (cxb K))) (F0 m 16 ls []) := by
        intro I L A x2 H locs ls hc hz hl
        rw [hCd] at hc
        obtain ⟨μ', hlt, hc⟩ := hc
        exact ih μ' hlt I L A x2 H locs ls hc hz hl
      have hwp := hst μ C16 (fun μ' I L A x2 hlt hc => by rw [hCd]; exact ⟨μ', hlt, hc⟩) I L A x2 hi
      refine lv_iload_n hx hb dX0_takeOut_16 rfl (lv_at hl 2 rfl) ?_
      refine lv_aload_n hx hb dX0_takeOut_17 rfl (lv_at hl 0 rfl) ?_
      obtain ⟨hs1, hwp⟩ := hwp
      refine sw_get (C := RX0) (T := TX0) (N := 10) (v := .ref (o0 + 1)) hx hb hts hw0 hown hK hz hs1 rfl 0 (by decide) hw1 (fun _ h9 => h9) rfl dX0_takeOut_18 ?_
      obtain ⟨hs2, hwp⟩ := hwp
      refine sw_get (C := RX5) (T := TX5) (N := 10) (v := .int (I (o0 + 1) 9)) hx hb hts hw2 hown hK hz hs2 rfl 9 (by decide) hw3 (fun _ h9 => h9) rfl dX0_takeOut_21 ?_
      refine lv_icmp_ge (tgt := 77) hx hb dX0_takeOut_24 (by decide) (fun q => ?_) (fun q => ?_)
      · have hwp := hwp.1 q
        refine lv_aload_n hx hb dX0_takeOut_77 rfl (lv_at hl 0 rfl) ?_
        refine sw_get (C := RX0) (T := TX0) (N := 10) (v := .ref (o0 + 2)) hx hb hts hw0 hown hK hz hs1 rfl 1 (by decide) hw4 (fun _ h9 => h9) rfl dX0_takeOut_78 ?_
        refine lv_aload_n hx hb dX0_takeOut_81 rfl (lv_at hl 0 rfl) ?_
        refine sw_get (C := RX0) (T := TX0) (N := 10) (v := .ref (o0 + 61)) hx hb hts hw0 hown hK hz hs1 rfl 5 (by decide) hw5 (fun _ h9 => h9) rfl dX0_takeOut_82 ?_
        refine lv_aload_n hx hb dX0_takeOut_85 rfl (lv_at hl 0 rfl) ?_
        refine sw_get (C := RX0) (T := TX0) (N := 10) (v := .ref (o0 + 63)) hx hb hts hw0 hown hK hz hs1 rfl 6 (by decide) hw6 (fun _ h9 => h9) rfl dX0_takeOut_86 ?_
        obtain ⟨hs3, hwp⟩ := hwp
        obtain ⟨P4, hc5, hwp⟩ := hwp
        refine sw_callv hz (va_runV (As := [.ref (o0 + 61), .ref (o0 + 63)]) (rest := []) ⟨hx, hb, hml, hown, hts⟩ (hc5 hK _) (cwV 2 hts gX0_takeOut_X3_lift rfl rfl rfl (by decide +kernel) ⟨Nat.le_of_ble_eq_true rfl, Nat.le_of_ble_eq_true rfl⟩) (hz.preV hK hs3 rfl) rfl rfl hl.1 rfl (lv_room (Nat.le_of_ble_eq_true rfl)) dX0_takeOut_89 ⟨Nat.le_of_ble_eq_true rfl, Nat.le_of_ble_eq_true rfl⟩) (fun I6 L7 A8 H locs hp hz => ?_)
        have hwp := hwp I6 L7 A8 hp
        refine lv_aload_n hx hb dX0_takeOut_92 rfl (lv_at hl 0 rfl) ?_
        refine sw_get (C := RX0) (T := TX0) (N := 10) (v := .ref (o0 + 61)) hx hb hts hw0 hown hK hz hs1 rfl 5 (by decide) hw5 (fun _ h9 => h9) rfl dX0_takeOut_93 ?_
        obtain ⟨hs9, hwp⟩ := hwp
        obtain ⟨P10, hc11, hwp⟩ := hwp
        refine sw_callv hz (va_runV (As := []) (rest := []) ⟨hx, hb, hml, hown, hts⟩ (hc11 hK _) (cwV 0 hts gX0_takeOut_X4_makePrimitive rfl rfl rfl (by decide +kernel) ⟨Nat.le_of_ble_eq_true rfl, Nat.le_of_ble_eq_true rfl⟩) (hz.preV hK hs9 rfl) rfl rfl hl.1 rfl (lv_room (Nat.le_of_ble_eq_true rfl)) dX0_takeOut_96 ⟨Nat.le_of_ble_eq_true rfl, Nat.le_of_ble_eq_true rfl⟩) (fun I12 L13 A14 H locs hp hz => ?_)
        have hwp := hwp I12 L13 A14 hp
        refine lv_aload_n hx hb dX0_takeOut_99 rfl (lv_at hl 0 rfl) ?_
        refine lv_aload_n hx hb dX0_takeOut_100 rfl (lv_at hl 0 rfl) ?_
        refine sw_get (C := RX0) (T := TX0) (N := 10) (v := .ref (o0 + 61)) hx hb hts hw0 hown hK hz hs1 rfl 5 (by decide) hw5 (fun _ h9 => h9) rfl dX0_takeOut_101 ?_
        refine lv_aload_n hx hb dX0_takeOut_104 rfl (lv_at hl 0 rfl) ?_
        refine sw_get (C := RX0) (T := TX0) (N := 10) (v := .ref (o0 + 57)) hx hb hts hw0 hown hK hz hs1 rfl 3 (by decide) hw7 (fun _ h9 => h9) rfl dX0_takeOut_105 ?_
        obtain ⟨P15, hc16, hwp⟩ := hwp
        refine sw_calli hz (va_runV (As := [.ref (o0 + 61), .ref (o0 + 57)]) (rest := []) ⟨hx, hb, hml, hown, hts⟩ (hc16 hK _) (cwV 2 hts gX0_takeOut_X0_divides rfl rfl rfl (by decide +kernel) ⟨Nat.le_of_ble_eq_true rfl, Nat.le_of_ble_eq_true rfl⟩) (hz.preV hK hs1 rfl) rfl rfl hl.1 rfl (lv_room (Nat.le_of_ble_eq_true rfl)) dX0_takeOut_108 ⟨Nat.le_of_ble_eq_true rfl, Nat.le_of_ble_eq_true rfl⟩) (fun r20 I17 L18 A19 H locs hp hz => ?_)
        have hwp := hwp r20 I17 L18 A19 hp
        refine lv_if_ne (tgt := 116) hx hb dX0_takeOut_111 (by decide) (fun q => ?_) (fun q => ?_)
        · have hwp := hwp.2 q
          refine lv_aload_n hx hb dX0_takeOut_116 rfl (lv_at hl 0 rfl) ?_
          refine sw_get (C := RX0) (T := TX0) (N := 10) (v := .ref (o0 + 69)) hx hb hts hw0 hown hK hz hs1 rfl 9 (by decide) hw8 (fun _ h9 => h9) rfl dX0_takeOut_117 ?_
          refine lv_aload_n hx hb dX0_takeOut_120 rfl (lv_at hl 0 rfl) ?_
          refine sw_get (C := RX0) (T := TX0) (N := 10) (v := .ref (o0 + 61)) hx hb hts hw0 hown hK hz hs1 rfl 5 (by decide) hw5 (fun _ h9 => h9) rfl dX0_takeOut_121 ?_
          obtain ⟨hs21, hwp⟩ := hwp
          obtain ⟨P22, hc23, hwp⟩ := hwp
          refine sw_callv hz (va_runV (As := [.ref (o0 + 61)]) (rest := []) ⟨hx, hb, hml, hown, hts⟩ (hc23 hK _) (cwV 1 hts gX0_takeOut_X2_append rfl rfl rfl (by decide +kernel) ⟨Nat.le_of_ble_eq_true rfl, Nat.le_of_ble_eq_true rfl⟩) (hz.preV hK hs21 rfl) rfl rfl hl.1 rfl (lv_room (Nat.le_of_ble_eq_true rfl)) dX0_takeOut_124 ⟨Nat.le_of_ble_eq_true rfl, Nat.le_of_ble_eq_true rfl⟩) (fun I24 L25 A26 H locs hp hz => ?_)
          have hwp := hwp I24 L25 A26 hp
          refine lv_aload_n hx hb dX0_takeOut_127 rfl (lv_at hl 0 rfl) ?_
          refine sw_get (C := RX0) (T := TX0) (N := 10) (v := .ref (o0 + 57)) hx hb hts hw0 hown hK hz hs1 rfl 3 (by decide) hw7 (fun _ h9 => h9) rfl dX0_takeOut_128 ?_
          refine lv_aload_n hx hb dX0_takeOut_131 rfl (lv_at hl 0 rfl) ?_
          refine sw_get (C := RX0) (T := TX0) (N := 10) (v := .ref (o0 + 65)) hx hb hts hw0 hown hK hz hs1 rfl 7 (by decide) hw9 (fun _ h9 => h9) rfl dX0_takeOut_132 ?_
          obtain ⟨hs27, hwp⟩ := hwp
          obtain ⟨P28, hc29, hwp⟩ := hwp
          refine sw_callv hz (va_runV (As := [.ref (o0 + 65)]) (rest := []) ⟨hx, hb, hml, hown, hts⟩ (hc29 hK _) (cwV 1 hts gX0_takeOut_X4_become rfl rfl rfl (by decide +kernel) ⟨Nat.le_of_ble_eq_true rfl, Nat.le_of_ble_eq_true rfl⟩) (hz.preV hK hs27 rfl) rfl rfl hl.1 rfl (lv_room (Nat.le_of_ble_eq_true rfl)) dX0_takeOut_135 ⟨Nat.le_of_ble_eq_true rfl, Nat.le_of_ble_eq_true rfl⟩) (fun I30 L31 A32 H locs hp hz => ?_)
          have hwp := hwp I30 L31 A32 hp
          refine lv_iconst (v := 1) hx hb dX0_takeOut_138 (by decide) ?_
          exact sw_zret hx hb hret hlocks hz (Or.inr rfl) hwp dX0_takeOut_139
        · have hwp := hwp.1 q
          refine lv_iconst (v := 0) hx hb dX0_takeOut_114 (by decide) ?_
          exact sw_zret hx hb hret hlocks hz (Or.inl rfl) hwp dX0_takeOut_115
      · have hwp := hwp.2 q
        refine lv_iload_n hx hb dX0_takeOut_27 rfl (lv_at hl 1 rfl) ?_
        refine lv_iload_n hx hb dX0_takeOut_28 rfl (lv_at hl 2 rfl) ?_
        refine lv_ishr hx hb dX0_takeOut_29 ?_
        refine lv_iconst (v := 1) hx hb dX0_takeOut_30 (by decide) ?_
        refine lv_iand hx hb dX0_takeOut_31 ?_
        refine lv_iconst (v := 1) hx hb dX0_takeOut_32 (by decide) ?_
        refine lv_icmp_ne (tgt := 71) hx hb dX0_takeOut_33 (by decide) (fun q => ?_) (fun q => ?_)
        · have hwp := hwp.2 q
          obtain ⟨v33, q_v33⟩ : ∃ y : Int32, y = x2 + 1 := ⟨_, rfl⟩
          have hwp := hwp v33 q_v33
          refine lv_iinc (v := v33) (lv' := [(2, .int v33), (0, .ref o0), (1, .int i1)]) hx hb dX0_takeOut_71 hl (k := 2) rfl (by rw [q_v33]; rfl) (by decide) rfl (fun ls hl => ?_)
          refine lv_goto (tgt := 16) hx hb dX0_takeOut_74 (by decide) ?_
          exact hC16 _ _ _ _ _ _ _ hwp hz (lv_sub hl [1, 2, 0] rfl)
        · have hwp := hwp.1 q
          refine lv_aload_n hx hb dX0_takeOut_36 rfl (lv_at hl 0 rfl) ?_
          refine sw_get (C := RX0) (T := TX0) (N := 10) (v := .ref (o0 + 67)) hx hb hts hw0 hown hK hz hs1 rfl 8 (by decide) hw10 (fun _ h9 => h9) rfl dX0_takeOut_37 ?_
          refine lv_aload_n hx hb dX0_takeOut_40 rfl (lv_at hl 0 rfl) ?_
          refine sw_get (C := RX0) (T := TX0) (N := 10) (v := .ref (o0 + 63)) hx hb hts hw0 hown hK hz hs1 rfl 6 (by decide) hw6 (fun _ h9 => h9) rfl dX0_takeOut_41 ?_
          refine lv_aload_n hx hb dX0_takeOut_44 rfl (lv_at hl 0 rfl) ?_
          refine sw_get (C := RX0) (T := TX0) (N := 10) (v := .ref (o0 + 1)) hx hb hts hw0 hown hK hz hs1 rfl 0 (by decide) hw1 (fun _ h9 => h9) rfl dX0_takeOut_45 ?_
          refine sw_get (C := RX5) (T := TX5) (N := 10) (v := .ref ((o0 + 1) + 41)) hx hb hts hw2 hown hK hz hs2 rfl 8 (by decide) hw11 (fun _ h9 => h9) rfl dX0_takeOut_48 ?_
          refine lv_iload_n hx hb dX0_takeOut_51 rfl (lv_at hl 2 rfl) ?_
          obtain ⟨ho34, hwp⟩ := hwp
          refine sw_aald hx hb hK hz ho34 dX0_takeOut_52 ?_
          obtain ⟨hs35, hwp⟩ := hwp
          obtain ⟨P36, hc37, hwp⟩ := hwp
          refine sw_callv hz (va_runV (As := [.ref (o0 + 63), .ref (A ((o0 + 1) + 41) (ix x2))]) (rest := []) ⟨hx, hb, hml, hown, hts⟩ (hc37 hK _) (cwV 2 hts gX0_takeOut_X4_becomeProduct rfl rfl rfl (by decide +kernel) ⟨Nat.le_of_ble_eq_true rfl, Nat.le_of_ble_eq_true rfl⟩) (hz.preV hK hs35 rfl) rfl rfl hl.1 rfl (lv_room (Nat.le_of_ble_eq_true rfl)) dX0_takeOut_53 ⟨Nat.le_of_ble_eq_true rfl, Nat.le_of_ble_eq_true rfl⟩) (fun I38 L39 A40 H locs hp hz => ?_)
          have hwp := hwp I38 L39 A40 hp
          refine lv_aload_n hx hb dX0_takeOut_56 rfl (lv_at hl 0 rfl) ?_
          refine sw_get (C := RX0) (T := TX0) (N := 10) (v := .ref (o0 + 2)) hx hb hts hw0 hown hK hz hs1 rfl 1 (by decide) hw4 (fun _ h9 => h9) rfl dX0_takeOut_57 ?_
          refine lv_aload_n hx hb dX0_takeOut_60 rfl (lv_at hl 0 rfl) ?_
          refine sw_get (C := RX0) (T := TX0) (N := 10) (v := .ref (o0 + 63)) hx hb hts hw0 hown hK hz hs1 rfl 6 (by decide) hw6 (fun _ h9 => h9) rfl dX0_takeOut_61 ?_
          refine lv_aload_n hx hb dX0_takeOut_64 rfl (lv_at hl 0 rfl) ?_
          refine sw_get (C := RX0) (T := TX0) (N := 10) (v := .ref (o0 + 67)) hx hb hts hw0 hown hK hz hs1 rfl 8 (by decide) hw10 (fun _ h9 => h9) rfl dX0_takeOut_65 ?_
          obtain ⟨hs41, hwp⟩ := hwp
          obtain ⟨P42, hc43, hwp⟩ := hwp
          refine sw_callv hz (va_runV (As := [.ref (o0 + 63), .ref (o0 + 67)]) (rest := []) ⟨hx, hb, hml, hown, hts⟩ (hc43 hK _) (cwV 2 hts gX0_takeOut_X3_reduce rfl rfl rfl (by decide +kernel) ⟨Nat.le_of_ble_eq_true rfl, Nat.le_of_ble_eq_true rfl⟩) (hz.preV hK hs41 rfl) rfl rfl hl.1 rfl (lv_room (Nat.le_of_ble_eq_true rfl)) dX0_takeOut_68 ⟨Nat.le_of_ble_eq_true rfl, Nat.le_of_ble_eq_true rfl⟩) (fun I44 L45 A46 H locs hp hz => ?_)
          have hwp := hwp I44 L45 A46 hp
          obtain ⟨v47, q_v47⟩ : ∃ y : Int32, y = x2 + 1 := ⟨_, rfl⟩
          have hwp := hwp v47 q_v47
          refine lv_iinc (v := v47) (lv' := [(2, .int v47), (0, .ref o0), (1, .int i1)]) hx hb dX0_takeOut_71 hl (k := 2) rfl (by rw [q_v47]; rfl) (by decide) rfl (fun ls hl => ?_)
          refine lv_goto (tgt := 16) hx hb dX0_takeOut_74 (by decide) ?_
          exact hC16 _ _ _ _ _ _ _ hwp hz (lv_sub hl [1, 2, 0] rfl)
    exact key μ I L A x2 H locs ls hi hz hl
  refine lv_aload_n hx hb dX0_takeOut_0 rfl (lv_at hl 0 rfl) ?_
  obtain ⟨hs48, hwp⟩ := hwp
  refine sw_get (C := RX0) (T := TX0) (N := 10) (v := .ref (o0 + 63)) hx hb hts hw0 hown hK hz hs48 rfl 6 (by decide) hw6 (fun _ h9 => h9) rfl dX0_takeOut_1 ?_
  refine lv_aload_n hx hb dX0_takeOut_4 rfl (lv_at hl 0 rfl) ?_
  refine sw_get (C := RX0) (T := TX0) (N := 10) (v := .ref (o0 + 57)) hx hb hts hw0 hown hK hz hs48 rfl 3 (by decide) hw7 (fun _ h9 => h9) rfl dX0_takeOut_5 ?_
  obtain ⟨hs49, hwp⟩ := hwp
  obtain ⟨P50, hc51, hwp⟩ := hwp
  refine sw_calll hz (va_runV (As := []) (rest := [.ref (o0 + 63)]) ⟨hx, hb, hml, hown, hts⟩ (hc51 hK _) (cwV 0 hts gX0_takeOut_X4_lead rfl rfl rfl (by decide +kernel) ⟨Nat.le_of_ble_eq_true rfl, Nat.le_of_ble_eq_true rfl⟩) (hz.preV hK hs49 rfl) rfl rfl hl.1 rfl (lv_room (Nat.le_of_ble_eq_true rfl)) dX0_takeOut_8 ⟨Nat.le_of_ble_eq_true rfl, Nat.le_of_ble_eq_true rfl⟩) (fun r55 I52 L53 A54 H locs hp hz => ?_)
  have hwp := hwp r55 I52 L53 A54 hp
  obtain ⟨hs56, hwp⟩ := hwp
  obtain ⟨P57, hc58, hwp⟩ := hwp
  refine sw_callv hz (va_runV (As := [.long r55]) (rest := []) ⟨hx, hb, hml, hown, hts⟩ (hc58 hK _) (cwV 1 hts gX0_takeOut_X4_becomeNumber rfl rfl rfl (by decide +kernel) ⟨Nat.le_of_ble_eq_true rfl, Nat.le_of_ble_eq_true rfl⟩) (hz.preV hK hs56 rfl) rfl rfl hl.1 rfl (lv_room (Nat.le_of_ble_eq_true rfl)) dX0_takeOut_11 ⟨Nat.le_of_ble_eq_true rfl, Nat.le_of_ble_eq_true rfl⟩) (fun I59 L60 A61 H locs hp hz => ?_)
  have hwp := hwp I59 L60 A61 hp
  refine lv_iconst (v := 0) hx hb dX0_takeOut_14 (by decide) ?_
  refine lv_istore_n (lv' := [(2, .int 0), (0, .ref o0), (1, .int i1)]) hx hb dX0_takeOut_15 rfl hl (by decide) rfl (fun ls hl => ?_)
  exact wL16 _ _ _ _ _ _ _ hwp hz (lv_sub hl [1, 2, 0] rfl)

def wp_X0_recombine_4 (K : Cx) (o0 : Nat) (I : TI) (L : TL) (A : TA) (x1 : Int32) (x2 : Int32) (Q : TI → TL → TA → Prop) : Prop := ∃ (Inv : Nat → TI → TL → TA → Int32 → Int32 → Prop) (μ : Nat), Inv μ I L A x1 x2 ∧ ∀ (μ : Nat) (C4 : TI → TL → TA → Int32 → Int32 → Prop), (∀ (μ' : Nat) (I : TI) (L : TL) (A : TA) (x1 : Int32) (x2 : Int32) , μ' < μ → Inv μ' I L A x1 x2 → C4 I L A x1 x2) → ∀ (I : TI) (L : TL) (A : TA) (x1 : Int32) (x2 : Int32) , Inv μ I L A x1 x2 → cxS K o0 = shX0 o0 ∧ cxS K (o0 + 1) = shX5 (o0 + 1) ∧ (((1 <<< ((I (o0 + 1) 9) &&& 31)) ≤ x2 → Q I L A) ∧ (¬ (1 <<< ((I (o0 + 1) 9) &&& 31)) ≤ x2 → (((x2 &&& x1) = 0 → ∃ P4 : Int32 → TI → TL → TA → Prop, ConI K yX0_takeOut wsX0_takeOut 4 116 I L A [.ref o0, .int x2] P4 ∧ ∀ (r9 : Int32) (I6 : TI) (L7 : TL) (A8 : TA), P4 r9 I6 L7 A8 → ((r9 = 0 → ∀ v10 : Int32, v10 = x2 + 1 → C4 I6 L7 A8 x1 v10) ∧ (¬ r9 = 0 → ∀ v11 : Int32, v11 = (x1 ||| x2) → ∀ v12 : Int32, v12 = x2 + 1 → C4 I6 L7 A8 v11 v12))) ∧ (¬ (x2 &&& x1) = 0 → ∀ v3 : Int32, v3 = x2 + 1 → C4 I L A x1 v3))))
def wp_X0_recombine (K : Cx) (I : TI) (L : TL) (A : TA) (o0 : Nat) (Q : TI → TL → TA → Prop) : Prop := wp_X0_recombine_4 K o0 I L A 0 1 Q
set_option maxHeartbeats 1000000 in
set_option maxRecDepth 100000 in
theorem w_X0_recombine (K : Cx) (I : TI) (L : TL) (A : TA) (o0 : Nat) (Q : TI → TL → TA → Prop) (hwp : wp_X0_recombine K I L A o0 Q) : ConV K yX0_recombine wsX0_recombine 5 138 I L A [.ref o0] Q := by
  intro hK sz
  refine Met.ofW (cc := cX0_recombine) (maxL := 3) (ret := none) (by decide) rfl ?_
  intro p e s m args below meth c s₁ B hml hv
  obtain ⟨rfl, hsz, hB⟩ := hv
  have hx := B.exec
  have hb := B.bytes
  have hret := B.returns
  have hts := atoms_spec (ws := wsX0_recombine) B.pre
  have hown : s.vm.findClass RX0 = some m.cls := findClass_of_methodNamed B.named
  have hlocks := B.notSynchronized
  subst hsz
  have hz : SS K s I L A s.heap [] := PS.start hB
  have hl := lv_entry ([.ref o0]) (n := 3) (Nat.le_of_ble_eq_true rfl)
  rw [lg_entry_eq]
  generalize (lg_sl ([.ref o0]) ++ List.replicate (3 - (lg_sl ([.ref o0])).length) Slot.unset).toArray = ls at hl ⊢
  have hl : lv_has ls 3 [(0, .ref o0)] := hl
  have hw0 : ∀ w ∈ u_ws RX0 TX0 10, w ∈ wsX0_recombine := by decide +kernel
  have hw1 := hts (.fieldLink RX0 12 "GaloisDesk$Factoring" "splitter" "LGaloisDesk$Splitter;") (by decide +kernel)
  have hw2 : ∀ w ∈ u_ws RX5 TX5 10, w ∈ wsX0_recombine := by decide +kernel
  have hw3 := hts (.fieldLink RX0 149 "GaloisDesk$Splitter" "pieceCount" "I") (by decide +kernel)
  clear hB B
  have wL4 : ∀ (I : TI) (L : TL) (A : TA) (x1 : Int32) (x2 : Int32) (H : Heap) (locs : List Loc) (ls : Array Slot), wp_X0_recombine_4 K o0 I L A x1 x2 Q → SS K s I L A H locs → lv_has ls 3 [(0, .ref o0), (1, .int x1), (2, .int x2)] → W p (cxl K) e (headSpec wsX0_recombine (rmF 5 138)).room s m ([.ref o0] : List Value).toArray below meth c H locs 0 0 (MQ below (cxQv K Q) ([.ref o0] : List Value).toArray s 0 0 (PA (cxb K))) (F0 m 4 ls []) := by
    intro I L A x1 x2 H locs ls hwp hz hl
    obtain ⟨Inv, μ, hi, hst⟩ := hwp
    have key : ∀ (μ : Nat) (I : TI) (L : TL) (A : TA) (x1 : Int32) (x2 : Int32) (H : Heap) (locs : List Loc) (ls : Array Slot), Inv μ I L A x1 x2 → SS K s I L A H locs → lv_has ls 3 [(0, .ref o0), (1, .int x1), (2, .int x2)] → W p (cxl K) e (headSpec wsX0_recombine (rmF 5 138)).room s m ([.ref o0] : List Value).toArray below meth c H locs 0 0 (MQ below (cxQv K Q) ([.ref o0] : List Value).toArray s 0 0 (PA (cxb K))) (F0 m 4 ls []) := by
      clear hi hz hl
      intro μ
      induction μ using Nat.strongRecOn with | ind μ ih => ?_
      intro I L A x1 x2 H locs ls hi hz hl
      obtain ⟨C4, hCd⟩ : ∃ C : TI → TL → TA → Int32 → Int32 → Prop, C = fun I L A x1 x2 => ∃ μ', μ' < μ ∧ Inv μ' I L A x1 x2 := ⟨_, rfl⟩
      have hC4 : ∀ (I : TI) (L : TL) (A : TA) (x1 : Int32) (x2 : Int32) (H : Heap) (locs : List Loc) (ls : Array Slot), C4 I L A x1 x2 → SS K s I L A H locs → lv_has ls 3 [(0, .ref o0), (1, .int x1), (2, .int x2)] → W p (cxl K) e (headSpec wsX0_recombine (rmF 5 138)).room s m ([.ref o0] : List Value).toArray below meth c H locs 0 0 (MQ below (cxQv K Q) ([.ref o0] : List Value).toArray s 0 0 (PA (cxb K))) (F0 m 4 ls []) := by
        intro I L A x1 x2 H locs ls hc hz hl
        rw [hCd] at hc
        obtain ⟨μ', hlt, hc⟩ := hc
        exact ih μ' hlt I L A x1 x2 H locs ls hc hz hl
      have hwp := hst μ C4 (fun μ' I L A x1 x2 hlt hc => by rw [hCd]; exact ⟨μ', hlt, hc⟩) I L A x1 x2 hi
      refine lv_iload_n hx hb dX0_recombine_4 rfl (lv_at hl 2 rfl) ?_
      refine lv_iconst (v := 1) hx hb dX0_recombine_5 (by decide) ?_
      refine lv_aload_n hx hb dX0_recombine_6 rfl (lv_at hl 0 rfl) ?_
      obtain ⟨hs1, hwp⟩ := hwp
      refine sw_get (C := RX0) (T := TX0) (N := 10) (v := .ref (o0 + 1)) hx hb hts hw0 hown hK hz hs1 rfl 0 (by decide) hw1 (fun _ h9 => h9) rfl dX0_recombine_7 ?_
      obtain ⟨hs2, hwp⟩ := hwp
      refine sw_get (C := RX5) (T := TX5) (N := 10) (v := .int (I (o0 + 1) 9)) hx hb hts hw2 hown hK hz hs2 rfl 9 (by decide) hw3 (fun _ h9 => h9) rfl dX0_recombine_10 ?_
      refine lv_ishl hx hb dX0_recombine_13 ?_
      refine lv_icmp_ge (tgt := 41) hx hb dX0_recombine_14 (by decide) (fun q => ?_) (fun q => ?_)
      · have hwp := hwp.1 q
        exact sw_vret hx hb hret hlocks hz hwp dX0_recombine_41
      · have hwp := hwp.2 q
        refine lv_iload_n hx hb dX0_recombine_17 rfl (lv_at hl 2 rfl) ?_
        refine lv_iload_n hx hb dX0_recombine_18 rfl (lv_at hl 1 rfl) ?_
        refine lv_iand hx hb dX0_recombine_19 ?_
        refine lv_if_ne (tgt := 35) hx hb dX0_recombine_20 (by decide) (fun q => ?_) (fun q => ?_)
        · have hwp := hwp.2 q
          obtain ⟨v3, q_v3⟩ : ∃ y : Int32, y = x2 + 1 := ⟨_, rfl⟩
          have hwp := hwp v3 q_v3
          refine lv_iinc (v := v3) (lv' := [(2, .int v3), (0, .ref o0), (1, .int x1)]) hx hb dX0_recombine_35 hl (k := 2) rfl (by rw [q_v3]; rfl) (by decide) rfl (fun ls hl => ?_)
          refine lv_goto (tgt := 4) hx hb dX0_recombine_38 (by decide) ?_
          exact hC4 _ _ _ _ _ _ _ _ hwp hz (lv_sub hl [1, 2, 0] rfl)
        · have hwp := hwp.1 q
          refine lv_aload_n hx hb dX0_recombine_23 rfl (lv_at hl 0 rfl) ?_
          refine lv_iload_n hx hb dX0_recombine_24 rfl (lv_at hl 2 rfl) ?_
          obtain ⟨P4, hc5, hwp⟩ := hwp
          refine sw_calli hz (va_runV (As := [.int x2]) (rest := []) ⟨hx, hb, hml, hown, hts⟩ (hc5 hK _) (cwV 1 hts gX0_recombine_X0_takeOut rfl rfl rfl (by decide +kernel) ⟨Nat.le_of_ble_eq_true rfl, Nat.le_of_ble_eq_true rfl⟩) (hz.preV hK hs1 rfl) rfl rfl hl.1 rfl (lv_room (Nat.le_of_ble_eq_true rfl)) dX0_recombine_25 ⟨Nat.le_of_ble_eq_true rfl, Nat.le_of_ble_eq_true rfl⟩) (fun r9 I6 L7 A8 H locs hp hz => ?_)
          have hwp := hwp r9 I6 L7 A8 hp
          refine lv_if_eq (tgt := 35) hx hb dX0_recombine_28 (by decide) (fun q => ?_) (fun q => ?_)
          · have hwp := hwp.1 q
            obtain ⟨v10, q_v10⟩ : ∃ y : Int32, y = x2 + 1 := ⟨_, rfl⟩
            have hwp := hwp v10 q_v10
            refine lv_iinc (v := v10) (lv' := [(2, .int v10), (0, .ref o0), (1, .int x1)]) hx hb dX0_recombine_35 hl (k := 2) rfl (by rw [q_v10]; rfl) (by decide) rfl (fun ls hl => ?_)
            refine lv_goto (tgt := 4) hx hb dX0_recombine_38 (by decide) ?_
            exact hC4 _ _ _ _ _ _ _ _ hwp hz (lv_sub hl [1, 2, 0] rfl)
          · have hwp := hwp.2 q
            refine lv_iload_n hx hb dX0_recombine_31 rfl (lv_at hl 1 rfl) ?_
            refine lv_iload_n hx hb dX0_recombine_32 rfl (lv_at hl 2 rfl) ?_
            refine lv_ior hx hb dX0_recombine_33 ?_
            refine lv_topi (fun v11 q_v11 => ?_)
            have hwp := hwp v11 q_v11
            refine lv_istore_n (lv' := [(1, .int v11), (0, .ref o0), (2, .int x2)]) hx hb dX0_recombine_34 rfl hl (by decide) rfl (fun ls hl => ?_)
            obtain ⟨v12, q_v12⟩ : ∃ y : Int32, y = x2 + 1 := ⟨_, rfl⟩
            have hwp := hwp v12 q_v12
            refine lv_iinc (v := v12) (lv' := [(2, .int v12), (1, .int v11), (0, .ref o0)]) hx hb dX0_recombine_35 hl (k := 2) rfl (by rw [q_v12]; rfl) (by decide) rfl (fun ls hl => ?_)
            refine lv_goto (tgt := 4) hx hb dX0_recombine_38 (by decide) ?_
            exact hC4 _ _ _ _ _ _ _ _ hwp hz (lv_sub hl [2, 1, 0] rfl)
    exact key μ I L A x1 x2 H locs ls hi hz hl
  refine lv_iconst (v := 0) hx hb dX0_recombine_0 (by decide) ?_
  refine lv_istore_n (lv' := [(1, .int 0), (0, .ref o0)]) hx hb dX0_recombine_1 rfl hl (by decide) rfl (fun ls hl => ?_)
  refine lv_iconst (v := 1) hx hb dX0_recombine_2 (by decide) ?_
  refine lv_istore_n (lv' := [(2, .int 1), (1, .int 0), (0, .ref o0)]) hx hb dX0_recombine_3 rfl hl (by decide) rfl (fun ls hl => ?_)
  exact wL4 _ _ _ _ _ _ _ _ hwp hz (lv_sub hl [2, 1, 0] rfl)

def wp_X0_takeApart_96 (K : Cx) (o0 : Nat) (o1 : Nat) (I : TI) (L : TL) (A : TA) (x2 : Int32) (Q : TI → TL → TA → Prop) : Prop := ∃ (Inv : Nat → TI → TL → TA → Int32 → Prop) (μ : Nat), Inv μ I L A x2 ∧ ∀ (μ : Nat) (C96 : TI → TL → TA → Int32 → Prop), (∀ (μ' : Nat) (I : TI) (L : TL) (A : TA) (x2 : Int32) , μ' < μ → Inv μ' I L A x2 → C96 I L A x2) → ∀ (I : TI) (L : TL) (A : TA) (x2 : Int32) , Inv μ I L A x2 → ((6 < x2 → cxS K o0 = shX0 o0 ∧ ∃ P2 : TI → TL → TA → Prop, ConV K yX0_recombine wsX0_recombine 5 138 I L A [.ref o0] P2 ∧ ∀ (I4 : TI) (L5 : TL) (A6 : TA), P2 I4 L5 A6 → ∃ P7 : TI → TL → TA → Prop, ConV K yX0_countEach wsX0_countEach 3 92 I4 L5 A6 [.ref o0] P7 ∧ ∀ (I9 : TI) (L10 : TL) (A11 : TA), P7 I9 L10 A11 → cxS K (o0 + 69) = shX2 (o0 + 69) ∧ ∃ P13 : TI → TL → TA → Prop, ConV K yX2_sort wsX2_sort 2 45 I9 L10 A11 [.ref (o0 + 69)] P13 ∧ ∀ (I15 : TI) (L16 : TL) (A17 : TA), P13 I15 L16 A17 → Q I15 L16 A17) ∧ (¬ 6 < x2 → cxS K o0 = shX0 o0 ∧ cxS K (o0 + 1) = shX5 (o0 + 1) ∧ ∃ P20 : TI → TL → TA → Prop, ConV K yX5_separate wsX5_separate 5 118 I L A [.ref (o0 + 1), .int x2] P20 ∧ ∀ (I22 : TI) (L23 : TL) (A24 : TA), P20 I22 L23 A24 → ∀ v25 : Int32, v25 = x2 + 1 → C96 I22 L23 A24 v25))
def wp_X0_takeApart (K : Cx) (I : TI) (L : TL) (A : TA) (o0 : Nat) (o1 : Nat) (Q : TI → TL → TA → Prop) : Prop := cxS K o0 = shX0 o0 ∧ cxS K o1 = shX4 o1 ∧ ∃ P28 : Int64 → TI → TL → TA → Prop, ConL K yX4_signedMeasure wsX4_signedMeasure 2 70 I L A [.ref o1] P28 ∧ ∀ (r33 : Int64) (I30 : TI) (L31 : TL) (A32 : TA), P28 r33 I30 L31 A32 → cxS K (o0 + 69) = shX2 (o0 + 69) ∧ ∃ P35 : TI → TL → TA → Prop, ConV K yX2_begin wsX2_begin 0 0 I30 L31 A32 [.ref (o0 + 69), .int (Int64.toInt32 r33)] P35 ∧ ∀ (I37 : TI) (L38 : TL) (A39 : TA), P35 I37 L38 A39 → ((1 ≤ (I37 o1 1) → cxS K (o0 + 55) = shX4 (o0 + 55) ∧ ∃ P41 : TI → TL → TA → Prop, ConV K yX4_become wsX4_become 1 40 I37 L38 A39 [.ref (o0 + 55), .ref o1] P41 ∧ ∀ (I43 : TI) (L44 : TL) (A45 : TA), P41 I43 L44 A45 → ∃ P46 : TI → TL → TA → Prop, ConV K yX4_makePrimitive wsX4_makePrimitive 3 93 I43 L44 A45 [.ref (o0 + 55)] P46 ∧ ∀ (I48 : TI) (L49 : TL) (A50 : TA), P46 I48 L49 A50 → cxS K (o0 + 59) = shX4 (o0 + 59) ∧ ∃ P52 : TI → TL → TA → Prop, ConV K yX4_becomeSlope wsX4_becomeSlope 1 21 I48 L49 A50 [.ref (o0 + 59), .ref (o0 + 55)] P52 ∧ ∀ (I54 : TI) (L55 : TL) (A56 : TA), P52 I54 L55 A56 → ∃ P57 : TI → TL → TA → Prop, ConV K yX0_findCommon wsX0_findCommon 4 116 I54 L55 A56 [.ref o0, .ref (o0 + 61), .ref (o0 + 55), .ref (o0 + 59)] P57 ∧ ∀ (I59 : TI) (L60 : TL) (A61 : TA), P57 I59 L60 A61 → cxS K (o0 + 57) = shX4 (o0 + 57) ∧ ∃ P63 : Int32 → TI → TL → TA → Prop, ConI K yX4_becomeQuotient wsX4_becomeQuotient 2 61 I59 L60 A61 [.ref (o0 + 57), .ref (o0 + 55), .ref (o0 + 61), .ref (o0 + 67)] P63 ∧ ∀ (r68 : Int32) (I65 : TI) (L66 : TL) (A67 : TA), P63 r68 I65 L66 A67 → ∃ P69 : TI → TL → TA → Prop, ConV K yX0_chooseModulus wsX0_chooseModulus 5 115 I65 L66 A67 [.ref o0] P69 ∧ ∀ (I71 : TI) (L72 : TL) (A73 : TA), P69 I71 L72 A73 → cxS K (o0 + 1) = shX5 (o0 + 1) ∧ ∃ P75 : TI → TL → TA → Prop, ConV K yX5_groupByDegrees wsX5_groupByDegrees 4 115 I71 L72 A73 [.ref (o0 + 1)] P75 ∧ ∀ (I77 : TI) (L78 : TL) (A79 : TA), P75 I77 L78 A79 → wp_X0_takeApart_96 K o0 o1 I77 L78 A79 1 Q) ∧ (¬ 1 ≤ (I37 o1 1) → Q I37 L38 A39))
set_option maxHeartbeats 1000000 in
set_option maxRecDepth 100000 in
theorem w_X0_takeApart (K : Cx) (I : TI) (L : TL) (A : TA) (o0 : Nat) (o1 : Nat) (Q : TI → TL → TA → Prop) (hwp : wp_X0_takeApart K I L A o0 o1 Q) : ConV K yX0_takeApart wsX0_takeApart 6 160 I L A [.ref o0, .ref o1] Q := by
  intro hK sz
  refine Met.ofW (cc := cX0_takeApart) (maxL := 3) (ret := none) (by decide) rfl ?_
  intro p e s m args below meth c s₁ B hml hv
  obtain ⟨rfl, hsz, hB⟩ := hv
  have hx := B.exec
  have hb := B.bytes
  have hret := B.returns
  have hts := atoms_spec (ws := wsX0_takeApart) B.pre
  have hown : s.vm.findClass RX0 = some m.cls := findClass_of_methodNamed B.named
  have hlocks := B.notSynchronized
  subst hsz
  have hz : SS K s I L A s.heap [] := PS.start hB
  have hl := lv_entry ([.ref o0, .ref o1]) (n := 3) (Nat.le_of_ble_eq_true rfl)
  rw [lg_entry_eq]
  generalize (lg_sl ([.ref o0, .ref o1]) ++ List.replicate (3 - (lg_sl ([.ref o0, .ref o1])).length) Slot.unset).toArray = ls at hl ⊢
  have hl : lv_has ls 3 [(0, .ref o0), (1, .ref o1)] := hl
  have hw0 : ∀ w ∈ u_ws RX0 TX0 10, w ∈ wsX0_takeApart := by decide +kernel
  have hw1 := hts (.fieldLink RX0 51 "GaloisDesk$Factoring" "found" "LGaloisDesk$PartList;") (by decide +kernel)
  have hw2 := hts (.fieldLink RX0 12 "GaloisDesk$Factoring" "splitter" "LGaloisDesk$Splitter;") (by decide +kernel)
  have hw3 : ∀ w ∈ u_ws RX4 TX4 2, w ∈ wsX0_takeApart := by decide +kernel
  have hw4 := hts (.fieldLink RX0 63 "GaloisDesk$Row" "top" "I") (by decide +kernel)
  have hw5 := hts (.fieldLink RX0 26 "GaloisDesk$Factoring" "body" "LGaloisDesk$Row;") (by decide +kernel)
  have hw6 := hts (.fieldLink RX0 33 "GaloisDesk$Factoring" "slope" "LGaloisDesk$Row;") (by decide +kernel)
  have hw7 := hts (.fieldLink RX0 36 "GaloisDesk$Factoring" "shared" "LGaloisDesk$Row;") (by decide +kernel)
  have hw8 := hts (.fieldLink RX0 30 "GaloisDesk$Factoring" "rest" "LGaloisDesk$Row;") (by decide +kernel)
  have hw9 := hts (.fieldLink RX0 45 "GaloisDesk$Factoring" "scratch" "LGaloisDesk$Row;") (by decide +kernel)
  clear hB B
  have wL96 : ∀ (I : TI) (L : TL) (A : TA) (x2 : Int32) (H : Heap) (locs : List Loc) (ls : Array Slot), wp_X0_takeApart_96 K o0 o1 I L A x2 Q → SS K s I L A H locs → lv_has ls 3 [(0, .ref o0), (2, .int x2)] → W p (cxl K) e (headSpec wsX0_takeApart (rmF 6 160)).room s m ([.ref o0, .ref o1] : List Value).toArray below meth c H locs 0 0 (MQ below (cxQv K Q) ([.ref o0, .ref o1] : List Value).toArray s 0 0 (PA (cxb K))) (F0 m 96 ls []) := by
    intro I L A x2 H locs ls hwp hz hl
    obtain ⟨Inv, μ, hi, hst⟩ := hwp
    have key : ∀ (μ : Nat) (I : TI) (L : TL) (A : TA) (x2 : Int32) (H : Heap) (locs : List Loc) (ls : Array Slot), Inv μ I L A x2 → SS K s I L A H locs → lv_has ls 3 [(0, .ref o0), (2, .int x2)] → W p (cxl K) e (headSpec wsX0_takeApart (rmF 6 160)).room s m ([.ref o0, .ref o1] : List Value).toArray below meth c H locs 0 0 (MQ below (cxQv K Q) ([.ref o0, .ref o1] : List Value).toArray s 0 0 (PA (cxb K))) (F0 m 96 ls []) := by
      clear hi hz hl
      intro μ
      induction μ using Nat.strongRecOn with | ind μ ih => ?_
      intro I L A x2 H locs ls hi hz hl
      obtain ⟨C96, hCd⟩ : ∃ C : TI → TL → TA → Int32 → Prop, C = fun I L A x2 => ∃ μ', μ' < μ ∧ Inv μ' I L A x2 := ⟨_, rfl⟩
      have hC96 : ∀ (I : TI) (L : TL) (A : TA) (x2 : Int32) (H : Heap) (locs : List Loc) (ls : Array Slot), C96 I L A x2 → SS K s I L A H locs → lv_has ls 3 [(0, .ref o0), (2, .int x2)] → W p (cxl K) e (headSpec wsX0_takeApart (rmF 6 160)).room s m ([.ref o0, .ref o1] : List Value).toArray below meth c H locs 0 0 (MQ below (cxQv K Q) ([.ref o0, .ref o1] : List Value).toArray s 0 0 (PA (cxb K))) (F0 m 96 ls []) := by
        intro I L A x2 H locs ls hc hz hl
        rw [hCd] at hc
        obtain ⟨μ', hlt, hc⟩ := hc
        exact ih μ' hlt I L A x2 H locs ls hc hz hl
      have hwp := hst μ C96 (fun μ' I L A x2 hlt hc => by rw [hCd]; exact ⟨μ', hlt, hc⟩) I L A x2 hi
      refine lv_iload_n hx hb dX0_takeApart_96 rfl (lv_at hl 1 rfl) ?_
      refine lv_bipush (v := 6) hx hb dX0_takeApart_97 (by decide) ?_
      refine lv_icmp_gt (tgt := 116) hx hb dX0_takeApart_99 (by decide) (fun q => ?_) (fun q => ?_)
      · have hwp := hwp.1 q
        refine lv_aload_n hx hb dX0_takeApart_116 rfl (lv_at hl 0 rfl) ?_
        obtain ⟨hs1, hwp⟩ := hwp
        obtain ⟨P2, hc3, hwp⟩ := hwp
        refine sw_callv hz (va_runV (As := []) (rest := []) ⟨hx, hb, hml, hown, hts⟩ (hc3 hK _) (cwV 0 hts gX0_takeApart_X0_recombine rfl rfl rfl (by decide +kernel) ⟨Nat.le_of_ble_eq_true rfl, Nat.le_of_ble_eq_true rfl⟩) (hz.preV hK hs1 rfl) rfl rfl hl.1 rfl (lv_room (Nat.le_of_ble_eq_true rfl)) dX0_takeApart_117 ⟨Nat.le_of_ble_eq_true rfl, Nat.le_of_ble_eq_true rfl⟩) (fun I4 L5 A6 H locs hp hz => ?_)
        have hwp := hwp I4 L5 A6 hp
        refine lv_aload_n hx hb dX0_takeApart_120 rfl (lv_at hl 0 rfl) ?_
        obtain ⟨P7, hc8, hwp⟩ := hwp
        refine sw_callv hz (va_runV (As := []) (rest := []) ⟨hx, hb, hml, hown, hts⟩ (hc8 hK _) (cwV 0 hts gX0_takeApart_X0_countEach rfl rfl rfl (by decide +kernel) ⟨Nat.le_of_ble_eq_true rfl, Nat.le_of_ble_eq_true rfl⟩) (hz.preV hK hs1 rfl) rfl rfl hl.1 rfl (lv_room (Nat.le_of_ble_eq_true rfl)) dX0_takeApart_121 ⟨Nat.le_of_ble_eq_true rfl, Nat.le_of_ble_eq_true rfl⟩) (fun I9 L10 A11 H locs hp hz => ?_)
        have hwp := hwp I9 L10 A11 hp
        refine lv_aload_n hx hb dX0_takeApart_124 rfl (lv_at hl 0 rfl) ?_
        refine sw_get (C := RX0) (T := TX0) (N := 10) (v := .ref (o0 + 69)) hx hb hts hw0 hown hK hz hs1 rfl 9 (by decide) hw1 (fun _ h9 => h9) rfl dX0_takeApart_125 ?_
        obtain ⟨hs12, hwp⟩ := hwp
        obtain ⟨P13, hc14, hwp⟩ := hwp
        refine sw_callv hz (va_runV (As := []) (rest := []) ⟨hx, hb, hml, hown, hts⟩ (hc14 hK _) (cwV 0 hts gX0_takeApart_X2_sort rfl rfl rfl (by decide +kernel) ⟨Nat.le_of_ble_eq_true rfl, Nat.le_of_ble_eq_true rfl⟩) (hz.preV hK hs12 rfl) rfl rfl hl.1 rfl (lv_room (Nat.le_of_ble_eq_true rfl)) dX0_takeApart_128 ⟨Nat.le_of_ble_eq_true rfl, Nat.le_of_ble_eq_true rfl⟩) (fun I15 L16 A17 H locs hp hz => ?_)
        have hwp := hwp I15 L16 A17 hp
        exact sw_vret hx hb hret hlocks hz hwp dX0_takeApart_131
      · have hwp := hwp.2 q
        refine lv_aload_n hx hb dX0_takeApart_102 rfl (lv_at hl 0 rfl) ?_
        obtain ⟨hs18, hwp⟩ := hwp
        refine sw_get (C := RX0) (T := TX0) (N := 10) (v := .ref (o0 + 1)) hx hb hts hw0 hown hK hz hs18 rfl 0 (by decide) hw2 (fun _ h9 => h9) rfl dX0_takeApart_103 ?_
        refine lv_iload_n hx hb dX0_takeApart_106 rfl (lv_at hl 1 rfl) ?_
        obtain ⟨hs19, hwp⟩ := hwp
        obtain ⟨P20, hc21, hwp⟩ := hwp
        refine sw_callv hz (va_runV (As := [.int x2]) (rest := []) ⟨hx, hb, hml, hown, hts⟩ (hc21 hK _) (cwV 1 hts gX0_takeApart_X5_separate rfl rfl rfl (by decide +kernel) ⟨Nat.le_of_ble_eq_true rfl, Nat.le_of_ble_eq_true rfl⟩) (hz.preV hK hs19 rfl) rfl rfl hl.1 rfl (lv_room (Nat.le_of_ble_eq_true rfl)) dX0_takeApart_107 ⟨Nat.le_of_ble_eq_true rfl, Nat.le_of_ble_eq_true rfl⟩) (fun I22 L23 A24 H locs hp hz => ?_)
        have hwp := hwp I22 L23 A24 hp
        obtain ⟨v25, q_v25⟩ : ∃ y : Int32, y = x2 + 1 := ⟨_, rfl⟩
        have hwp := hwp v25 q_v25
        refine lv_iinc (v := v25) (lv' := [(2, .int v25), (0, .ref o0)]) hx hb dX0_takeApart_110 hl (k := 1) rfl (by rw [q_v25]; rfl) (by decide) rfl (fun ls hl => ?_)
        refine lv_goto (tgt := 96) hx hb dX0_takeApart_113 (by decide) ?_
        exact hC96 _ _ _ _ _ _ _ hwp hz (lv_sub hl [1, 0] rfl)
    exact key μ I L A x2 H locs ls hi hz hl
  refine lv_aload_n hx hb dX0_takeApart_0 rfl (lv_at hl 0 rfl) ?_
  obtain ⟨hs26, hwp⟩ := hwp
  refine sw_get (C := RX0) (T := TX0) (N := 10) (v := .ref (o0 + 69)) hx hb hts hw0 hown hK hz hs26 rfl 9 (by decide) hw1 (fun _ h9 => h9) rfl dX0_takeApart_1 ?_
  refine lv_aload_n hx hb dX0_takeApart_4 rfl (lv_at hl 1 rfl) ?_
  obtain ⟨hs27, hwp⟩ := hwp
  obtain ⟨P28, hc29, hwp⟩ := hwp
  refine sw_calll hz (va_runV (As := []) (rest := [.ref (o0 + 69)]) ⟨hx, hb, hml, hown, hts⟩ (hc29 hK _) (cwV 0 hts gX0_takeApart_X4_signedMeasure rfl rfl rfl (by decide +kernel) ⟨Nat.le_of_ble_eq_true rfl, Nat.le_of_ble_eq_true rfl⟩) (hz.preV hK hs27 rfl) rfl rfl hl.1 rfl (lv_room (Nat.le_of_ble_eq_true rfl)) dX0_takeApart_5 ⟨Nat.le_of_ble_eq_true rfl, Nat.le_of_ble_eq_true rfl⟩) (fun r33 I30 L31 A32 H locs hp hz => ?_)
  have hwp := hwp r33 I30 L31 A32 hp
  refine lv_l2i hx hb dX0_takeApart_8 rfl ?_
  obtain ⟨hs34, hwp⟩ := hwp
  obtain ⟨P35, hc36, hwp⟩ := hwp
  refine sw_callv hz (va_runV (As := [.int (Int64.toInt32 r33)]) (rest := []) ⟨hx, hb, hml, hown, hts⟩ (hc36 hK _) (cwV 1 hts gX0_takeApart_X2_begin rfl rfl rfl (by decide +kernel) ⟨Nat.le_of_ble_eq_true rfl, Nat.le_of_ble_eq_true rfl⟩) (hz.preV hK hs34 rfl) rfl rfl hl.1 rfl (lv_room (Nat.le_of_ble_eq_true rfl)) dX0_takeApart_9 ⟨Nat.le_of_ble_eq_true rfl, Nat.le_of_ble_eq_true rfl⟩) (fun I37 L38 A39 H locs hp hz => ?_)
  have hwp := hwp I37 L38 A39 hp
  refine lv_aload_n hx hb dX0_takeApart_12 rfl (lv_at hl 1 rfl) ?_
  refine sw_get (C := RX4) (T := TX4) (N := 2) (v := .int (I37 o1 1)) hx hb hts hw3 hown hK hz hs27 rfl 1 (by decide) hw4 (fun _ h9 => h9) rfl dX0_takeApart_13 ?_
  refine lv_iconst (v := 1) hx hb dX0_takeApart_16 (by decide) ?_
  refine lv_icmp_ge (tgt := 21) hx hb dX0_takeApart_17 (by decide) (fun q => ?_) (fun q => ?_)
  · have hwp := hwp.1 q
    refine lv_aload_n hx hb dX0_takeApart_21 rfl (lv_at hl 0 rfl) ?_
    refine sw_get (C := RX0) (T := TX0) (N := 10) (v := .ref (o0 + 55)) hx hb hts hw0 hown hK hz hs26 rfl 2 (by decide) hw5 (fun _ h9 => h9) rfl dX0_takeApart_22 ?_
    refine lv_aload_n hx hb dX0_takeApart_25 rfl (lv_at hl 1 rfl) ?_
    obtain ⟨hs40, hwp⟩ := hwp
    obtain ⟨P41, hc42, hwp⟩ := hwp
    refine sw_callv hz (va_runV (As := [.ref o1]) (rest := []) ⟨hx, hb, hml, hown, hts⟩ (hc42 hK _) (cwV 1 hts gX0_takeApart_X4_become rfl rfl rfl (by decide +kernel) ⟨Nat.le_of_ble_eq_true rfl, Nat.le_of_ble_eq_true rfl⟩) (hz.preV hK hs40 rfl) rfl rfl hl.1 rfl (lv_room (Nat.le_of_ble_eq_true rfl)) dX0_takeApart_26 ⟨Nat.le_of_ble_eq_true rfl, Nat.le_of_ble_eq_true rfl⟩) (fun I43 L44 A45 H locs hp hz => ?_)
    have hwp := hwp I43 L44 A45 hp
    refine lv_aload_n hx hb dX0_takeApart_29 rfl (lv_at hl 0 rfl) ?_
    refine sw_get (C := RX0) (T := TX0) (N := 10) (v := .ref (o0 + 55)) hx hb hts hw0 hown hK hz hs26 rfl 2 (by decide) hw5 (fun _ h9 => h9) rfl dX0_takeApart_30 ?_
    obtain ⟨P46, hc47, hwp⟩ := hwp
    refine sw_callv hz (va_runV (As := []) (rest := []) ⟨hx, hb, hml, hown, hts⟩ (hc47 hK _) (cwV 0 hts gX0_takeApart_X4_makePrimitive rfl rfl rfl (by decide +kernel) ⟨Nat.le_of_ble_eq_true rfl, Nat.le_of_ble_eq_true rfl⟩) (hz.preV hK hs40 rfl) rfl rfl hl.1 rfl (lv_room (Nat.le_of_ble_eq_true rfl)) dX0_takeApart_33 ⟨Nat.le_of_ble_eq_true rfl, Nat.le_of_ble_eq_true rfl⟩) (fun I48 L49 A50 H locs hp hz => ?_)
    have hwp := hwp I48 L49 A50 hp
    refine lv_aload_n hx hb dX0_takeApart_36 rfl (lv_at hl 0 rfl) ?_
    refine sw_get (C := RX0) (T := TX0) (N := 10) (v := .ref (o0 + 59)) hx hb hts hw0 hown hK hz hs26 rfl 4 (by decide) hw6 (fun _ h9 => h9) rfl dX0_takeApart_37 ?_
    refine lv_aload_n hx hb dX0_takeApart_40 rfl (lv_at hl 0 rfl) ?_
    refine sw_get (C := RX0) (T := TX0) (N := 10) (v := .ref (o0 + 55)) hx hb hts hw0 hown hK hz hs26 rfl 2 (by decide) hw5 (fun _ h9 => h9) rfl dX0_takeApart_41 ?_
    obtain ⟨hs51, hwp⟩ := hwp
    obtain ⟨P52, hc53, hwp⟩ := hwp
    refine sw_callv hz (va_runV (As := [.ref (o0 + 55)]) (rest := []) ⟨hx, hb, hml, hown, hts⟩ (hc53 hK _) (cwV 1 hts gX0_takeApart_X4_becomeSlope rfl rfl rfl (by decide +kernel) ⟨Nat.le_of_ble_eq_true rfl, Nat.le_of_ble_eq_true rfl⟩) (hz.preV hK hs51 rfl) rfl rfl hl.1 rfl (lv_room (Nat.le_of_ble_eq_true rfl)) dX0_takeApart_44 ⟨Nat.le_of_ble_eq_true rfl, Nat.le_of_ble_eq_true rfl⟩) (fun I54 L55 A56 H locs hp hz => ?_)
    have hwp := hwp I54 L55 A56 hp
    refine lv_aload_n hx hb dX0_takeApart_47 rfl (lv_at hl 0 rfl) ?_
    refine lv_aload_n hx hb dX0_takeApart_48 rfl (lv_at hl 0 rfl) ?_
    refine sw_get (C := RX0) (T := TX0) (N := 10) (v := .ref (o0 + 61)) hx hb hts hw0 hown hK hz hs26 rfl 5 (by decide) hw7 (fun _ h9 => h9) rfl dX0_takeApart_49 ?_
    refine lv_aload_n hx hb dX0_takeApart_52 rfl (lv_at hl 0 rfl) ?_
    refine sw_get (C := RX0) (T := TX0) (N := 10) (v := .ref (o0 + 55)) hx hb hts hw0 hown hK hz hs26 rfl 2 (by decide) hw5 (fun _ h9 => h9) rfl dX0_takeApart_53 ?_
    refine lv_aload_n hx hb dX0_takeApart_56 rfl (lv_at hl 0 rfl) ?_
    refine sw_get (C := RX0) (T := TX0) (N := 10) (v := .ref (o0 + 59)) hx hb hts hw0 hown hK hz hs26 rfl 4 (by decide) hw6 (fun _ h9 => h9) rfl dX0_takeApart_57 ?_
    obtain ⟨P57, hc58, hwp⟩ := hwp
    refine sw_callv hz (va_runV (As := [.ref (o0 + 61), .ref (o0 + 55), .ref (o0 + 59)]) (rest := []) ⟨hx, hb, hml, hown, hts⟩ (hc58 hK _) (cwV 3 hts gX0_takeApart_X0_findCommon rfl rfl rfl (by decide +kernel) ⟨Nat.le_of_ble_eq_true rfl, Nat.le_of_ble_eq_true rfl⟩) (hz.preV hK hs26 rfl) rfl rfl hl.1 rfl (lv_room (Nat.le_of_ble_eq_true rfl)) dX0_takeApart_60 ⟨Nat.le_of_ble_eq_true rfl, Nat.le_of_ble_eq_true rfl⟩) (fun I59 L60 A61 H locs hp hz => ?_)
    have hwp := hwp I59 L60 A61 hp
    refine lv_aload_n hx hb dX0_takeApart_63 rfl (lv_at hl 0 rfl) ?_
    refine sw_get (C := RX0) (T := TX0) (N := 10) (v := .ref (o0 + 57)) hx hb hts hw0 hown hK hz hs26 rfl 3 (by decide) hw8 (fun _ h9 => h9) rfl dX0_takeApart_64 ?_
    refine lv_aload_n hx hb dX0_takeApart_67 rfl (lv_at hl 0 rfl) ?_
    refine sw_get (C := RX0) (T := TX0) (N := 10) (v := .ref (o0 + 55)) hx hb hts hw0 hown hK hz hs26 rfl 2 (by decide) hw5 (fun _ h9 => h9) rfl dX0_takeApart_68 ?_
    refine lv_aload_n hx hb dX0_takeApart_71 rfl (lv_at hl 0 rfl) ?_
    refine sw_get (C := RX0) (T := TX0) (N := 10) (v := .ref (o0 + 61)) hx hb hts hw0 hown hK hz hs26 rfl 5 (by decide) hw7 (fun _ h9 => h9) rfl dX0_takeApart_72 ?_
    refine lv_aload_n hx hb dX0_takeApart_75 rfl (lv_at hl 0 rfl) ?_
    refine sw_get (C := RX0) (T := TX0) (N := 10) (v := .ref (o0 + 67)) hx hb hts hw0 hown hK hz hs26 rfl 8 (by decide) hw9 (fun _ h9 => h9) rfl dX0_takeApart_76 ?_
    obtain ⟨hs62, hwp⟩ := hwp
    obtain ⟨P63, hc64, hwp⟩ := hwp
    refine sw_calli hz (va_runV (As := [.ref (o0 + 55), .ref (o0 + 61), .ref (o0 + 67)]) (rest := []) ⟨hx, hb, hml, hown, hts⟩ (hc64 hK _) (cwV 3 hts gX0_takeApart_X4_becomeQuotient rfl rfl rfl (by decide +kernel) ⟨Nat.le_of_ble_eq_true rfl, Nat.le_of_ble_eq_true rfl⟩) (hz.preV hK hs62 rfl) rfl rfl hl.1 rfl (lv_room (Nat.le_of_ble_eq_true rfl)) dX0_takeApart_79 ⟨Nat.le_of_ble_eq_true rfl, Nat.le_of_ble_eq_true rfl⟩) (fun r68 I65 L66 A67 H locs hp hz => ?_)
    have hwp := hwp r68 I65 L66 A67 hp
    refine lv_pop hx hb dX0_takeApart_82 rfl ?_
    refine lv_aload_n hx hb dX0_takeApart_83 rfl (lv_at hl 0 rfl) ?_
    obtain ⟨P69, hc70, hwp⟩ := hwp
    refine sw_callv hz (va_runV (As := []) (rest := []) ⟨hx, hb, hml, hown, hts⟩ (hc70 hK _) (cwV 0 hts gX0_takeApart_X0_chooseModulus rfl rfl rfl (by decide +kernel) ⟨Nat.le_of_ble_eq_true rfl, Nat.le_of_ble_eq_true rfl⟩) (hz.preV hK hs26 rfl) rfl rfl hl.1 rfl (lv_room (Nat.le_of_ble_eq_true rfl)) dX0_takeApart_84 ⟨Nat.le_of_ble_eq_true rfl, Nat.le_of_ble_eq_true rfl⟩) (fun I71 L72 A73 H locs hp hz => ?_)
    have hwp := hwp I71 L72 A73 hp
    refine lv_aload_n hx hb dX0_takeApart_87 rfl (lv_at hl 0 rfl) ?_
    refine sw_get (C := RX0) (T := TX0) (N := 10) (v := .ref (o0 + 1)) hx hb hts hw0 hown hK hz hs26 rfl 0 (by decide) hw2 (fun _ h9 => h9) rfl dX0_takeApart_88 ?_
    obtain ⟨hs74, hwp⟩ := hwp
    obtain ⟨P75, hc76, hwp⟩ := hwp
    refine sw_callv hz (va_runV (As := []) (rest := []) ⟨hx, hb, hml, hown, hts⟩ (hc76 hK _) (cwV 0 hts gX0_takeApart_X5_groupByDegrees rfl rfl rfl (by decide +kernel) ⟨Nat.le_of_ble_eq_true rfl, Nat.le_of_ble_eq_true rfl⟩) (hz.preV hK hs74 rfl) rfl rfl hl.1 rfl (lv_room (Nat.le_of_ble_eq_true rfl)) dX0_takeApart_91 ⟨Nat.le_of_ble_eq_true rfl, Nat.le_of_ble_eq_true rfl⟩) (fun I77 L78 A79 H locs hp hz => ?_)
    have hwp := hwp I77 L78 A79 hp
    refine lv_iconst (v := 1) hx hb dX0_takeApart_94 (by decide) ?_
    refine lv_istore_n (lv' := [(2, .int 1), (0, .ref o0), (1, .ref o1)]) hx hb dX0_takeApart_95 rfl hl (by decide) rfl (fun ls hl => ?_)
    exact wL96 _ _ _ _ _ _ _ hwp hz (lv_sub hl [1, 0] rfl)
  · have hwp := hwp.2 q
    exact sw_vret hx hb hret hlocks hz hwp dX0_takeApart_20

