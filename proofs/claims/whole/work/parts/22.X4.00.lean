def wp_X6_greatestDivisor_15 (K : Cx) (j0 : Int64) (j2 : Int64) (I : TI) (L : TL) (A : TA) (x4 : Int64) (x6 : Int64) (x8 : Int32) (Q : Int64 → TI → TL → TA → Prop) : Prop := ∃ (Inv : Nat → TI → TL → TA → Int64 → Int64 → Int32 → Prop) (μ : Nat), Inv μ I L A x4 x6 x8 ∧ ∀ (μ : Nat) (C15 : TI → TL → TA → Int64 → Int64 → Int32 → Prop), (∀ (μ' : Nat) (I : TI) (L : TL) (A : TA) (x4 : Int64) (x6 : Int64) (x8 : Int32) , μ' < μ → Inv μ' I L A x4 x6 x8 → C15 I L A x4 x6 x8) → ∀ (I : TI) (L : TL) (A : TA) (x4 : Int64) (x6 : Int64) (x8 : Int32) , Inv μ I L A x4 x6 x8 → ((100 ≤ x8 → Q x4 I L A) ∧ (¬ 100 ≤ x8 → ((x6 = 0 → Q x4 I L A) ∧ (¬ x6 = 0 → ¬ x6 = 0 ∧ ∀ v2 : Int64, v2 = (x4 - x4 / x6 * x6) → ∀ v3 : Int32, v3 = x8 + 1 → C15 I L A x6 v2 v3))))
def wp_X6_greatestDivisor (K : Cx) (I : TI) (L : TL) (A : TA) (j0 : Int64) (j2 : Int64) (Q : Int64 → TI → TL → TA → Prop) : Prop := ∀ v4 : Int64, v4 = (absJ j0) → ∀ v5 : Int64, v5 = (absJ j2) → wp_X6_greatestDivisor_15 K j0 j2 I L A v4 v5 0 Q
set_option maxHeartbeats 1000000 in
set_option maxRecDepth 100000 in
theorem w_X6_greatestDivisor (K : Cx) (I : TI) (L : TL) (A : TA) (j0 : Int64) (j2 : Int64) (Q : Int64 → TI → TL → TA → Prop) (hwp : wp_X6_greatestDivisor K I L A j0 j2 Q) : ConL K yX6_greatestDivisor wsX6_greatestDivisor 1 40 I L A [.long j0, .long j2] Q := by
  intro hK sz
  refine Met.ofW (cc := cX6_greatestDivisor) (maxL := 11) (ret := (some .long)) (by decide) rfl ?_
  intro p e s m args below meth c s₁ B hml hv
  obtain ⟨rfl, hsz, hB⟩ := hv
  have hx := B.exec
  have hb := B.bytes
  have hret := B.returns
  have hts := atoms_spec (ws := wsX6_greatestDivisor) B.pre
  have hown : s.vm.findClass RX6 = some m.cls := findClass_of_methodNamed B.named
  have hlocks := B.notSynchronized
  subst hsz
  have hz : SS K s I L A s.heap [] := PS.start hB
  have hl := lv_entry ([.long j0, .long j2]) (n := 11) (Nat.le_of_ble_eq_true rfl)
  rw [lg_entry_eq]
  generalize (lg_sl ([.long j0, .long j2]) ++ List.replicate (11 - (lg_sl ([.long j0, .long j2])).length) Slot.unset).toArray = ls at hl ⊢
  have hl : lv_has ls 11 [(0, .long j0), (2, .long j2)] := hl
  have hw0 := hts (.methodLink RX6 190 Lib.MathLoose.abs_long.x) (by decide +kernel)
  have hw1 := hts (.static Lib.MathLoose.abs_long.x) (by decide +kernel)
  have hw2 := hts (.initialized "java/lang/Math") (by decide +kernel)
  have hw3 := hts (.code Lib.MathLoose.abs_long.x Lib.MathLoose.abs_long.code 2 (some .long)) (by decide +kernel)
  clear hB B
  have wL15 : ∀ (I : TI) (L : TL) (A : TA) (x4 : Int64) (x6 : Int64) (x8 : Int32) (H : Heap) (locs : List Loc) (ls : Array Slot), wp_X6_greatestDivisor_15 K j0 j2 I L A x4 x6 x8 Q → SS K s I L A H locs → lv_has ls 11 [(4, .long x4), (6, .long x6), (8, .int x8)] → W p (cxl K) e (headSpec wsX6_greatestDivisor (rmF 1 40)).room s m ([.long j0, .long j2] : List Value).toArray below meth c H locs 0 0 (MQ below (cxQl K Q) ([.long j0, .long j2] : List Value).toArray s 0 0 (PA (cxb K))) (F0 m 15 ls []) := by
    intro I L A x4 x6 x8 H locs ls hwp hz hl
    obtain ⟨Inv, μ, hi, hst⟩ := hwp
    have key : ∀ (μ : Nat) (I : TI) (L : TL) (A : TA) (x4 : Int64) (x6 : Int64) (x8 : Int32) (H : Heap) (locs : List Loc) (ls : Array Slot), Inv μ I L A x4 x6 x8 → SS K s I L A H locs → lv_has ls 11 [(4, .long x4), (6, .long x6), (8, .int x8)] → W p (cxl K) e (headSpec wsX6_greatestDivisor (rmF 1 40)).room s m ([.long j0, .long j2] : List Value).toArray below meth c H locs 0 0 (MQ below (cxQl K Q) ([.long j0, .long j2] : List Value).toArray s 0 0 (PA (cxb K))) (F0 m 15 ls []) := by
      clear hi hz hl
      intro μ
      induction μ using Nat.strongRecOn with | ind μ ih => ?_
      intro I L A x4 x6 x8 H locs ls hi hz hl
      obtain ⟨C15, hCd⟩ : ∃ C : TI → TL → TA → Int64 → Int64 → Int32 → Prop, C = fun I L A x4 x6 x8 => ∃ μ', μ' < μ ∧ Inv μ' I L A x4 x6 x8 := ⟨_, rfl⟩
      have hC15 : ∀ (I : TI) (L : TL) (A : TA) (x4 : Int64) (x6 : Int64) (x8 : Int32) (H : Heap) (locs : List Loc) (ls : Array Slot), C15 I L A x4 x6 x8 → SS K s I L A H locs → lv_has ls 11 [(4, .long x4), (6, .long x6), (8, .int x8)] → W p (cxl K) e (headSpec wsX6_greatestDivisor (rmF 1 40)).room s m ([.long j0, .long j2] : List Value).toArray below meth c H locs 0 0 (MQ below (cxQl K Q) ([.long j0, .long j2] : List Value).toArray s 0 0 (PA (cxb K))) (F0 m 15 ls []) := by
        intro I L A x4 x6 x8 H locs ls hc hz hl
        rw [hCd] at hc
        obtain ⟨μ', hlt, hc⟩ := hc
        exact ih μ' hlt I L A x4 x6 x8 H locs ls hc hz hl
      have hwp := hst μ C15 (fun μ' I L A x4 x6 x8 hlt hc => by rw [hCd]; exact ⟨μ', hlt, hc⟩) I L A x4 x6 x8 hi
      refine lv_iload hx hb dX6_greatestDivisor_15 (lv_at hl 2 rfl) ?_
      refine lv_bipush (v := 100) hx hb dX6_greatestDivisor_17 (by decide) ?_
      refine lv_icmp_ge (tgt := 50) hx hb dX6_greatestDivisor_19 (by decide) (fun q => ?_) (fun q => ?_)
      · have hwp := hwp.1 q
        refine lv_lload hx hb dX6_greatestDivisor_50 (lv_at hl 0 rfl) ?_
        exact sw_lret hx hb hret hlocks hz hwp dX6_greatestDivisor_52
      · have hwp := hwp.2 q
        refine lv_lload hx hb dX6_greatestDivisor_22 (lv_at hl 1 rfl) ?_
        refine lv_lconst (v := 0) hx hb dX6_greatestDivisor_24 (by decide) ?_
        refine W.lcmp hx hb dX6_greatestDivisor_25 ?_
        refine W.eq (g2 := F0 m 26 ls [.int (lg_cmp x6 0)]) rfl ?_
        refine lv_if_eq (tgt := 50) hx hb dX6_greatestDivisor_26 (by decide) (fun q => ?_) (fun q => ?_)
        · have hwp := hwp.1 ((lg_cmp_eq _ _).mp q)
          refine lv_lload hx hb dX6_greatestDivisor_50 (lv_at hl 0 rfl) ?_
          exact sw_lret hx hb hret hlocks hz hwp dX6_greatestDivisor_52
        · have hwp := hwp.2 (fun h => q ((lg_cmp_eq _ _).mpr h))
          refine lv_lload hx hb dX6_greatestDivisor_29 (lv_at hl 0 rfl) ?_
          refine lv_lload hx hb dX6_greatestDivisor_31 (lv_at hl 1 rfl) ?_
          obtain ⟨hn1, hwp⟩ := hwp
          refine lv_lrem hx hb dX6_greatestDivisor_33 hn1 ?_
          refine lv_topl (fun v2 q_v2 => ?_)
          have hwp := hwp v2 q_v2
          refine lv_lstore (lv' := [(9, .long v2), (4, .long x4), (6, .long x6), (8, .int x8)]) hx hb dX6_greatestDivisor_34 hl (by decide) rfl (fun ls hl => ?_)
          refine lv_lload hx hb dX6_greatestDivisor_36 (lv_at hl 2 rfl) ?_
          refine lv_lstore (lv' := [(4, .long x6), (9, .long v2), (6, .long x6), (8, .int x8)]) hx hb dX6_greatestDivisor_38 hl (by decide) rfl (fun ls hl => ?_)
          refine lv_lload hx hb dX6_greatestDivisor_40 (lv_at hl 1 rfl) ?_
          refine lv_lstore (lv' := [(6, .long v2), (4, .long x6), (9, .long v2), (8, .int x8)]) hx hb dX6_greatestDivisor_42 hl (by decide) rfl (fun ls hl => ?_)
          obtain ⟨v3, q_v3⟩ : ∃ y : Int32, y = x8 + 1 := ⟨_, rfl⟩
          have hwp := hwp v3 q_v3
          refine lv_iinc (v := v3) (lv' := [(8, .int v3), (6, .long v2), (4, .long x6), (9, .long v2)]) hx hb dX6_greatestDivisor_44 hl (k := 3) rfl (by rw [q_v3]; rfl) (by decide) rfl (fun ls hl => ?_)
          refine lv_goto (tgt := 15) hx hb dX6_greatestDivisor_47 (by decide) ?_
          exact hC15 _ _ _ _ _ _ _ _ _ hwp hz (lv_sub hl [2, 1, 0] rfl)
    exact key μ I L A x4 x6 x8 H locs ls hi hz hl
  refine lv_lload_n hx hb dX6_greatestDivisor_0 rfl (lv_at hl 0 rfl) ?_
  refine va_mabs_long hx hb (by rw [hml]; exact hl.1.symm) hown hw0 hw1 hw2 hw3 (Nat.le_of_ble_eq_true rfl) (Nat.le_of_ble_eq_true rfl) (Nat.le_of_ble_eq_true rfl) (Nat.le_of_ble_eq_true rfl) dX6_greatestDivisor_1 ?_
  refine W.eq (g2 := F0 m 4 ls [.long (absJ j0)]) rfl ?_
  refine lv_topl (fun v4 q_v4 => ?_)
  have hwp := hwp v4 q_v4
  refine lv_lstore (lv' := [(4, .long v4), (0, .long j0), (2, .long j2)]) hx hb dX6_greatestDivisor_4 hl (by decide) rfl (fun ls hl => ?_)
  refine lv_lload_n hx hb dX6_greatestDivisor_6 rfl (lv_at hl 2 rfl) ?_
  refine va_mabs_long hx hb (by rw [hml]; exact hl.1.symm) hown hw0 hw1 hw2 hw3 (Nat.le_of_ble_eq_true rfl) (Nat.le_of_ble_eq_true rfl) (Nat.le_of_ble_eq_true rfl) (Nat.le_of_ble_eq_true rfl) dX6_greatestDivisor_7 ?_
  refine W.eq (g2 := F0 m 10 ls [.long (absJ j2)]) rfl ?_
  refine lv_topl (fun v5 q_v5 => ?_)
  have hwp := hwp v5 q_v5
  refine lv_lstore (lv' := [(6, .long v5), (4, .long v4), (0, .long j0), (2, .long j2)]) hx hb dX6_greatestDivisor_10 hl (by decide) rfl (fun ls hl => ?_)
  refine lv_iconst (v := 0) hx hb dX6_greatestDivisor_12 (by decide) ?_
  refine lv_istore (lv' := [(8, .int 0), (6, .long v5), (4, .long v4), (0, .long j0), (2, .long j2)]) hx hb dX6_greatestDivisor_13 hl (by decide) rfl (fun ls hl => ?_)
  exact wL15 _ _ _ _ _ _ _ _ _ hwp hz (lv_sub hl [2, 1, 0] rfl)

def wp_X4_at (K : Cx) (I : TI) (L : TL) (A : TA) (o0 : Nat) (i1 : Int32) (Q : Int64 → TI → TL → TA → Prop) : Prop := ((i1 < 0 → Q 0 I L A) ∧ (¬ i1 < 0 → ((i1 < 13 → cxS K o0 = shX4 o0 ∧ aok (cxS K) (o0 + 1) 1 i1 ∧ Q (L (o0 + 1) (ix i1)) I L A) ∧ (¬ i1 < 13 → Q 0 I L A))))
set_option maxHeartbeats 1000000 in
set_option maxRecDepth 100000 in
theorem w_X4_at (K : Cx) (I : TI) (L : TL) (A : TA) (o0 : Nat) (i1 : Int32) (Q : Int64 → TI → TL → TA → Prop) (hwp : wp_X4_at K I L A o0 i1 Q) : ConL K yX4_at wsX4_at 0 0 I L A [.ref o0, .int i1] Q := by
  intro hK sz
  refine Met.ofW (cc := cX4_at) (maxL := 2) (ret := (some .long)) (by decide) rfl ?_
  intro p e s m args below meth c s₁ B hml hv
  obtain ⟨rfl, hsz, hB⟩ := hv
  have hx := B.exec
  have hb := B.bytes
  have hret := B.returns
  have hts := atoms_spec (ws := wsX4_at) B.pre
  have hown : s.vm.findClass RX4 = some m.cls := findClass_of_methodNamed B.named
  have hlocks := B.notSynchronized
  subst hsz
  have hz : SS K s I L A s.heap [] := PS.start hB
  have hl := lv_entry ([.ref o0, .int i1]) (n := 2) (Nat.le_of_ble_eq_true rfl)
  rw [lg_entry_eq]
  generalize (lg_sl ([.ref o0, .int i1]) ++ List.replicate (2 - (lg_sl ([.ref o0, .int i1])).length) Slot.unset).toArray = ls at hl ⊢
  have hl : lv_has ls 2 [(0, .ref o0), (1, .int i1)] := hl
  have hw0 : ∀ w ∈ u_ws RX4 TX4 2, w ∈ wsX4_at := by decide +kernel
  have hw1 := hts (.fieldLink RX4 9 "GaloisDesk$Row" "c" "[J") (by decide +kernel)
  clear hB B
  refine lv_iload_n hx hb dX4_at_0 rfl (lv_at hl 1 rfl) ?_
  refine lv_if_lt (tgt := 10) hx hb dX4_at_1 (by decide) (fun q => ?_) (fun q => ?_)
  · have hwp := hwp.1 q
    refine lv_lconst (v := 0) hx hb dX4_at_10 (by decide) ?_
    refine lv_goto (tgt := 20) hx hb dX4_at_11 (by decide) ?_
    exact sw_lret hx hb hret hlocks hz hwp dX4_at_20
  · have hwp := hwp.2 q
    refine lv_iload_n hx hb dX4_at_4 rfl (lv_at hl 1 rfl) ?_
    refine lv_bipush (v := 13) hx hb dX4_at_5 (by decide) ?_
    refine lv_icmp_lt (tgt := 14) hx hb dX4_at_7 (by decide) (fun q => ?_) (fun q => ?_)
    · have hwp := hwp.1 q
      refine lv_aload_n hx hb dX4_at_14 rfl (lv_at hl 0 rfl) ?_
      obtain ⟨hs1, hwp⟩ := hwp
      refine sw_get (C := RX4) (T := TX4) (N := 2) (v := .ref (o0 + 1)) hx hb hts hw0 hown hK hz hs1 rfl 0 (by decide) hw1 (fun _ h9 => h9) rfl dX4_at_15 ?_
      refine lv_iload_n hx hb dX4_at_18 rfl (lv_at hl 1 rfl) ?_
      obtain ⟨ho2, hwp⟩ := hwp
      refine sw_lald hx hb hK hz ho2 dX4_at_19 ?_
      exact sw_lret hx hb hret hlocks hz hwp dX4_at_20
    · have hwp := hwp.2 q
      refine lv_lconst (v := 0) hx hb dX4_at_10 (by decide) ?_
      refine lv_goto (tgt := 20) hx hb dX4_at_11 (by decide) ?_
      exact sw_lret hx hb hret hlocks hz hwp dX4_at_20

def wp_X4_become (K : Cx) (I : TI) (L : TL) (A : TA) (o0 : Nat) (o1 : Nat) (Q : TI → TL → TA → Prop) : Prop := cxS K o1 = shX4 o1 ∧ cxS K o0 = shX4 o0 ∧ cxS K (o1 + 1) = .inr (1, 13) ∧ cxS K (o0 + 1) = .inr (1, 13) ∧ ∀ L5 : TL, L5 = us L (o0 + 1) (L (o1 + 1)) → ∀ I6 : TI, I6 = u2 I o0 1 (I o1 1) → Q I6 L5 A
set_option maxHeartbeats 1000000 in
set_option maxRecDepth 100000 in
theorem w_X4_become (K : Cx) (I : TI) (L : TL) (A : TA) (o0 : Nat) (o1 : Nat) (Q : TI → TL → TA → Prop) (hwp : wp_X4_become K I L A o0 o1 Q) : ConV K yX4_become wsX4_become 1 40 I L A [.ref o0, .ref o1] Q := by
  intro hK sz
  refine Met.ofW (cc := cX4_become) (maxL := 2) (ret := none) (by decide) rfl ?_
  intro p e s m args below meth c s₁ B hml hv
  obtain ⟨rfl, hsz, hB⟩ := hv
  have hx := B.exec
  have hb := B.bytes
  have hret := B.returns
  have hts := atoms_spec (ws := wsX4_become) B.pre
  have hown : s.vm.findClass RX4 = some m.cls := findClass_of_methodNamed B.named
  have hlocks := B.notSynchronized
  subst hsz
  have hz : SS K s I L A s.heap [] := PS.start hB
  have hl := lv_entry ([.ref o0, .ref o1]) (n := 2) (Nat.le_of_ble_eq_true rfl)
  rw [lg_entry_eq]
  generalize (lg_sl ([.ref o0, .ref o1]) ++ List.replicate (2 - (lg_sl ([.ref o0, .ref o1])).length) Slot.unset).toArray = ls at hl ⊢
  have hl : lv_has ls 2 [(0, .ref o0), (1, .ref o1)] := hl
  have hw0 : ∀ w ∈ u_ws RX4 TX4 2, w ∈ wsX4_become := by decide +kernel
  have hw1 := hts (.fieldLink RX4 9 "GaloisDesk$Row" "c" "[J") (by decide +kernel)
  have hw2 := hts (.methodLink RX4 19 arraycopyName) (by decide +kernel)
  have hw3 := hts (.native arraycopyName) (by decide +kernel)
  have hw4 := hts (.static arraycopyName) (by decide +kernel)
  have hw5 := hts (.initialized "java/lang/System") (by decide +kernel)
  have hw6 := hts (.fieldLink RX4 15 "GaloisDesk$Row" "top" "I") (by decide +kernel)
  clear hB B
  refine lv_aload_n hx hb dX4_become_0 rfl (lv_at hl 1 rfl) ?_
  obtain ⟨hs1, hwp⟩ := hwp
  refine sw_get (C := RX4) (T := TX4) (N := 2) (v := .ref (o1 + 1)) hx hb hts hw0 hown hK hz hs1 rfl 0 (by decide) hw1 (fun _ h9 => h9) rfl dX4_become_1 ?_
  refine lv_iconst (v := 0) hx hb dX4_become_4 (by decide) ?_
  refine lv_aload_n hx hb dX4_become_5 rfl (lv_at hl 0 rfl) ?_
  obtain ⟨hs2, hwp⟩ := hwp
  refine sw_get (C := RX4) (T := TX4) (N := 2) (v := .ref (o0 + 1)) hx hb hts hw0 hown hK hz hs2 rfl 0 (by decide) hw1 (fun _ h9 => h9) rfl dX4_become_6 ?_
  refine lv_iconst (v := 0) hx hb dX4_become_9 (by decide) ?_
  refine lv_bipush (v := 13) hx hb dX4_become_10 (by decide) ?_
  obtain ⟨ha3, ha4, hwp⟩ := hwp
  refine sw_copy13 hx hb (by rw [hml]; exact hl.1.symm) hown hw2 hw3 hw4 hw5 hK hz ha3 ha4 (Nat.le_of_ble_eq_true rfl) (Nat.le_of_ble_eq_true rfl) dX4_become_12 (fun H locs L5 e_L5 hz => ?_)
  have hwp := hwp L5 e_L5
  refine lv_aload_n hx hb dX4_become_15 rfl (lv_at hl 0 rfl) ?_
  refine lv_aload_n hx hb dX4_become_16 rfl (lv_at hl 1 rfl) ?_
  refine sw_get (C := RX4) (T := TX4) (N := 2) (v := .int (I o1 1)) hx hb hts hw0 hown hK hz hs1 rfl 1 (by decide) hw6 (fun _ h9 => h9) rfl dX4_become_17 ?_
  refine sw_putI (C := RX4) (T := TX4) (N := 2) hx hb hts hw0 tyX4 tyX4_ok nmX4 hown hK hz hs2 rfl 1 (by decide) hw6 (fun _ h9 => h9) rfl (by decide +kernel) rfl dX4_become_20 (fun H locs I6 e_I6 hz => ?_)
  have hwp := hwp I6 e_I6
  exact sw_vret hx hb hret hlocks hz hwp dX4_become_23

def wp_X4_clear_2 (K : Cx) (o0 : Nat) (I : TI) (L : TL) (A : TA) (x1 : Int32) (Q : TI → TL → TA → Prop) : Prop := ∃ (Inv : Nat → TI → TL → TA → Int32 → Prop) (μ : Nat), Inv μ I L A x1 ∧ ∀ (μ : Nat) (C2 : TI → TL → TA → Int32 → Prop), (∀ (μ' : Nat) (I : TI) (L : TL) (A : TA) (x1 : Int32) , μ' < μ → Inv μ' I L A x1 → C2 I L A x1) → ∀ (I : TI) (L : TL) (A : TA) (x1 : Int32) , Inv μ I L A x1 → ((13 ≤ x1 → cxS K o0 = shX4 o0 ∧ ∀ I2 : TI, I2 = u2 I o0 1 (-1) → Q I2 L A) ∧ (¬ 13 ≤ x1 → cxS K o0 = shX4 o0 ∧ aok (cxS K) (o0 + 1) 1 x1 ∧ ∀ L5 : TL, L5 = u2 L (o0 + 1) (ix x1) 0 → ∀ v6 : Int32, v6 = x1 + 1 → C2 I L5 A v6))
def wp_X4_clear (K : Cx) (I : TI) (L : TL) (A : TA) (o0 : Nat) (Q : TI → TL → TA → Prop) : Prop := wp_X4_clear_2 K o0 I L A 0 Q
set_option maxHeartbeats 1000000 in
set_option maxRecDepth 100000 in
theorem w_X4_clear (K : Cx) (I : TI) (L : TL) (A : TA) (o0 : Nat) (Q : TI → TL → TA → Prop) (hwp : wp_X4_clear K I L A o0 Q) : ConV K yX4_clear wsX4_clear 0 0 I L A [.ref o0] Q := by
  intro hK sz
  refine Met.ofW (cc := cX4_clear) (maxL := 2) (ret := none) (by decide) rfl ?_
  intro p e s m args below meth c s₁ B hml hv
  obtain ⟨rfl, hsz, hB⟩ := hv
  have hx := B.exec
  have hb := B.bytes
  have hret := B.returns
  have hts := atoms_spec (ws := wsX4_clear) B.pre
  have hown : s.vm.findClass RX4 = some m.cls := findClass_of_methodNamed B.named
  have hlocks := B.notSynchronized
  subst hsz
  have hz : SS K s I L A s.heap [] := PS.start hB
  have hl := lv_entry ([.ref o0]) (n := 2) (Nat.le_of_ble_eq_true rfl)
  rw [lg_entry_eq]
  generalize (lg_sl ([.ref o0]) ++ List.replicate (2 - (lg_sl ([.ref o0])).length) Slot.unset).toArray = ls at hl ⊢
  have hl : lv_has ls 2 [(0, .ref o0)] := hl
  have hw0 : ∀ w ∈ u_ws RX4 TX4 2, w ∈ wsX4_clear := by decide +kernel
  have hw1 := hts (.fieldLink RX4 15 "GaloisDesk$Row" "top" "I") (by decide +kernel)
  have hw2 := hts (.fieldLink RX4 9 "GaloisDesk$Row" "c" "[J") (by decide +kernel)
  clear hB B
  have wL2 : ∀ (I : TI) (L : TL) (A : TA) (x1 : Int32) (H : Heap) (locs : List Loc) (ls : Array Slot), wp_X4_clear_2 K o0 I L A x1 Q → SS K s I L A H locs → lv_has ls 2 [(0, .ref o0), (1, .int x1)] → W p (cxl K) e (headSpec wsX4_clear (rmF 0 0)).room s m ([.ref o0] : List Value).toArray below meth c H locs 0 0 (MQ below (cxQv K Q) ([.ref o0] : List Value).toArray s 0 0 (PA (cxb K))) (F0 m 2 ls []) := by
    intro I L A x1 H locs ls hwp hz hl
    obtain ⟨Inv, μ, hi, hst⟩ := hwp
    have key : ∀ (μ : Nat) (I : TI) (L : TL) (A : TA) (x1 : Int32) (H : Heap) (locs : List Loc) (ls : Array Slot), Inv μ I L A x1 → SS K s I L A H locs → lv_has ls 2 [(0, .ref o0), (1, .int x1)] → W p (cxl K) e (headSpec wsX4_clear (rmF 0 0)).room s m ([.ref o0] : List Value).toArray below meth c H locs 0 0 (MQ below (cxQv K Q) ([.ref o0] : List Value).toArray s 0 0 (PA (cxb K))) (F0 m 2 ls []) := by
      clear hi hz hl
      intro μ
      induction μ using Nat.strongRecOn with | ind μ ih => ?_
      intro I L A x1 H locs ls hi hz hl
      obtain ⟨C2, hCd⟩ : ∃ C : TI → TL → TA → Int32 → Prop, C = fun I L A x1 => ∃ μ', μ' < μ ∧ Inv μ' I L A x1 := ⟨_, rfl⟩
      have hC2 : ∀ (I : TI) (L : TL) (A : TA) (x1 : Int32) (H : Heap) (locs : List Loc) (ls : Array Slot), C2 I L A x1 → SS K s I L A H locs → lv_has ls 2 [(0, .ref o0), (1, .int x1)] → W p (cxl K) e (headSpec wsX4_clear (rmF 0 0)).room s m ([.ref o0] : List Value).toArray below meth c H locs 0 0 (MQ below (cxQv K Q) ([.ref o0] : List Value).toArray s 0 0 (PA (cxb K))) (F0 m 2 ls []) := by
        intro I L A x1 H locs ls hc hz hl
        rw [hCd] at hc
        obtain ⟨μ', hlt, hc⟩ := hc
        exact ih μ' hlt I L A x1 H locs ls hc hz hl
      have hwp := hst μ C2 (fun μ' I L A x1 hlt hc => by rw [hCd]; exact ⟨μ', hlt, hc⟩) I L A x1 hi
      refine lv_iload_n hx hb dX4_clear_2 rfl (lv_at hl 1 rfl) ?_
      refine lv_bipush (v := 13) hx hb dX4_clear_3 (by decide) ?_
      refine lv_icmp_ge (tgt := 21) hx hb dX4_clear_5 (by decide) (fun q => ?_) (fun q => ?_)
      · have hwp := hwp.1 q
        refine lv_aload_n hx hb dX4_clear_21 rfl (lv_at hl 0 rfl) ?_
        refine lv_iconst (v := (-1)) hx hb dX4_clear_22 (by decide) ?_
        obtain ⟨hs1, hwp⟩ := hwp
        refine sw_putI (C := RX4) (T := TX4) (N := 2) hx hb hts hw0 tyX4 tyX4_ok nmX4 hown hK hz hs1 rfl 1 (by decide) hw1 (fun _ h9 => h9) rfl (by decide +kernel) rfl dX4_clear_23 (fun H locs I2 e_I2 hz => ?_)
        have hwp := hwp I2 e_I2
        exact sw_vret hx hb hret hlocks hz hwp dX4_clear_26
      · have hwp := hwp.2 q
        refine lv_aload_n hx hb dX4_clear_8 rfl (lv_at hl 0 rfl) ?_
        obtain ⟨hs3, hwp⟩ := hwp
        refine sw_get (C := RX4) (T := TX4) (N := 2) (v := .ref (o0 + 1)) hx hb hts hw0 hown hK hz hs3 rfl 0 (by decide) hw2 (fun _ h9 => h9) rfl dX4_clear_9 ?_
        refine lv_iload_n hx hb dX4_clear_12 rfl (lv_at hl 1 rfl) ?_
        refine lv_lconst (v := 0) hx hb dX4_clear_13 (by decide) ?_
        obtain ⟨ho4, hwp⟩ := hwp
        refine sw_last hx hb hK hz ho4 dX4_clear_14 (fun H locs L5 e_L5 hz => ?_)
        have hwp := hwp L5 e_L5
        obtain ⟨v6, q_v6⟩ : ∃ y : Int32, y = x1 + 1 := ⟨_, rfl⟩
        have hwp := hwp v6 q_v6
        refine lv_iinc (v := v6) (lv' := [(1, .int v6), (0, .ref o0)]) hx hb dX4_clear_15 hl (k := 1) rfl (by rw [q_v6]; rfl) (by decide) rfl (fun ls hl => ?_)
        refine lv_goto (tgt := 2) hx hb dX4_clear_18 (by decide) ?_
        exact hC2 _ _ _ _ _ _ _ hwp hz (lv_sub hl [1, 0] rfl)
    exact key μ I L A x1 H locs ls hi hz hl
  refine lv_iconst (v := 0) hx hb dX4_clear_0 (by decide) ?_
  refine lv_istore_n (lv' := [(1, .int 0), (0, .ref o0)]) hx hb dX4_clear_1 rfl hl (by decide) rfl (fun ls hl => ?_)
  exact wL2 _ _ _ _ _ _ _ hwp hz (lv_sub hl [1, 0] rfl)

def wp_X4_becomeLine (K : Cx) (I : TI) (L : TL) (A : TA) (o0 : Nat) (j1 : Int64) (Q : TI → TL → TA → Prop) : Prop := cxS K o0 = shX4 o0 ∧ ∃ P2 : TI → TL → TA → Prop, ConV K yX4_clear wsX4_clear 0 0 I L A [.ref o0] P2 ∧ ∀ (I4 : TI) (L5 : TL) (A6 : TA), P2 I4 L5 A6 → aok (cxS K) (o0 + 1) 1 0 ∧ ∀ L8 : TL, L8 = u2 L5 (o0 + 1) (ix 0) j1 → aok (cxS K) (o0 + 1) 1 1 ∧ ∀ L10 : TL, L10 = u2 L8 (o0 + 1) (ix 1) 1 → ∀ I11 : TI, I11 = u2 I4 o0 1 1 → Q I11 L10 A6
set_option maxHeartbeats 1000000 in
set_option maxRecDepth 100000 in
theorem w_X4_becomeLine (K : Cx) (I : TI) (L : TL) (A : TA) (o0 : Nat) (j1 : Int64) (Q : TI → TL → TA → Prop) (hwp : wp_X4_becomeLine K I L A o0 j1 Q) : ConV K yX4_becomeLine wsX4_becomeLine 1 21 I L A [.ref o0, .long j1] Q := by
  intro hK sz
  refine Met.ofW (cc := cX4_becomeLine) (maxL := 3) (ret := none) (by decide) rfl ?_
  intro p e s m args below meth c s₁ B hml hv
  obtain ⟨rfl, hsz, hB⟩ := hv
  have hx := B.exec
  have hb := B.bytes
  have hret := B.returns
  have hts := atoms_spec (ws := wsX4_becomeLine) B.pre
  have hown : s.vm.findClass RX4 = some m.cls := findClass_of_methodNamed B.named
  have hlocks := B.notSynchronized
  subst hsz
  have hz : SS K s I L A s.heap [] := PS.start hB
  have hl := lv_entry ([.ref o0, .long j1]) (n := 3) (Nat.le_of_ble_eq_true rfl)
  rw [lg_entry_eq]
  generalize (lg_sl ([.ref o0, .long j1]) ++ List.replicate (3 - (lg_sl ([.ref o0, .long j1])).length) Slot.unset).toArray = ls at hl ⊢
  have hl : lv_has ls 3 [(0, .ref o0), (1, .long j1)] := hl
  have hw0 : ∀ w ∈ u_ws RX4 TX4 2, w ∈ wsX4_becomeLine := by decide +kernel
  have hw1 := hts (.fieldLink RX4 9 "GaloisDesk$Row" "c" "[J") (by decide +kernel)
  have hw2 := hts (.fieldLink RX4 15 "GaloisDesk$Row" "top" "I") (by decide +kernel)
  clear hB B
  refine lv_aload_n hx hb dX4_becomeLine_0 rfl (lv_at hl 0 rfl) ?_
  obtain ⟨hs1, hwp⟩ := hwp
  obtain ⟨P2, hc3, hwp⟩ := hwp
  refine sw_callv hz (va_runV (As := []) (rest := []) ⟨hx, hb, hml, hown, hts⟩ (hc3 hK _) (cwV 0 hts gX4_becomeLine_X4_clear rfl rfl rfl (by decide +kernel) ⟨Nat.le_of_ble_eq_true rfl, Nat.le_of_ble_eq_true rfl⟩) (hz.preV hK hs1 rfl) rfl rfl hl.1 rfl (lv_room (Nat.le_of_ble_eq_true rfl)) dX4_becomeLine_1 ⟨Nat.le_of_ble_eq_true rfl, Nat.le_of_ble_eq_true rfl⟩) (fun I4 L5 A6 H locs hp hz => ?_)
  have hwp := hwp I4 L5 A6 hp
  refine lv_aload_n hx hb dX4_becomeLine_4 rfl (lv_at hl 0 rfl) ?_
  refine sw_get (C := RX4) (T := TX4) (N := 2) (v := .ref (o0 + 1)) hx hb hts hw0 hown hK hz hs1 rfl 0 (by decide) hw1 (fun _ h9 => h9) rfl dX4_becomeLine_5 ?_
  refine lv_iconst (v := 0) hx hb dX4_becomeLine_8 (by decide) ?_
  refine lv_lload_n hx hb dX4_becomeLine_9 rfl (lv_at hl 1 rfl) ?_
  obtain ⟨ho7, hwp⟩ := hwp
  refine sw_last hx hb hK hz ho7 dX4_becomeLine_10 (fun H locs L8 e_L8 hz => ?_)
  have hwp := hwp L8 e_L8
  refine lv_aload_n hx hb dX4_becomeLine_11 rfl (lv_at hl 0 rfl) ?_
  refine sw_get (C := RX4) (T := TX4) (N := 2) (v := .ref (o0 + 1)) hx hb hts hw0 hown hK hz hs1 rfl 0 (by decide) hw1 (fun _ h9 => h9) rfl dX4_becomeLine_12 ?_
  refine lv_iconst (v := 1) hx hb dX4_becomeLine_15 (by decide) ?_
  refine lv_lconst (v := 1) hx hb dX4_becomeLine_16 (by decide) ?_
  obtain ⟨ho9, hwp⟩ := hwp
  refine sw_last hx hb hK hz ho9 dX4_becomeLine_17 (fun H locs L10 e_L10 hz => ?_)
  have hwp := hwp L10 e_L10
  refine lv_aload_n hx hb dX4_becomeLine_18 rfl (lv_at hl 0 rfl) ?_
  refine lv_iconst (v := 1) hx hb dX4_becomeLine_19 (by decide) ?_
  refine sw_putI (C := RX4) (T := TX4) (N := 2) hx hb hts hw0 tyX4 tyX4_ok nmX4 hown hK hz hs1 rfl 1 (by decide) hw2 (fun _ h9 => h9) rfl (by decide +kernel) rfl dX4_becomeLine_20 (fun H locs I11 e_I11 hz => ?_)
  have hwp := hwp I11 e_I11
  exact sw_vret hx hb hret hlocks hz hwp dX4_becomeLine_23

def wp_X4_becomeNumber (K : Cx) (I : TI) (L : TL) (A : TA) (o0 : Nat) (j1 : Int64) (Q : TI → TL → TA → Prop) : Prop := cxS K o0 = shX4 o0 ∧ ∃ P2 : TI → TL → TA → Prop, ConV K yX4_clear wsX4_clear 0 0 I L A [.ref o0] P2 ∧ ∀ (I4 : TI) (L5 : TL) (A6 : TA), P2 I4 L5 A6 → aok (cxS K) (o0 + 1) 1 0 ∧ ∀ L8 : TL, L8 = u2 L5 (o0 + 1) (ix 0) j1 → ((j1 = 0 → ∀ I10 : TI, I10 = u2 I4 o0 1 (-1) → Q I10 L8 A6) ∧ (¬ j1 = 0 → ∀ I9 : TI, I9 = u2 I4 o0 1 0 → Q I9 L8 A6))
set_option maxHeartbeats 1000000 in
set_option maxRecDepth 100000 in
theorem w_X4_becomeNumber (K : Cx) (I : TI) (L : TL) (A : TA) (o0 : Nat) (j1 : Int64) (Q : TI → TL → TA → Prop) (hwp : wp_X4_becomeNumber K I L A o0 j1 Q) : ConV K yX4_becomeNumber wsX4_becomeNumber 1 21 I L A [.ref o0, .long j1] Q := by
  intro hK sz
  refine Met.ofW (cc := cX4_becomeNumber) (maxL := 3) (ret := none) (by decide) rfl ?_
  intro p e s m args below meth c s₁ B hml hv
  obtain ⟨rfl, hsz, hB⟩ := hv
  have hx := B.exec
  have hb := B.bytes
  have hret := B.returns
  have hts := atoms_spec (ws := wsX4_becomeNumber) B.pre
  have hown : s.vm.findClass RX4 = some m.cls := findClass_of_methodNamed B.named
  have hlocks := B.notSynchronized
  subst hsz
  have hz : SS K s I L A s.heap [] := PS.start hB
  have hl := lv_entry ([.ref o0, .long j1]) (n := 3) (Nat.le_of_ble_eq_true rfl)
  rw [lg_entry_eq]
  generalize (lg_sl ([.ref o0, .long j1]) ++ List.replicate (3 - (lg_sl ([.ref o0, .long j1])).length) Slot.unset).toArray = ls at hl ⊢
  have hl : lv_has ls 3 [(0, .ref o0), (1, .long j1)] := hl
  have hw0 : ∀ w ∈ u_ws RX4 TX4 2, w ∈ wsX4_becomeNumber := by decide +kernel
  have hw1 := hts (.fieldLink RX4 9 "GaloisDesk$Row" "c" "[J") (by decide +kernel)
  have hw2 := hts (.fieldLink RX4 15 "GaloisDesk$Row" "top" "I") (by decide +kernel)
  clear hB B
  refine lv_aload_n hx hb dX4_becomeNumber_0 rfl (lv_at hl 0 rfl) ?_
  obtain ⟨hs1, hwp⟩ := hwp
  obtain ⟨P2, hc3, hwp⟩ := hwp
  refine sw_callv hz (va_runV (As := []) (rest := []) ⟨hx, hb, hml, hown, hts⟩ (hc3 hK _) (cwV 0 hts gX4_becomeNumber_X4_clear rfl rfl rfl (by decide +kernel) ⟨Nat.le_of_ble_eq_true rfl, Nat.le_of_ble_eq_true rfl⟩) (hz.preV hK hs1 rfl) rfl rfl hl.1 rfl (lv_room (Nat.le_of_ble_eq_true rfl)) dX4_becomeNumber_1 ⟨Nat.le_of_ble_eq_true rfl, Nat.le_of_ble_eq_true rfl⟩) (fun I4 L5 A6 H locs hp hz => ?_)
  have hwp := hwp I4 L5 A6 hp
  refine lv_aload_n hx hb dX4_becomeNumber_4 rfl (lv_at hl 0 rfl) ?_
  refine sw_get (C := RX4) (T := TX4) (N := 2) (v := .ref (o0 + 1)) hx hb hts hw0 hown hK hz hs1 rfl 0 (by decide) hw1 (fun _ h9 => h9) rfl dX4_becomeNumber_5 ?_
  refine lv_iconst (v := 0) hx hb dX4_becomeNumber_8 (by decide) ?_
  refine lv_lload_n hx hb dX4_becomeNumber_9 rfl (lv_at hl 1 rfl) ?_
  obtain ⟨ho7, hwp⟩ := hwp
  refine sw_last hx hb hK hz ho7 dX4_becomeNumber_10 (fun H locs L8 e_L8 hz => ?_)
  have hwp := hwp L8 e_L8
  refine lv_aload_n hx hb dX4_becomeNumber_11 rfl (lv_at hl 0 rfl) ?_
  refine lv_lload_n hx hb dX4_becomeNumber_12 rfl (lv_at hl 1 rfl) ?_
  refine lv_lconst (v := 0) hx hb dX4_becomeNumber_13 (by decide) ?_
  refine W.lcmp hx hb dX4_becomeNumber_14 ?_
  refine W.eq (g2 := F0 m 15 ls [.int (lg_cmp j1 0), .ref o0]) rfl ?_
  refine lv_if_ne (tgt := 22) hx hb dX4_becomeNumber_15 (by decide) (fun q => ?_) (fun q => ?_)
  · have hwp := hwp.2 (fun h => q ((lg_cmp_eq _ _).mpr h))
    refine lv_iconst (v := 0) hx hb dX4_becomeNumber_22 (by decide) ?_
    refine sw_putI (C := RX4) (T := TX4) (N := 2) hx hb hts hw0 tyX4 tyX4_ok nmX4 hown hK hz hs1 rfl 1 (by decide) hw2 (fun _ h9 => h9) rfl (by decide +kernel) rfl dX4_becomeNumber_23 (fun H locs I9 e_I9 hz => ?_)
    have hwp := hwp I9 e_I9
    exact sw_vret hx hb hret hlocks hz hwp dX4_becomeNumber_26
  · have hwp := hwp.1 ((lg_cmp_eq _ _).mp q)
    refine lv_iconst (v := (-1)) hx hb dX4_becomeNumber_18 (by decide) ?_
    refine lv_goto (tgt := 23) hx hb dX4_becomeNumber_19 (by decide) ?_
    refine sw_putI (C := RX4) (T := TX4) (N := 2) hx hb hts hw0 tyX4 tyX4_ok nmX4 hown hK hz hs1 rfl 1 (by decide) hw2 (fun _ h9 => h9) rfl (by decide +kernel) rfl dX4_becomeNumber_23 (fun H locs I10 e_I10 hz => ?_)
    have hwp := hwp I10 e_I10
    exact sw_vret hx hb hret hlocks hz hwp dX4_becomeNumber_26

def wp_X4_settle_7 (K : Cx) (o0 : Nat) (I : TI) (L : TL) (A : TA) (x1 : Int32) (Q : TI → TL → TA → Prop) : Prop := ∃ (Inv : Nat → TI → TL → TA → Int32 → Prop) (μ : Nat), Inv μ I L A x1 ∧ ∀ (μ : Nat) (C7 : TI → TL → TA → Int32 → Prop), (∀ (μ' : Nat) (I : TI) (L : TL) (A : TA) (x1 : Int32) , μ' < μ → Inv μ' I L A x1 → C7 I L A x1) → ∀ (I : TI) (L : TL) (A : TA) (x1 : Int32) , Inv μ I L A x1 → ((13 ≤ x1 → Q I L A) ∧ (¬ 13 ≤ x1 → cxS K o0 = shX4 o0 ∧ aok (cxS K) (o0 + 1) 1 x1 ∧ (((L (o0 + 1) (ix x1)) = 0 → ∀ v3 : Int32, v3 = x1 + 1 → C7 I L A v3) ∧ (¬ (L (o0 + 1) (ix x1)) = 0 → ∀ I4 : TI, I4 = u2 I o0 1 x1 → ∀ v5 : Int32, v5 = x1 + 1 → C7 I4 L A v5))))
def wp_X4_settle (K : Cx) (I : TI) (L : TL) (A : TA) (o0 : Nat) (Q : TI → TL → TA → Prop) : Prop := cxS K o0 = shX4 o0 ∧ ∀ I7 : TI, I7 = u2 I o0 1 (-1) → wp_X4_settle_7 K o0 I7 L A 0 Q
set_option maxHeartbeats 1000000 in
set_option maxRecDepth 100000 in
theorem w_X4_settle (K : Cx) (I : TI) (L : TL) (A : TA) (o0 : Nat) (Q : TI → TL → TA → Prop) (hwp : wp_X4_settle K I L A o0 Q) : ConV K yX4_settle wsX4_settle 0 0 I L A [.ref o0] Q := by
  intro hK sz
  refine Met.ofW (cc := cX4_settle) (maxL := 2) (ret := none) (by decide) rfl ?_
  intro p e s m args below meth c s₁ B hml hv
  obtain ⟨rfl, hsz, hB⟩ := hv
  have hx := B.exec
  have hb := B.bytes
  have hret := B.returns
  have hts := atoms_spec (ws := wsX4_settle) B.pre
  have hown : s.vm.findClass RX4 = some m.cls := findClass_of_methodNamed B.named
  have hlocks := B.notSynchronized
  subst hsz
  have hz : SS K s I L A s.heap [] := PS.start hB
  have hl := lv_entry ([.ref o0]) (n := 2) (Nat.le_of_ble_eq_true rfl)
  rw [lg_entry_eq]
  generalize (lg_sl ([.ref o0]) ++ List.replicate (2 - (lg_sl ([.ref o0])).length) Slot.unset).toArray = ls at hl ⊢
  have hl : lv_has ls 2 [(0, .ref o0)] := hl
  have hw0 : ∀ w ∈ u_ws RX4 TX4 2, w ∈ wsX4_settle := by decide +kernel
  have hw1 := hts (.fieldLink RX4 9 "GaloisDesk$Row" "c" "[J") (by decide +kernel)
  have hw2 := hts (.fieldLink RX4 15 "GaloisDesk$Row" "top" "I") (by decide +kernel)
  clear hB B
  have wL7 : ∀ (I : TI) (L : TL) (A : TA) (x1 : Int32) (H : Heap) (locs : List Loc) (ls : Array Slot), wp_X4_settle_7 K o0 I L A x1 Q → SS K s I L A H locs → lv_has ls 2 [(0, .ref o0), (1, .int x1)] → W p (cxl K) e (headSpec wsX4_settle (rmF 0 0)).room s m ([.ref o0] : List Value).toArray below meth c H locs 0 0 (MQ below (cxQv K Q) ([.ref o0] : List Value).toArray s 0 0 (PA (cxb K))) (F0 m 7 ls []) := by
    intro I L A x1 H locs ls hwp hz hl
    obtain ⟨Inv, μ, hi, hst⟩ := hwp
    have key : ∀ (μ : Nat) (I : TI) (L : TL) (A : TA) (x1 : Int32) (H : Heap) (locs : List Loc) (ls : Array Slot), Inv μ I L A x1 → SS K s I L A H locs → lv_has ls 2 [(0, .ref o0), (1, .int x1)] → W p (cxl K) e (headSpec wsX4_settle (rmF 0 0)).room s m ([.ref o0] : List Value).toArray below meth c H locs 0 0 (MQ below (cxQv K Q) ([.ref o0] : List Value).toArray s 0 0 (PA (cxb K))) (F0 m 7 ls []) := by
      clear hi hz hl
      intro μ
      induction μ using Nat.strongRecOn with | ind μ ih => ?_
      intro I L A x1 H locs ls hi hz hl
      obtain ⟨C7, hCd⟩ : ∃ C : TI → TL → TA → Int32 → Prop, C = fun I L A x1 => ∃ μ', μ' < μ ∧ Inv μ' I L A x1 := ⟨_, rfl⟩
      have hC7 : ∀ (I : TI) (L : TL) (A : TA) (x1 : Int32) (H : Heap) (locs : List Loc) (ls : Array Slot), C7 I L A x1 → SS K s I L A H locs → lv_has ls 2 [(0, .ref o0), (1, .int x1)] → W p (cxl K) e (headSpec wsX4_settle (rmF 0 0)).room s m ([.ref o0] : List Value).toArray below meth c H locs 0 0 (MQ below (cxQv K Q) ([.ref o0] : List Value).toArray s 0 0 (PA (cxb K))) (F0 m 7 ls []) := by
        intro I L A x1 H locs ls hc hz hl
        rw [hCd] at hc
        obtain ⟨μ', hlt, hc⟩ := hc
        exact ih μ' hlt I L A x1 H locs ls hc hz hl
      have hwp := hst μ C7 (fun μ' I L A x1 hlt hc => by rw [hCd]; exact ⟨μ', hlt, hc⟩) I L A x1 hi
      refine lv_iload_n hx hb dX4_settle_7 rfl (lv_at hl 1 rfl) ?_
      refine lv_bipush (v := 13) hx hb dX4_settle_8 (by decide) ?_
      refine lv_icmp_ge (tgt := 35) hx hb dX4_settle_10 (by decide) (fun q => ?_) (fun q => ?_)
      · have hwp := hwp.1 q
        exact sw_vret hx hb hret hlocks hz hwp dX4_settle_35
      · have hwp := hwp.2 q
        refine lv_aload_n hx hb dX4_settle_13 rfl (lv_at hl 0 rfl) ?_
        obtain ⟨hs1, hwp⟩ := hwp
        refine sw_get (C := RX4) (T := TX4) (N := 2) (v := .ref (o0 + 1)) hx hb hts hw0 hown hK hz hs1 rfl 0 (by decide) hw1 (fun _ h9 => h9) rfl dX4_settle_14 ?_
        refine lv_iload_n hx hb dX4_settle_17 rfl (lv_at hl 1 rfl) ?_
        obtain ⟨ho2, hwp⟩ := hwp
        refine sw_lald hx hb hK hz ho2 dX4_settle_18 ?_
        refine lv_lconst (v := 0) hx hb dX4_settle_19 (by decide) ?_
        refine W.lcmp hx hb dX4_settle_20 ?_
        refine W.eq (g2 := F0 m 21 ls [.int (lg_cmp (L (o0 + 1) (ix x1)) 0)]) rfl ?_
        refine lv_if_eq (tgt := 29) hx hb dX4_settle_21 (by decide) (fun q => ?_) (fun q => ?_)
        · have hwp := hwp.1 ((lg_cmp_eq _ _).mp q)
          obtain ⟨v3, q_v3⟩ : ∃ y : Int32, y = x1 + 1 := ⟨_, rfl⟩
          have hwp := hwp v3 q_v3
          refine lv_iinc (v := v3) (lv' := [(1, .int v3), (0, .ref o0)]) hx hb dX4_settle_29 hl (k := 1) rfl (by rw [q_v3]; rfl) (by decide) rfl (fun ls hl => ?_)
          refine lv_goto (tgt := 7) hx hb dX4_settle_32 (by decide) ?_
          exact hC7 _ _ _ _ _ _ _ hwp hz (lv_sub hl [1, 0] rfl)
        · have hwp := hwp.2 (fun h => q ((lg_cmp_eq _ _).mpr h))
          refine lv_aload_n hx hb dX4_settle_24 rfl (lv_at hl 0 rfl) ?_
          refine lv_iload_n hx hb dX4_settle_25 rfl (lv_at hl 1 rfl) ?_
          refine sw_putI (C := RX4) (T := TX4) (N := 2) hx hb hts hw0 tyX4 tyX4_ok nmX4 hown hK hz hs1 rfl 1 (by decide) hw2 (fun _ h9 => h9) rfl (by decide +kernel) rfl dX4_settle_26 (fun H locs I4 e_I4 hz => ?_)
          have hwp := hwp I4 e_I4
          obtain ⟨v5, q_v5⟩ : ∃ y : Int32, y = x1 + 1 := ⟨_, rfl⟩
          have hwp := hwp v5 q_v5
          refine lv_iinc (v := v5) (lv' := [(1, .int v5), (0, .ref o0)]) hx hb dX4_settle_29 hl (k := 1) rfl (by rw [q_v5]; rfl) (by decide) rfl (fun ls hl => ?_)
          refine lv_goto (tgt := 7) hx hb dX4_settle_32 (by decide) ?_
          exact hC7 _ _ _ _ _ _ _ hwp hz (lv_sub hl [1, 0] rfl)
    exact key μ I L A x1 H locs ls hi hz hl
  refine lv_aload_n hx hb dX4_settle_0 rfl (lv_at hl 0 rfl) ?_
  refine lv_iconst (v := (-1)) hx hb dX4_settle_1 (by decide) ?_
  obtain ⟨hs6, hwp⟩ := hwp
  refine sw_putI (C := RX4) (T := TX4) (N := 2) hx hb hts hw0 tyX4 tyX4_ok nmX4 hown hK hz hs6 rfl 1 (by decide) hw2 (fun _ h9 => h9) rfl (by decide +kernel) rfl dX4_settle_2 (fun H locs I7 e_I7 hz => ?_)
  have hwp := hwp I7 e_I7
  refine lv_iconst (v := 0) hx hb dX4_settle_5 (by decide) ?_
  refine lv_istore_n (lv' := [(1, .int 0), (0, .ref o0)]) hx hb dX4_settle_6 rfl hl (by decide) rfl (fun ls hl => ?_)
  exact wL7 _ _ _ _ _ _ _ hwp hz (lv_sub hl [1, 0] rfl)

def wp_X4_becomeProduct_17 (K : Cx) (o0 : Nat) (o1 : Nat) (o2 : Nat) (C6 : TI → TL → TA → Int32 → Prop) (I : TI) (L : TL) (A : TA) (x3 : Int32) (x4 : Int32) (Q : TI → TL → TA → Prop) : Prop := ∃ (Inv : Nat → TI → TL → TA → Int32 → Int32 → Prop) (μ : Nat), Inv μ I L A x3 x4 ∧ ∀ (μ : Nat) (C17 : TI → TL → TA → Int32 → Int32 → Prop), (∀ (μ' : Nat) (I : TI) (L : TL) (A : TA) (x3 : Int32) (x4 : Int32) , μ' < μ → Inv μ' I L A x3 x4 → C17 I L A x3 x4) → ∀ (I : TI) (L : TL) (A : TA) (x3 : Int32) (x4 : Int32) , Inv μ I L A x3 x4 → cxS K o2 = shX4 o2 ∧ (((I o2 1) < x4 → ∀ v2 : Int32, v2 = x3 + 1 → C6 I L A v2) ∧ (¬ (I o2 1) < x4 → ((13 ≤ (x3 + x4) → ∀ v3 : Int32, v3 = x3 + 1 → C6 I L A v3) ∧ (¬ 13 ≤ (x3 + x4) → cxS K o0 = shX4 o0 ∧ aok (cxS K) (o0 + 1) 1 (x3 + x4) ∧ cxS K o1 = shX4 o1 ∧ aok (cxS K) (o1 + 1) 1 x3 ∧ aok (cxS K) (o2 + 1) 1 x4 ∧ aok (cxS K) (o0 + 1) 1 (x3 + x4) ∧ ∀ L10 : TL, L10 = u2 L (o0 + 1) (ix (x3 + x4)) ((L (o0 + 1) (ix (x3 + x4))) + ((L (o1 + 1) (ix x3)) * (L (o2 + 1) (ix x4)))) → ∀ v11 : Int32, v11 = x4 + 1 → C17 I L10 A x3 v11))))
def wp_X4_becomeProduct_6 (K : Cx) (o0 : Nat) (o1 : Nat) (o2 : Nat) (I : TI) (L : TL) (A : TA) (x3 : Int32) (Q : TI → TL → TA → Prop) : Prop := ∃ (Inv : Nat → TI → TL → TA → Int32 → Prop) (μ : Nat), Inv μ I L A x3 ∧ ∀ (μ : Nat) (C6 : TI → TL → TA → Int32 → Prop), (∀ (μ' : Nat) (I : TI) (L : TL) (A : TA) (x3 : Int32) , μ' < μ → Inv μ' I L A x3 → C6 I L A x3) → ∀ (I : TI) (L : TL) (A : TA) (x3 : Int32) , Inv μ I L A x3 → cxS K o1 = shX4 o1 ∧ (((I o1 1) < x3 → cxS K o0 = shX4 o0 ∧ ∃ P14 : TI → TL → TA → Prop, ConV K yX4_settle wsX4_settle 0 0 I L A [.ref o0] P14 ∧ ∀ (I16 : TI) (L17 : TL) (A18 : TA), P14 I16 L17 A18 → Q I16 L17 A18) ∧ (¬ (I o1 1) < x3 → wp_X4_becomeProduct_17 K o0 o1 o2 C6 I L A x3 0 Q))
def wp_X4_becomeProduct (K : Cx) (I : TI) (L : TL) (A : TA) (o0 : Nat) (o1 : Nat) (o2 : Nat) (Q : TI → TL → TA → Prop) : Prop := cxS K o0 = shX4 o0 ∧ ∃ P20 : TI → TL → TA → Prop, ConV K yX4_clear wsX4_clear 0 0 I L A [.ref o0] P20 ∧ ∀ (I22 : TI) (L23 : TL) (A24 : TA), P20 I22 L23 A24 → wp_X4_becomeProduct_6 K o0 o1 o2 I22 L23 A24 0 Q
set_option maxHeartbeats 1000000 in
set_option maxRecDepth 100000 in
theorem w_X4_becomeProduct (K : Cx) (I : TI) (L : TL) (A : TA) (o0 : Nat) (o1 : Nat) (o2 : Nat) (Q : TI → TL → TA → Prop) (hwp : wp_X4_becomeProduct K I L A o0 o1 o2 Q) : ConV K yX4_becomeProduct wsX4_becomeProduct 1 21 I L A [.ref o0, .ref o1, .ref o2] Q := by
  intro hK sz
  refine Met.ofW (cc := cX4_becomeProduct) (maxL := 5) (ret := none) (by decide) rfl ?_
  intro p e s m args below meth c s₁ B hml hv
  obtain ⟨rfl, hsz, hB⟩ := hv
  have hx := B.exec
  have hb := B.bytes
  have hret := B.returns
  have hts := atoms_spec (ws := wsX4_becomeProduct) B.pre
  have hown : s.vm.findClass RX4 = some m.cls := findClass_of_methodNamed B.named
  have hlocks := B.notSynchronized
  subst hsz
  have hz : SS K s I L A s.heap [] := PS.start hB
  have hl := lv_entry ([.ref o0, .ref o1, .ref o2]) (n := 5) (Nat.le_of_ble_eq_true rfl)
  rw [lg_entry_eq]
  generalize (lg_sl ([.ref o0, .ref o1, .ref o2]) ++ List.replicate (5 - (lg_sl ([.ref o0, .ref o1, .ref o2])).length) Slot.unset).toArray = ls at hl ⊢
  have hl : lv_has ls 5 [(0, .ref o0), (1, .ref o1), (2, .ref o2)] := hl
  have hw0 : ∀ w ∈ u_ws RX4 TX4 2, w ∈ wsX4_becomeProduct := by decide +kernel
  have hw1 := hts (.fieldLink RX4 15 "GaloisDesk$Row" "top" "I") (by decide +kernel)
  have hw2 := hts (.fieldLink RX4 9 "GaloisDesk$Row" "c" "[J") (by decide +kernel)
  clear hB B
  have wL17 : ∀ (C6 : TI → TL → TA → Int32 → Prop) (hC6 : ∀ (I : TI) (L : TL) (A : TA) (x3 : Int32) (H : Heap) (locs : List Loc) (ls : Array Slot), C6 I L A x3 → SS K s I L A H locs → lv_has ls 5 [(0, .ref o0), (1, .ref o1), (2, .ref o2), (3, .int x3)] → W p (cxl K) e (headSpec wsX4_becomeProduct (rmF 1 21)).room s m ([.ref o0, .ref o1, .ref o2] : List Value).toArray below meth c H locs 0 0 (MQ below (cxQv K Q) ([.ref o0, .ref o1, .ref o2] : List Value).toArray s 0 0 (PA (cxb K))) (F0 m 6 ls [])) (I : TI) (L : TL) (A : TA) (x3 : Int32) (x4 : Int32) (H : Heap) (locs : List Loc) (ls : Array Slot), wp_X4_becomeProduct_17 K o0 o1 o2 C6 I L A x3 x4 Q → SS K s I L A H locs → lv_has ls 5 [(0, .ref o0), (1, .ref o1), (2, .ref o2), (3, .int x3), (4, .int x4)] → W p (cxl K) e (headSpec wsX4_becomeProduct (rmF 1 21)).room s m ([.ref o0, .ref o1, .ref o2] : List Value).toArray below meth c H locs 0 0 (MQ below (cxQv K Q) ([.ref o0, .ref o1, .ref o2] : List Value).toArray s 0 0 (PA (cxb K))) (F0 m 17 ls []) := by
    intro C6 hC6 I L A x3 x4 H locs ls hwp hz hl
    obtain ⟨Inv, μ, hi, hst⟩ := hwp
    have key : ∀ (μ : Nat) (I : TI) (L : TL) (A : TA) (x3 : Int32) (x4 : Int32) (H : Heap) (locs : List Loc) (ls : Array Slot), Inv μ I L A x3 x4 → SS K s I L A H locs → lv_has ls 5 [(0, .ref o0), (1, .ref o1), (2, .ref o2), (3, .int x3), (4, .int x4)] → W p (cxl K) e (headSpec wsX4_becomeProduct (rmF 1 21)).room s m ([.ref o0, .ref o1, .ref o2] : List Value).toArray below meth c H locs 0 0 (MQ below (cxQv K Q) ([.ref o0, .ref o1, .ref o2] : List Value).toArray s 0 0 (PA (cxb K))) (F0 m 17 ls []) := by
      clear hi hz hl
      intro μ
      induction μ using Nat.strongRecOn with | ind μ ih => ?_
      intro I L A x3 x4 H locs ls hi hz hl
      obtain ⟨C17, hCd⟩ : ∃ C : TI → TL → TA → Int32 → Int32 → Prop, C = fun I L A x3 x4 => ∃ μ', μ' < μ ∧ Inv μ' I L A x3 x4 := ⟨_, rfl⟩
      have hC17 : ∀ (I : TI) (L : TL) (A : TA) (x3 : Int32) (x4 : Int32) (H : Heap) (locs : List Loc) (ls : Array Slot), C17 I L A x3 x4 → SS K s I L A H locs → lv_has ls 5 [(0, .ref o0), (1, .ref o1), (2, .ref o2), (3, .int x3), (4, .int x4)] → W p (cxl K) e (headSpec wsX4_becomeProduct (rmF 1 21)).room s m ([.ref o0, .ref o1, .ref o2] : List Value).toArray below meth c H locs 0 0 (MQ below (cxQv K Q) ([.ref o0, .ref o1, .ref o2] : List Value).toArray s 0 0 (PA (cxb K))) (F0 m 17 ls []) := by
        intro I L A x3 x4 H locs ls hc hz hl
        rw [hCd] at hc
        obtain ⟨μ', hlt, hc⟩ := hc
        exact ih μ' hlt I L A x3 x4 H locs ls hc hz hl
      have hwp := hst μ C17 (fun μ' I L A x3 x4 hlt hc => by rw [hCd]; exact ⟨μ', hlt, hc⟩) I L A x3 x4 hi
      refine lv_iload hx hb dX4_becomeProduct_17 (lv_at hl 4 rfl) ?_
      refine lv_aload_n hx hb dX4_becomeProduct_19 rfl (lv_at hl 2 rfl) ?_
      obtain ⟨hs1, hwp⟩ := hwp
      refine sw_get (C := RX4) (T := TX4) (N := 2) (v := .int (I o2 1)) hx hb hts hw0 hown hK hz hs1 rfl 1 (by decide) hw1 (fun _ h9 => h9) rfl dX4_becomeProduct_20 ?_
      refine lv_icmp_gt (tgt := 67) hx hb dX4_becomeProduct_23 (by decide) (fun q => ?_) (fun q => ?_)
      · have hwp := hwp.1 q
        obtain ⟨v2, q_v2⟩ : ∃ y : Int32, y = x3 + 1 := ⟨_, rfl⟩
        have hwp := hwp v2 q_v2
        refine lv_iinc (v := v2) (lv' := [(3, .int v2), (0, .ref o0), (1, .ref o1), (2, .ref o2), (4, .int x4)]) hx hb dX4_becomeProduct_67 hl (k := 3) rfl (by rw [q_v2]; rfl) (by decide) rfl (fun ls hl => ?_)
        refine lv_goto (tgt := 6) hx hb dX4_becomeProduct_70 (by decide) ?_
        exact hC6 _ _ _ _ _ _ _ hwp hz (lv_sub hl [1, 2, 3, 0] rfl)
      · have hwp := hwp.2 q
        refine lv_iload_n hx hb dX4_becomeProduct_26 rfl (lv_at hl 3 rfl) ?_
        refine lv_iload hx hb dX4_becomeProduct_27 (lv_at hl 4 rfl) ?_
        refine lv_iadd hx hb dX4_becomeProduct_29 ?_
        refine lv_bipush (v := 13) hx hb dX4_becomeProduct_30 (by decide) ?_
        refine lv_icmp_ge (tgt := 67) hx hb dX4_becomeProduct_32 (by decide) (fun q => ?_) (fun q => ?_)
        · have hwp := hwp.1 q
          obtain ⟨v3, q_v3⟩ : ∃ y : Int32, y = x3 + 1 := ⟨_, rfl⟩
          have hwp := hwp v3 q_v3
          refine lv_iinc (v := v3) (lv' := [(3, .int v3), (0, .ref o0), (1, .ref o1), (2, .ref o2), (4, .int x4)]) hx hb dX4_becomeProduct_67 hl (k := 3) rfl (by rw [q_v3]; rfl) (by decide) rfl (fun ls hl => ?_)
          refine lv_goto (tgt := 6) hx hb dX4_becomeProduct_70 (by decide) ?_
          exact hC6 _ _ _ _ _ _ _ hwp hz (lv_sub hl [1, 2, 3, 0] rfl)
        · have hwp := hwp.2 q
          refine lv_aload_n hx hb dX4_becomeProduct_35 rfl (lv_at hl 0 rfl) ?_
          obtain ⟨hs4, hwp⟩ := hwp
          refine sw_get (C := RX4) (T := TX4) (N := 2) (v := .ref (o0 + 1)) hx hb hts hw0 hown hK hz hs4 rfl 0 (by decide) hw2 (fun _ h9 => h9) rfl dX4_becomeProduct_36 ?_
          refine lv_iload_n hx hb dX4_becomeProduct_39 rfl (lv_at hl 3 rfl) ?_
          refine lv_iload hx hb dX4_becomeProduct_40 (lv_at hl 4 rfl) ?_
          refine lv_iadd hx hb dX4_becomeProduct_42 ?_
          refine lv_dup2_11 hx hb dX4_becomeProduct_43 rfl rfl ?_
          obtain ⟨ho5, hwp⟩ := hwp
          refine sw_lald hx hb hK hz ho5 dX4_becomeProduct_44 ?_
          refine lv_aload_n hx hb dX4_becomeProduct_45 rfl (lv_at hl 1 rfl) ?_
          obtain ⟨hs6, hwp⟩ := hwp
          refine sw_get (C := RX4) (T := TX4) (N := 2) (v := .ref (o1 + 1)) hx hb hts hw0 hown hK hz hs6 rfl 0 (by decide) hw2 (fun _ h9 => h9) rfl dX4_becomeProduct_46 ?_
          refine lv_iload_n hx hb dX4_becomeProduct_49 rfl (lv_at hl 3 rfl) ?_
          obtain ⟨ho7, hwp⟩ := hwp
          refine sw_lald hx hb hK hz ho7 dX4_becomeProduct_50 ?_
          refine lv_aload_n hx hb dX4_becomeProduct_51 rfl (lv_at hl 2 rfl) ?_
          refine sw_get (C := RX4) (T := TX4) (N := 2) (v := .ref (o2 + 1)) hx hb hts hw0 hown hK hz hs1 rfl 0 (by decide) hw2 (fun _ h9 => h9) rfl dX4_becomeProduct_52 ?_
          refine lv_iload hx hb dX4_becomeProduct_55 (lv_at hl 4 rfl) ?_
          obtain ⟨ho8, hwp⟩ := hwp
          refine sw_lald hx hb hK hz ho8 dX4_becomeProduct_57 ?_
          refine lv_lmul hx hb dX4_becomeProduct_58 ?_
          refine lv_ladd hx hb dX4_becomeProduct_59 ?_
          obtain ⟨ho9, hwp⟩ := hwp
          refine sw_last hx hb hK hz ho9 dX4_becomeProduct_60 (fun H locs L10 e_L10 hz => ?_)
          have hwp := hwp L10 e_L10
          obtain ⟨v11, q_v11⟩ : ∃ y : Int32, y = x4 + 1 := ⟨_, rfl⟩
          have hwp := hwp v11 q_v11
          refine lv_iinc (v := v11) (lv' := [(4, .int v11), (0, .ref o0), (1, .ref o1), (2, .ref o2), (3, .int x3)]) hx hb dX4_becomeProduct_61 hl (k := 4) rfl (by rw [q_v11]; rfl) (by decide) rfl (fun ls hl => ?_)
          refine lv_goto (tgt := 17) hx hb dX4_becomeProduct_64 (by decide) ?_
          exact hC17 _ _ _ _ _ _ _ _ hwp hz (lv_sub hl [1, 2, 3, 4, 0] rfl)
    exact key μ I L A x3 x4 H locs ls hi hz hl
  have wL6 : ∀ (I : TI) (L : TL) (A : TA) (x3 : Int32) (H : Heap) (locs : List Loc) (ls : Array Slot), wp_X4_becomeProduct_6 K o0 o1 o2 I L A x3 Q → SS K s I L A H locs → lv_has ls 5 [(0, .ref o0), (1, .ref o1), (2, .ref o2), (3, .int x3)] → W p (cxl K) e (headSpec wsX4_becomeProduct (rmF 1 21)).room s m ([.ref o0, .ref o1, .ref o2] : List Value).toArray below meth c H locs 0 0 (MQ below (cxQv K Q) ([.ref o0, .ref o1, .ref o2] : List Value).toArray s 0 0 (PA (cxb K))) (F0 m 6 ls []) := by
    intro I L A x3 H locs ls hwp hz hl
    obtain ⟨Inv, μ, hi, hst⟩ := hwp
    have key : ∀ (μ : Nat) (I : TI) (L : TL) (A : TA) (x3 : Int32) (H : Heap) (locs : List Loc) (ls : Array Slot), Inv μ I L A x3 → SS K s I L A H locs → lv_has ls 5 [(0, .ref o0), (1, .ref o1), (2, .ref o2), (3, .int x3)] → W p (cxl K) e (headSpec wsX4_becomeProduct (rmF 1 21)).room s m ([.ref o0, .ref o1, .ref o2] : List Value).toArray below meth c H locs 0 0 (MQ below (cxQv K Q) ([.ref o0, .ref o1, .ref o2] : List Value).toArray s 0 0 (PA (cxb K))) (F0 m 6 ls []) := by
      clear hi hz hl
      intro μ
      induction μ using Nat.strongRecOn with | ind μ ih => ?_
      intro I L A x3 H locs ls hi hz hl
      obtain ⟨C6, hCd⟩ : ∃ C : TI → TL → TA → Int32 → Prop, C = fun I L A x3 => ∃ μ', μ' < μ ∧ Inv μ' I L A x3 := ⟨_, rfl⟩
      have hC6 : ∀ (I : TI) (L : TL) (A : TA) (x3 : Int32) (H : Heap) (locs : List Loc) (ls : Array Slot), C6 I L A x3 → SS K s I L A H locs → lv_has ls 5 [(0, .ref o0), (1, .ref o1), (2, .ref o2), (3, .int x3)] → W p (cxl K) e (headSpec wsX4_becomeProduct (rmF 1 21)).room s m ([.ref o0, .ref o1, .ref o2] : List Value).toArray below meth c H locs 0 0 (MQ below (cxQv K Q) ([.ref o0, .ref o1, .ref o2] : List Value).toArray s 0 0 (PA (cxb K))) (F0 m 6 ls []) := by
        intro I L A x3 H locs ls hc hz hl
        rw [hCd] at hc
        obtain ⟨μ', hlt, hc⟩ := hc
        exact ih μ' hlt I L A x3 H locs ls hc hz hl
      have hwp := hst μ C6 (fun μ' I L A x3 hlt hc => by rw [hCd]; exact ⟨μ', hlt, hc⟩) I L A x3 hi
      refine lv_iload_n hx hb dX4_becomeProduct_6 rfl (lv_at hl 3 rfl) ?_
      refine lv_aload_n hx hb dX4_becomeProduct_7 rfl (lv_at hl 1 rfl) ?_
      obtain ⟨hs12, hwp⟩ := hwp
      refine sw_get (C := RX4) (T := TX4) (N := 2) (v := .int (I o1 1)) hx hb hts hw0 hown hK hz hs12 rfl 1 (by decide) hw1 (fun _ h9 => h9) rfl dX4_becomeProduct_8 ?_
      refine lv_icmp_gt (tgt := 73) hx hb dX4_becomeProduct_11 (by decide) (fun q => ?_) (fun q => ?_)
      · have hwp := hwp.1 q
        refine lv_aload_n hx hb dX4_becomeProduct_73 rfl (lv_at hl 0 rfl) ?_
        obtain ⟨hs13, hwp⟩ := hwp
        obtain ⟨P14, hc15, hwp⟩ := hwp
        refine sw_callv hz (va_runV (As := []) (rest := []) ⟨hx, hb, hml, hown, hts⟩ (hc15 hK _) (cwV 0 hts gX4_becomeProduct_X4_settle rfl rfl rfl (by decide +kernel) ⟨Nat.le_of_ble_eq_true rfl, Nat.le_of_ble_eq_true rfl⟩) (hz.preV hK hs13 rfl) rfl rfl hl.1 rfl (lv_room (Nat.le_of_ble_eq_true rfl)) dX4_becomeProduct_74 ⟨Nat.le_of_ble_eq_true rfl, Nat.le_of_ble_eq_true rfl⟩) (fun I16 L17 A18 H locs hp hz => ?_)
        have hwp := hwp I16 L17 A18 hp
        exact sw_vret hx hb hret hlocks hz hwp dX4_becomeProduct_77
      · have hwp := hwp.2 q
        refine lv_iconst (v := 0) hx hb dX4_becomeProduct_14 (by decide) ?_
        refine lv_istore (lv' := [(4, .int 0), (0, .ref o0), (1, .ref o1), (2, .ref o2), (3, .int x3)]) hx hb dX4_becomeProduct_15 hl (by decide) rfl (fun ls hl => ?_)
        exact wL17 _ hC6 _ _ _ _ _ _ _ _ hwp hz (lv_sub hl [1, 2, 3, 4, 0] rfl)
    exact key μ I L A x3 H locs ls hi hz hl
  refine lv_aload_n hx hb dX4_becomeProduct_0 rfl (lv_at hl 0 rfl) ?_
  obtain ⟨hs19, hwp⟩ := hwp
  obtain ⟨P20, hc21, hwp⟩ := hwp
  refine sw_callv hz (va_runV (As := []) (rest := []) ⟨hx, hb, hml, hown, hts⟩ (hc21 hK _) (cwV 0 hts gX4_becomeProduct_X4_clear rfl rfl rfl (by decide +kernel) ⟨Nat.le_of_ble_eq_true rfl, Nat.le_of_ble_eq_true rfl⟩) (hz.preV hK hs19 rfl) rfl rfl hl.1 rfl (lv_room (Nat.le_of_ble_eq_true rfl)) dX4_becomeProduct_1 ⟨Nat.le_of_ble_eq_true rfl, Nat.le_of_ble_eq_true rfl⟩) (fun I22 L23 A24 H locs hp hz => ?_)
  have hwp := hwp I22 L23 A24 hp
  refine lv_iconst (v := 0) hx hb dX4_becomeProduct_4 (by decide) ?_
  refine lv_istore_n (lv' := [(3, .int 0), (0, .ref o0), (1, .ref o1), (2, .ref o2)]) hx hb dX4_becomeProduct_5 rfl hl (by decide) rfl (fun ls hl => ?_)
  exact wL6 _ _ _ _ _ _ _ hwp hz (lv_sub hl [1, 2, 3, 0] rfl)

def wp_X4_lead (K : Cx) (I : TI) (L : TL) (A : TA) (o0 : Nat) (Q : Int64 → TI → TL → TA → Prop) : Prop := cxS K o0 = shX4 o0 ∧ ∃ P2 : Int64 → TI → TL → TA → Prop, ConL K yX4_at wsX4_at 0 0 I L A [.ref o0, .int (I o0 1)] P2 ∧ ∀ (r7 : Int64) (I4 : TI) (L5 : TL) (A6 : TA), P2 r7 I4 L5 A6 → Q r7 I4 L5 A6
set_option maxHeartbeats 1000000 in
set_option maxRecDepth 100000 in
theorem w_X4_lead (K : Cx) (I : TI) (L : TL) (A : TA) (o0 : Nat) (Q : Int64 → TI → TL → TA → Prop) (hwp : wp_X4_lead K I L A o0 Q) : ConL K yX4_lead wsX4_lead 1 21 I L A [.ref o0] Q := by
  intro hK sz
  refine Met.ofW (cc := cX4_lead) (maxL := 1) (ret := (some .long)) (by decide) rfl ?_
  intro p e s m args below meth c s₁ B hml hv
  obtain ⟨rfl, hsz, hB⟩ := hv
  have hx := B.exec
  have hb := B.bytes
  have hret := B.returns
  have hts := atoms_spec (ws := wsX4_lead) B.pre
  have hown : s.vm.findClass RX4 = some m.cls := findClass_of_methodNamed B.named
  have hlocks := B.notSynchronized
  subst hsz
  have hz : SS K s I L A s.heap [] := PS.start hB
  have hl := lv_entry ([.ref o0]) (n := 1) (Nat.le_of_ble_eq_true rfl)
  rw [lg_entry_eq]
  generalize (lg_sl ([.ref o0]) ++ List.replicate (1 - (lg_sl ([.ref o0])).length) Slot.unset).toArray = ls at hl ⊢
  have hl : lv_has ls 1 [(0, .ref o0)] := hl
  have hw0 : ∀ w ∈ u_ws RX4 TX4 2, w ∈ wsX4_lead := by decide +kernel
  have hw1 := hts (.fieldLink RX4 15 "GaloisDesk$Row" "top" "I") (by decide +kernel)
  clear hB B
  refine lv_aload_n hx hb dX4_lead_0 rfl (lv_at hl 0 rfl) ?_
  refine lv_aload_n hx hb dX4_lead_1 rfl (lv_at hl 0 rfl) ?_
  obtain ⟨hs1, hwp⟩ := hwp
  refine sw_get (C := RX4) (T := TX4) (N := 2) (v := .int (I o0 1)) hx hb hts hw0 hown hK hz hs1 rfl 1 (by decide) hw1 (fun _ h9 => h9) rfl dX4_lead_2 ?_
  obtain ⟨P2, hc3, hwp⟩ := hwp
  refine sw_calll hz (va_runV (As := [.int (I o0 1)]) (rest := []) ⟨hx, hb, hml, hown, hts⟩ (hc3 hK _) (cwV 1 hts gX4_lead_X4_at rfl rfl rfl (by decide +kernel) ⟨Nat.le_of_ble_eq_true rfl, Nat.le_of_ble_eq_true rfl⟩) (hz.preV hK hs1 rfl) rfl rfl hl.1 rfl (lv_room (Nat.le_of_ble_eq_true rfl)) dX4_lead_5 ⟨Nat.le_of_ble_eq_true rfl, Nat.le_of_ble_eq_true rfl⟩) (fun r7 I4 L5 A6 H locs hp hz => ?_)
  have hwp := hwp r7 I4 L5 A6 hp
  exact sw_lret hx hb hret hlocks hz hwp dX4_lead_8

def wp_X4_becomeQuotient_97 (K : Cx) (o0 : Nat) (o1 : Nat) (o2 : Nat) (o3 : Nat) (C35 : TI → TL → TA → Int64 → Int32 → Prop) (I : TI) (L : TL) (A : TA) (x4 : Int64) (x6 : Int32) (x9 : Int64) (x11 : Int32) (Q : Int32 → TI → TL → TA → Prop) : Prop := ∃ (Inv : Nat → TI → TL → TA → Int64 → Int32 → Int64 → Int32 → Prop) (μ : Nat), Inv μ I L A x4 x6 x9 x11 ∧ ∀ (μ : Nat) (C97 : TI → TL → TA → Int64 → Int32 → Int64 → Int32 → Prop), (∀ (μ' : Nat) (I : TI) (L : TL) (A : TA) (x4 : Int64) (x6 : Int32) (x9 : Int64) (x11 : Int32) , μ' < μ → Inv μ' I L A x4 x6 x9 x11 → C97 I L A x4 x6 x9 x11) → ∀ (I : TI) (L : TL) (A : TA) (x4 : Int64) (x6 : Int32) (x9 : Int64) (x11 : Int32) , Inv μ I L A x4 x6 x9 x11 → cxS K o2 = shX4 o2 ∧ (((I o2 1) < x11 → ∀ v2 : Int32, v2 = x6 + (-1) → C35 I L A x4 v2) ∧ (¬ (I o2 1) < x11 → cxS K o3 = shX4 o3 ∧ aok (cxS K) (o3 + 1) 1 (x6 + x11) ∧ aok (cxS K) (o2 + 1) 1 x11 ∧ aok (cxS K) (o3 + 1) 1 (x6 + x11) ∧ ∀ L7 : TL, L7 = u2 L (o3 + 1) (ix (x6 + x11)) ((L (o3 + 1) (ix (x6 + x11))) - (x9 * (L (o2 + 1) (ix x11)))) → ∀ v8 : Int32, v8 = x11 + 1 → C97 I L7 A x4 x6 x9 v8))
def wp_X4_becomeQuotient_35 (K : Cx) (o0 : Nat) (o1 : Nat) (o2 : Nat) (o3 : Nat) (I : TI) (L : TL) (A : TA) (x4 : Int64) (x6 : Int32) (Q : Int32 → TI → TL → TA → Prop) : Prop := ∃ (Inv : Nat → TI → TL → TA → Int64 → Int32 → Prop) (μ : Nat), Inv μ I L A x4 x6 ∧ ∀ (μ : Nat) (C35 : TI → TL → TA → Int64 → Int32 → Prop), (∀ (μ' : Nat) (I : TI) (L : TL) (A : TA) (x4 : Int64) (x6 : Int32) , μ' < μ → Inv μ' I L A x4 x6 → C35 I L A x4 x6) → ∀ (I : TI) (L : TL) (A : TA) (x4 : Int64) (x6 : Int32) , Inv μ I L A x4 x6 → ((x6 < 0 → cxS K o0 = shX4 o0 ∧ ∃ P10 : TI → TL → TA → Prop, ConV K yX4_settle wsX4_settle 0 0 I L A [.ref o0] P10 ∧ ∀ (I12 : TI) (L13 : TL) (A14 : TA), P10 I12 L13 A14 → cxS K o3 = shX4 o3 ∧ ∃ P16 : TI → TL → TA → Prop, ConV K yX4_settle wsX4_settle 0 0 I12 L13 A14 [.ref o3] P16 ∧ ∀ (I18 : TI) (L19 : TL) (A20 : TA), P16 I18 L19 A20 → ((0 ≤ (I18 o3 1) → Q 0 I18 L19 A20) ∧ (¬ 0 ≤ (I18 o3 1) → Q 1 I18 L19 A20))) ∧ (¬ x6 < 0 → cxS K o3 = shX4 o3 ∧ cxS K o2 = shX4 o2 ∧ aok (cxS K) (o3 + 1) 1 (x6 + (I o2 1)) ∧ ∀ v24 : Int64, v24 = (L (o3 + 1) (ix (x6 + (I o2 1)))) → ¬ x4 = 0 ∧ ∀ v26 : Int64, v26 = (v24 / x4) → ¬ x4 = 0 ∧ (((v24 - v24 / x4 * x4) = 0 → (((absJ v26) ≤ 1000000 → cxS K o0 = shX4 o0 ∧ aok (cxS K) (o0 + 1) 1 x6 ∧ ∀ L30 : TL, L30 = u2 L (o0 + 1) (ix x6) v26 → wp_X4_becomeQuotient_97 K o0 o1 o2 o3 C35 I L30 A x4 x6 v26 0 Q) ∧ (¬ (absJ v26) ≤ 1000000 → Q 0 I L A))) ∧ (¬ (v24 - v24 / x4 * x4) = 0 → Q 0 I L A))))
def wp_X4_becomeQuotient (K : Cx) (I : TI) (L : TL) (A : TA) (o0 : Nat) (o1 : Nat) (o2 : Nat) (o3 : Nat) (Q : Int32 → TI → TL → TA → Prop) : Prop := cxS K o0 = shX4 o0 ∧ ∃ P32 : TI → TL → TA → Prop, ConV K yX4_clear wsX4_clear 0 0 I L A [.ref o0] P32 ∧ ∀ (I34 : TI) (L35 : TL) (A36 : TA), P32 I34 L35 A36 → cxS K o3 = shX4 o3 ∧ ∃ P38 : TI → TL → TA → Prop, ConV K yX4_become wsX4_become 1 40 I34 L35 A36 [.ref o3, .ref o1] P38 ∧ ∀ (I40 : TI) (L41 : TL) (A42 : TA), P38 I40 L41 A42 → cxS K o2 = shX4 o2 ∧ ∃ P44 : Int64 → TI → TL → TA → Prop, ConL K yX4_lead wsX4_lead 1 21 I40 L41 A42 [.ref o2] P44 ∧ ∀ (r49 : Int64) (I46 : TI) (L47 : TL) (A48 : TA), P44 r49 I46 L47 A48 → ((r49 = 0 → Q 0 I46 L47 A48) ∧ (¬ r49 = 0 → cxS K o1 = shX4 o1 ∧ ∀ v51 : Int32, v51 = ((I46 o1 1) - (I46 o2 1)) → wp_X4_becomeQuotient_35 K o0 o1 o2 o3 I46 L47 A48 r49 v51 Q))
set_option maxHeartbeats 1000000 in
set_option maxRecDepth 100000 in
theorem w_X4_becomeQuotient (K : Cx) (I : TI) (L : TL) (A : TA) (o0 : Nat) (o1 : Nat) (o2 : Nat) (o3 : Nat) (Q : Int32 → TI → TL → TA → Prop) (hwp : wp_X4_becomeQuotient K I L A o0 o1 o2 o3 Q) : ConI K yX4_becomeQuotient wsX4_becomeQuotient 2 61 I L A [.ref o0, .ref o1, .ref o2, .ref o3] Q := by
  intro hK sz
  refine Met.ofW (cc := cX4_becomeQuotient) (maxL := 12) (ret := (some .boolean)) (by decide) rfl ?_
  intro p e s m args below meth c s₁ B hml hv
  obtain ⟨rfl, hsz, hB⟩ := hv
  have hx := B.exec
  have hb := B.bytes
  have hret := B.returns
  have hts := atoms_spec (ws := wsX4_becomeQuotient) B.pre
  have hown : s.vm.findClass RX4 = some m.cls := findClass_of_methodNamed B.named
  have hlocks := B.notSynchronized
  subst hsz
  have hz : SS K s I L A s.heap [] := PS.start hB
  have hl := lv_entry ([.ref o0, .ref o1, .ref o2, .ref o3]) (n := 12) (Nat.le_of_ble_eq_true rfl)
  rw [lg_entry_eq]
  generalize (lg_sl ([.ref o0, .ref o1, .ref o2, .ref o3]) ++ List.replicate (12 - (lg_sl ([.ref o0, .ref o1, .ref o2, .ref o3])).length) Slot.unset).toArray = ls at hl ⊢
  have hl : lv_has ls 12 [(0, .ref o0), (1, .ref o1), (2, .ref o2), (3, .ref o3)] := hl
  have hw0 : ∀ w ∈ u_ws RX4 TX4 2, w ∈ wsX4_becomeQuotient := by decide +kernel
  have hw1 := hts (.fieldLink RX4 15 "GaloisDesk$Row" "top" "I") (by decide +kernel)
  have hw2 := hts (.fieldLink RX4 9 "GaloisDesk$Row" "c" "[J") (by decide +kernel)
  have hw3 := hts (.methodLink RX4 43 Lib.MathLoose.abs_long.x) (by decide +kernel)
  have hw4 := hts (.static Lib.MathLoose.abs_long.x) (by decide +kernel)
  have hw5 := hts (.initialized "java/lang/Math") (by decide +kernel)
  have hw6 := hts (.code Lib.MathLoose.abs_long.x Lib.MathLoose.abs_long.code 2 (some .long)) (by decide +kernel)
  have hw7 := hts (.constantLong RX4 49 (1000000)) (by decide +kernel)
  clear hB B
  have wL97 : ∀ (C35 : TI → TL → TA → Int64 → Int32 → Prop) (hC35 : ∀ (I : TI) (L : TL) (A : TA) (x4 : Int64) (x6 : Int32) (H : Heap) (locs : List Loc) (ls : Array Slot), C35 I L A x4 x6 → SS K s I L A H locs → lv_has ls 12 [(0, .ref o0), (2, .ref o2), (3, .ref o3), (4, .long x4), (6, .int x6)] → W p (cxl K) e (headSpec wsX4_becomeQuotient (rmF 2 61)).room s m ([.ref o0, .ref o1, .ref o2, .ref o3] : List Value).toArray below meth c H locs 0 0 (MQ below (cxQi K Q) ([.ref o0, .ref o1, .ref o2, .ref o3] : List Value).toArray s 0 0 (PA (cxb K))) (F0 m 35 ls [])) (I : TI) (L : TL) (A : TA) (x4 : Int64) (x6 : Int32) (x9 : Int64) (x11 : Int32) (H : Heap) (locs : List Loc) (ls : Array Slot), wp_X4_becomeQuotient_97 K o0 o1 o2 o3 C35 I L A x4 x6 x9 x11 Q → SS K s I L A H locs → lv_has ls 12 [(0, .ref o0), (2, .ref o2), (3, .ref o3), (4, .long x4), (6, .int x6), (9, .long x9), (11, .int x11)] → W p (cxl K) e (headSpec wsX4_becomeQuotient (rmF 2 61)).room s m ([.ref o0, .ref o1, .ref o2, .ref o3] : List Value).toArray below meth c H locs 0 0 (MQ below (cxQi K Q) ([.ref o0, .ref o1, .ref o2, .ref o3] : List Value).toArray s 0 0 (PA (cxb K))) (F0 m 97 ls []) := by
    intro C35 hC35 I L A x4 x6 x9 x11 H locs ls hwp hz hl
    obtain ⟨Inv, μ, hi, hst⟩ := hwp
    have key : ∀ (μ : Nat) (I : TI) (L : TL) (A : TA) (x4 : Int64) (x6 : Int32) (x9 : Int64) (x11 : Int32) (H : Heap) (locs : List Loc) (ls : Array Slot), Inv μ I L A x4 x6 x9 x11 → SS K s I L A H locs → lv_has ls 12 [(0, .ref o0), (2, .ref o2), (3, .ref o3), (4, .long x4), (6, .int x6), (9, .long x9), (11, .int x11)] → W p (cxl K) e (headSpec wsX4_becomeQuotient (rmF 2 61)).room s m ([.ref o0, .ref o1, .ref o2, .ref o3] : List Value).toArray below meth c H locs 0 0 (MQ below (cxQi K Q) ([.ref o0, .ref o1, .ref o2, .ref o3] : List Value).toArray s 0 0 (PA (cxb K))) (F0 m 97 ls []) := by
      clear hi hz hl
      intro μ
      induction μ using Nat.strongRecOn with | ind μ ih => ?_
      intro I L A x4 x6 x9 x11 H locs ls hi hz hl
      obtain ⟨C97, hCd⟩ : ∃ C : TI → TL → TA → Int64 → Int32 → Int64 → Int32 → Prop, C = fun I L A x4 x6 x9 x11 => ∃ μ', μ' < μ ∧ Inv μ' I L A x4 x6 x9 x11 := ⟨_, rfl⟩
      have hC97 : ∀ (I : TI) (L : TL) (A : TA) (x4 : Int64) (x6 : Int32) (x9 : Int64) (x11 : Int32) (H : Heap) (locs : List Loc) (ls : Array Slot), C97 I L A x4 x6 x9 x11 → SS K s I L A H locs → lv_has ls 12 [(0, .ref o0), (2, .ref o2), (3, .ref o3), (4, .long x4), (6, .int x6), (9, .long x9), (11, .int x11)] → W p (cxl K) e (headSpec wsX4_becomeQuotient (rmF 2 61)).room s m ([.ref o0, .ref o1, .ref o2, .ref o3] : List Value).toArray below meth c H locs 0 0 (MQ below (cxQi K Q) ([.ref o0, .ref o1, .ref o2, .ref o3] : List Value).toArray s 0 0 (PA (cxb K))) (F0 m 97 ls []) := by
        intro I L A x4 x6 x9 x11 H locs ls hc hz hl
        rw [hCd] at hc
        obtain ⟨μ', hlt, hc⟩ := hc
        exact ih μ' hlt I L A x4 x6 x9 x11 H locs ls hc hz hl
      have hwp := hst μ C97 (fun μ' I L A x4 x6 x9 x11 hlt hc => by rw [hCd]; exact ⟨μ', hlt, hc⟩) I L A x4 x6 x9 x11 hi
      refine lv_iload hx hb dX4_becomeQuotient_97 (lv_at hl 6 rfl) ?_
      refine lv_aload_n hx hb dX4_becomeQuotient_99 rfl (lv_at hl 1 rfl) ?_
      obtain ⟨hs1, hwp⟩ := hwp
      refine sw_get (C := RX4) (T := TX4) (N := 2) (v := .int (I o2 1)) hx hb hts hw0 hown hK hz hs1 rfl 1 (by decide) hw1 (fun _ h9 => h9) rfl dX4_becomeQuotient_100 ?_
      refine lv_icmp_gt (tgt := 135) hx hb dX4_becomeQuotient_103 (by decide) (fun q => ?_) (fun q => ?_)
      · have hwp := hwp.1 q
        obtain ⟨v2, q_v2⟩ : ∃ y : Int32, y = x6 + (-1) := ⟨_, rfl⟩
        have hwp := hwp v2 q_v2
        refine lv_iinc (v := v2) (lv' := [(6, .int v2), (0, .ref o0), (2, .ref o2), (3, .ref o3), (4, .long x4), (9, .long x9), (11, .int x11)]) hx hb dX4_becomeQuotient_135 hl (k := 4) rfl (by rw [q_v2]; rfl) (by decide) rfl (fun ls hl => ?_)
        refine lv_goto (tgt := 35) hx hb dX4_becomeQuotient_138 (by decide) ?_
        exact hC35 _ _ _ _ _ _ _ _ hwp hz (lv_sub hl [1, 2, 3, 4, 0] rfl)
      · have hwp := hwp.2 q
        refine lv_aload_n hx hb dX4_becomeQuotient_106 rfl (lv_at hl 2 rfl) ?_
        obtain ⟨hs3, hwp⟩ := hwp
        refine sw_get (C := RX4) (T := TX4) (N := 2) (v := .ref (o3 + 1)) hx hb hts hw0 hown hK hz hs3 rfl 0 (by decide) hw2 (fun _ h9 => h9) rfl dX4_becomeQuotient_107 ?_
        refine lv_iload hx hb dX4_becomeQuotient_110 (lv_at hl 4 rfl) ?_
        refine lv_iload hx hb dX4_becomeQuotient_112 (lv_at hl 6 rfl) ?_
        refine lv_iadd hx hb dX4_becomeQuotient_114 ?_
        refine lv_dup2_11 hx hb dX4_becomeQuotient_115 rfl rfl ?_
        obtain ⟨ho4, hwp⟩ := hwp
        refine sw_lald hx hb hK hz ho4 dX4_becomeQuotient_116 ?_
        refine lv_lload hx hb dX4_becomeQuotient_117 (lv_at hl 5 rfl) ?_
        refine lv_aload_n hx hb dX4_becomeQuotient_119 rfl (lv_at hl 1 rfl) ?_
        refine sw_get (C := RX4) (T := TX4) (N := 2) (v := .ref (o2 + 1)) hx hb hts hw0 hown hK hz hs1 rfl 0 (by decide) hw2 (fun _ h9 => h9) rfl dX4_becomeQuotient_120 ?_
        refine lv_iload hx hb dX4_becomeQuotient_123 (lv_at hl 6 rfl) ?_
        obtain ⟨ho5, hwp⟩ := hwp
        refine sw_lald hx hb hK hz ho5 dX4_becomeQuotient_125 ?_
        refine lv_lmul hx hb dX4_becomeQuotient_126 ?_
        refine lv_lsub hx hb dX4_becomeQuotient_127 ?_
        obtain ⟨ho6, hwp⟩ := hwp
        refine sw_last hx hb hK hz ho6 dX4_becomeQuotient_128 (fun H locs L7 e_L7 hz => ?_)
        have hwp := hwp L7 e_L7
        obtain ⟨v8, q_v8⟩ : ∃ y : Int32, y = x11 + 1 := ⟨_, rfl⟩
        have hwp := hwp v8 q_v8
        refine lv_iinc (v := v8) (lv' := [(11, .int v8), (0, .ref o0), (2, .ref o2), (3, .ref o3), (4, .long x4), (6, .int x6), (9, .long x9)]) hx hb dX4_becomeQuotient_129 hl (k := 6) rfl (by rw [q_v8]; rfl) (by decide) rfl (fun ls hl => ?_)
        refine lv_goto (tgt := 97) hx hb dX4_becomeQuotient_132 (by decide) ?_
        exact hC97 _ _ _ _ _ _ _ _ _ _ hwp hz (lv_sub hl [1, 2, 3, 4, 5, 6, 0] rfl)
    exact key μ I L A x4 x6 x9 x11 H locs ls hi hz hl
  have wL35 : ∀ (I : TI) (L : TL) (A : TA) (x4 : Int64) (x6 : Int32) (H : Heap) (locs : List Loc) (ls : Array Slot), wp_X4_becomeQuotient_35 K o0 o1 o2 o3 I L A x4 x6 Q → SS K s I L A H locs → lv_has ls 12 [(0, .ref o0), (2, .ref o2), (3, .ref o3), (4, .long x4), (6, .int x6)] → W p (cxl K) e (headSpec wsX4_becomeQuotient (rmF 2 61)).room s m ([.ref o0, .ref o1, .ref o2, .ref o3] : List Value).toArray below meth c H locs 0 0 (MQ below (cxQi K Q) ([.ref o0, .ref o1, .ref o2, .ref o3] : List Value).toArray s 0 0 (PA (cxb K))) (F0 m 35 ls []) := by
    intro I L A x4 x6 H locs ls hwp hz hl
    obtain ⟨Inv, μ, hi, hst⟩ := hwp
    have key : ∀ (μ : Nat) (I : TI) (L : TL) (A : TA) (x4 : Int64) (x6 : Int32) (H : Heap) (locs : List Loc) (ls : Array Slot), Inv μ I L A x4 x6 → SS K s I L A H locs → lv_has ls 12 [(0, .ref o0), (2, .ref o2), (3, .ref o3), (4, .long x4), (6, .int x6)] → W p (cxl K) e (headSpec wsX4_becomeQuotient (rmF 2 61)).room s m ([.ref o0, .ref o1, .ref o2, .ref o3] : List Value).toArray below meth c H locs 0 0 (MQ below (cxQi K Q) ([.ref o0, .ref o1, .ref o2, .ref o3] : List Value).toArray s 0 0 (PA (cxb K))) (F0 m 35 ls []) := by
      clear hi hz hl
      intro μ
      induction μ using Nat.strongRecOn with | ind μ ih => ?_
      intro I L A x4 x6 H locs ls hi hz hl
      obtain ⟨C35, hCd⟩ : ∃ C : TI → TL → TA → Int64 → Int32 → Prop, C = fun I L A x4 x6 => ∃ μ', μ' < μ ∧ Inv μ' I L A x4 x6 := ⟨_, rfl⟩
      have hC35 : ∀ (I : TI) (L : TL) (A : TA) (x4 : Int64) (x6 : Int32) (H : Heap) (locs : List Loc) (ls : Array Slot), C35 I L A x4 x6 → SS K s I L A H locs → lv_has ls 12 [(0, .ref o0), (2, .ref o2), (3, .ref o3), (4, .long x4), (6, .int x6)] → W p (cxl K) e (headSpec wsX4_becomeQuotient (rmF 2 61)).room s m ([.ref o0, .ref o1, .ref o2, .ref o3] : List Value).toArray below meth c H locs 0 0 (MQ below (cxQi K Q) ([.ref o0, .ref o1, .ref o2, .ref o3] : List Value).toArray s 0 0 (PA (cxb K))) (F0 m 35 ls []) := by
        intro I L A x4 x6 H locs ls hc hz hl
        rw [hCd] at hc
        obtain ⟨μ', hlt, hc⟩ := hc
        exact ih μ' hlt I L A x4 x6 H locs ls hc hz hl
      have hwp := hst μ C35 (fun μ' I L A x4 x6 hlt hc => by rw [hCd]; exact ⟨μ', hlt, hc⟩) I L A x4 x6 hi
      refine lv_iload hx hb dX4_becomeQuotient_35 (lv_at hl 4 rfl) ?_
      refine lv_if_lt (tgt := 141) hx hb dX4_becomeQuotient_37 (by decide) (fun q => ?_) (fun q => ?_)
      · have hwp := hwp.1 q
        refine lv_aload_n hx hb dX4_becomeQuotient_141 rfl (lv_at hl 0 rfl) ?_
        obtain ⟨hs9, hwp⟩ := hwp
        obtain ⟨P10, hc11, hwp⟩ := hwp
        refine sw_callv hz (va_runV (As := []) (rest := []) ⟨hx, hb, hml, hown, hts⟩ (hc11 hK _) (cwV 0 hts gX4_becomeQuotient_X4_settle rfl rfl rfl (by decide +kernel) ⟨Nat.le_of_ble_eq_true rfl, Nat.le_of_ble_eq_true rfl⟩) (hz.preV hK hs9 rfl) rfl rfl hl.1 rfl (lv_room (Nat.le_of_ble_eq_true rfl)) dX4_becomeQuotient_142 ⟨Nat.le_of_ble_eq_true rfl, Nat.le_of_ble_eq_true rfl⟩) (fun I12 L13 A14 H locs hp hz => ?_)
        have hwp := hwp I12 L13 A14 hp
        refine lv_aload_n hx hb dX4_becomeQuotient_145 rfl (lv_at hl 2 rfl) ?_
        obtain ⟨hs15, hwp⟩ := hwp
        obtain ⟨P16, hc17, hwp⟩ := hwp
        refine sw_callv hz (va_runV (As := []) (rest := []) ⟨hx, hb, hml, hown, hts⟩ (hc17 hK _) (cwV 0 hts gX4_becomeQuotient_X4_settle rfl rfl rfl (by decide +kernel) ⟨Nat.le_of_ble_eq_true rfl, Nat.le_of_ble_eq_true rfl⟩) (hz.preV hK hs15 rfl) rfl rfl hl.1 rfl (lv_room (Nat.le_of_ble_eq_true rfl)) dX4_becomeQuotient_146 ⟨Nat.le_of_ble_eq_true rfl, Nat.le_of_ble_eq_true rfl⟩) (fun I18 L19 A20 H locs hp hz => ?_)
        have hwp := hwp I18 L19 A20 hp
        refine lv_aload_n hx hb dX4_becomeQuotient_149 rfl (lv_at hl 2 rfl) ?_
        refine sw_get (C := RX4) (T := TX4) (N := 2) (v := .int (I18 o3 1)) hx hb hts hw0 hown hK hz hs15 rfl 1 (by decide) hw1 (fun _ h9 => h9) rfl dX4_becomeQuotient_150 ?_
        refine lv_if_ge (tgt := 160) hx hb dX4_becomeQuotient_153 (by decide) (fun q => ?_) (fun q => ?_)
        · have hwp := hwp.1 q
          refine lv_iconst (v := 0) hx hb dX4_becomeQuotient_160 (by decide) ?_
          exact sw_zret hx hb hret hlocks hz (Or.inl rfl) hwp dX4_becomeQuotient_161
        · have hwp := hwp.2 q
          refine lv_iconst (v := 1) hx hb dX4_becomeQuotient_156 (by decide) ?_
          refine lv_goto (tgt := 161) hx hb dX4_becomeQuotient_157 (by decide) ?_
          exact sw_zret hx hb hret hlocks hz (Or.inr rfl) hwp dX4_becomeQuotient_161
      · have hwp := hwp.2 q
        refine lv_aload_n hx hb dX4_becomeQuotient_40 rfl (lv_at hl 2 rfl) ?_
        obtain ⟨hs21, hwp⟩ := hwp
        refine sw_get (C := RX4) (T := TX4) (N := 2) (v := .ref (o3 + 1)) hx hb hts hw0 hown hK hz hs21 rfl 0 (by decide) hw2 (fun _ h9 => h9) rfl dX4_becomeQuotient_41 ?_
        refine lv_iload hx hb dX4_becomeQuotient_44 (lv_at hl 4 rfl) ?_
        refine lv_aload_n hx hb dX4_becomeQuotient_46 rfl (lv_at hl 1 rfl) ?_
        obtain ⟨hs22, hwp⟩ := hwp
        refine sw_get (C := RX4) (T := TX4) (N := 2) (v := .int (I o2 1)) hx hb hts hw0 hown hK hz hs22 rfl 1 (by decide) hw1 (fun _ h9 => h9) rfl dX4_becomeQuotient_47 ?_
        refine lv_iadd hx hb dX4_becomeQuotient_50 ?_
        obtain ⟨ho23, hwp⟩ := hwp
        refine sw_lald hx hb hK hz ho23 dX4_becomeQuotient_51 ?_
        refine lv_topl (fun v24 q_v24 => ?_)
        have hwp := hwp v24 q_v24
        refine lv_lstore (lv' := [(7, .long v24), (0, .ref o0), (2, .ref o2), (3, .ref o3), (4, .long x4), (6, .int x6)]) hx hb dX4_becomeQuotient_52 hl (by decide) rfl (fun ls hl => ?_)
        refine lv_lload hx hb dX4_becomeQuotient_54 (lv_at hl 0 rfl) ?_
        refine lv_lload hx hb dX4_becomeQuotient_56 (lv_at hl 4 rfl) ?_
        obtain ⟨hn25, hwp⟩ := hwp
        refine lv_ldiv hx hb dX4_becomeQuotient_58 hn25 ?_
        refine lv_topl (fun v26 q_v26 => ?_)
        have hwp := hwp v26 q_v26
        refine lv_lstore (lv' := [(9, .long v26), (7, .long v24), (0, .ref o0), (2, .ref o2), (3, .ref o3), (4, .long x4), (6, .int x6)]) hx hb dX4_becomeQuotient_59 hl (by decide) rfl (fun ls hl => ?_)
        refine lv_lload hx hb dX4_becomeQuotient_61 (lv_at hl 1 rfl) ?_
        refine lv_lload hx hb dX4_becomeQuotient_63 (lv_at hl 5 rfl) ?_
        obtain ⟨hn27, hwp⟩ := hwp
        refine lv_lrem hx hb dX4_becomeQuotient_65 hn27 ?_
        refine lv_lconst (v := 0) hx hb dX4_becomeQuotient_66 (by decide) ?_
        refine W.lcmp hx hb dX4_becomeQuotient_67 ?_
        refine W.eq (g2 := F0 m 68 ls [.int (lg_cmp (v24 - v24 / x4 * x4) 0)]) rfl ?_
        refine lv_if_ne (tgt := 83) hx hb dX4_becomeQuotient_68 (by decide) (fun q => ?_) (fun q => ?_)
        · have hwp := hwp.2 (fun h => q ((lg_cmp_eq _ _).mpr h))
          refine lv_iconst (v := 0) hx hb dX4_becomeQuotient_83 (by decide) ?_
          exact sw_zret hx hb hret hlocks hz (Or.inl rfl) hwp dX4_becomeQuotient_84
        · have hwp := hwp.1 ((lg_cmp_eq _ _).mp q)
          refine lv_lload hx hb dX4_becomeQuotient_71 (lv_at hl 0 rfl) ?_
          refine va_mabs_long hx hb (by rw [hml]; exact hl.1.symm) hown hw3 hw4 hw5 hw6 (Nat.le_of_ble_eq_true rfl) (Nat.le_of_ble_eq_true rfl) (Nat.le_of_ble_eq_true rfl) (Nat.le_of_ble_eq_true rfl) dX4_becomeQuotient_73 ?_
          refine W.eq (g2 := F0 m 76 ls [.long (absJ v26)]) rfl ?_
          refine lv_ldc2 hx hb hown hw7 dX4_becomeQuotient_76 ?_
          refine W.lcmp hx hb dX4_becomeQuotient_79 ?_
          refine W.eq (g2 := F0 m 80 ls [.int (lg_cmp (absJ v26) 1000000)]) rfl ?_
          refine lv_if_le (tgt := 85) hx hb dX4_becomeQuotient_80 (by decide) (fun q => ?_) (fun q => ?_)
          · have hwp := hwp.1 ((lg_cmp_le _ _).mp q)
            refine lv_aload_n hx hb dX4_becomeQuotient_85 rfl (lv_at hl 2 rfl) ?_
            obtain ⟨hs28, hwp⟩ := hwp
            refine sw_get (C := RX4) (T := TX4) (N := 2) (v := .ref (o0 + 1)) hx hb hts hw0 hown hK hz hs28 rfl 0 (by decide) hw2 (fun _ h9 => h9) rfl dX4_becomeQuotient_86 ?_
            refine lv_iload hx hb dX4_becomeQuotient_89 (lv_at hl 6 rfl) ?_
            refine lv_lload hx hb dX4_becomeQuotient_91 (lv_at hl 0 rfl) ?_
            obtain ⟨ho29, hwp⟩ := hwp
            refine sw_last hx hb hK hz ho29 dX4_becomeQuotient_93 (fun H locs L30 e_L30 hz => ?_)
            have hwp := hwp L30 e_L30
            refine lv_iconst (v := 0) hx hb dX4_becomeQuotient_94 (by decide) ?_
            refine lv_istore (lv' := [(11, .int 0), (9, .long v26), (7, .long v24), (0, .ref o0), (2, .ref o2), (3, .ref o3), (4, .long x4), (6, .int x6)]) hx hb dX4_becomeQuotient_95 hl (by decide) rfl (fun ls hl => ?_)
            exact wL97 _ hC35 _ _ _ _ _ _ _ _ _ _ hwp hz (lv_sub hl [3, 4, 5, 6, 7, 1, 0] rfl)
          · have hwp := hwp.2 (fun h => q ((lg_cmp_le _ _).mpr h))
            refine lv_iconst (v := 0) hx hb dX4_becomeQuotient_83 (by decide) ?_
            exact sw_zret hx hb hret hlocks hz (Or.inl rfl) hwp dX4_becomeQuotient_84
    exact key μ I L A x4 x6 H locs ls hi hz hl
  refine lv_aload_n hx hb dX4_becomeQuotient_0 rfl (lv_at hl 0 rfl) ?_
  obtain ⟨hs31, hwp⟩ := hwp
  obtain ⟨P32, hc33, hwp⟩ := hwp
  refine sw_callv hz (va_runV (As := []) (rest := []) ⟨hx, hb, hml, hown, hts⟩ (hc33 hK _) (cwV 0 hts gX4_becomeQuotient_X4_clear rfl rfl rfl (by decide +kernel) ⟨Nat.le_of_ble_eq_true rfl, Nat.le_of_ble_eq_true rfl⟩) (hz.preV hK hs31 rfl) rfl rfl hl.1 rfl (lv_room (Nat.le_of_ble_eq_true rfl)) dX4_becomeQuotient_1 ⟨Nat.le_of_ble_eq_true rfl, Nat.le_of_ble_eq_true rfl⟩) (fun I34 L35 A36 H locs hp hz => ?_)
  have hwp := hwp I34 L35 A36 hp
  refine lv_aload_n hx hb dX4_becomeQuotient_4 rfl (lv_at hl 3 rfl) ?_
  refine lv_aload_n hx hb dX4_becomeQuotient_5 rfl (lv_at hl 1 rfl) ?_
  obtain ⟨hs37, hwp⟩ := hwp
  obtain ⟨P38, hc39, hwp⟩ := hwp
  refine sw_callv hz (va_runV (As := [.ref o1]) (rest := []) ⟨hx, hb, hml, hown, hts⟩ (hc39 hK _) (cwV 1 hts gX4_becomeQuotient_X4_become rfl rfl rfl (by decide +kernel) ⟨Nat.le_of_ble_eq_true rfl, Nat.le_of_ble_eq_true rfl⟩) (hz.preV hK hs37 rfl) rfl rfl hl.1 rfl (lv_room (Nat.le_of_ble_eq_true rfl)) dX4_becomeQuotient_6 ⟨Nat.le_of_ble_eq_true rfl, Nat.le_of_ble_eq_true rfl⟩) (fun I40 L41 A42 H locs hp hz => ?_)
  have hwp := hwp I40 L41 A42 hp
  refine lv_aload_n hx hb dX4_becomeQuotient_9 rfl (lv_at hl 2 rfl) ?_
  obtain ⟨hs43, hwp⟩ := hwp
  obtain ⟨P44, hc45, hwp⟩ := hwp
  refine sw_calll hz (va_runV (As := []) (rest := []) ⟨hx, hb, hml, hown, hts⟩ (hc45 hK _) (cwV 0 hts gX4_becomeQuotient_X4_lead rfl rfl rfl (by decide +kernel) ⟨Nat.le_of_ble_eq_true rfl, Nat.le_of_ble_eq_true rfl⟩) (hz.preV hK hs43 rfl) rfl rfl hl.1 rfl (lv_room (Nat.le_of_ble_eq_true rfl)) dX4_becomeQuotient_10 ⟨Nat.le_of_ble_eq_true rfl, Nat.le_of_ble_eq_true rfl⟩) (fun r49 I46 L47 A48 H locs hp hz => ?_)
  have hwp := hwp r49 I46 L47 A48 hp
  refine lv_lstore (lv' := [(4, .long r49), (0, .ref o0), (1, .ref o1), (2, .ref o2), (3, .ref o3)]) hx hb dX4_becomeQuotient_13 hl (by decide) rfl (fun ls hl => ?_)
  refine lv_lload hx hb dX4_becomeQuotient_15 (lv_at hl 0 rfl) ?_
  refine lv_lconst (v := 0) hx hb dX4_becomeQuotient_17 (by decide) ?_
  refine W.lcmp hx hb dX4_becomeQuotient_18 ?_
  refine W.eq (g2 := F0 m 19 ls [.int (lg_cmp r49 0)]) rfl ?_
  refine lv_if_ne (tgt := 24) hx hb dX4_becomeQuotient_19 (by decide) (fun q => ?_) (fun q => ?_)
  · have hwp := hwp.2 (fun h => q ((lg_cmp_eq _ _).mpr h))
    refine lv_aload_n hx hb dX4_becomeQuotient_24 rfl (lv_at hl 2 rfl) ?_
    obtain ⟨hs50, hwp⟩ := hwp
    refine sw_get (C := RX4) (T := TX4) (N := 2) (v := .int (I46 o1 1)) hx hb hts hw0 hown hK hz hs50 rfl 1 (by decide) hw1 (fun _ h9 => h9) rfl dX4_becomeQuotient_25 ?_
    refine lv_aload_n hx hb dX4_becomeQuotient_28 rfl (lv_at hl 3 rfl) ?_
    refine sw_get (C := RX4) (T := TX4) (N := 2) (v := .int (I46 o2 1)) hx hb hts hw0 hown hK hz hs43 rfl 1 (by decide) hw1 (fun _ h9 => h9) rfl dX4_becomeQuotient_29 ?_
    refine lv_isub hx hb dX4_becomeQuotient_32 ?_
    refine lv_topi (fun v51 q_v51 => ?_)
    have hwp := hwp v51 q_v51
    refine lv_istore (lv' := [(6, .int v51), (4, .long r49), (0, .ref o0), (1, .ref o1), (2, .ref o2), (3, .ref o3)]) hx hb dX4_becomeQuotient_33 hl (by decide) rfl (fun ls hl => ?_)
    exact wL35 _ _ _ _ _ _ _ _ hwp hz (lv_sub hl [2, 4, 5, 1, 0] rfl)
  · have hwp := hwp.1 ((lg_cmp_eq _ _).mp q)
    refine lv_iconst (v := 0) hx hb dX4_becomeQuotient_22 (by decide) ?_
    exact sw_zret hx hb hret hlocks hz (Or.inl rfl) hwp dX4_becomeQuotient_23

def wp_X4_becomeSlope_6 (K : Cx) (o0 : Nat) (o1 : Nat) (I : TI) (L : TL) (A : TA) (x2 : Int32) (Q : TI → TL → TA → Prop) : Prop := ∃ (Inv : Nat → TI → TL → TA → Int32 → Prop) (μ : Nat), Inv μ I L A x2 ∧ ∀ (μ : Nat) (C6 : TI → TL → TA → Int32 → Prop), (∀ (μ' : Nat) (I : TI) (L : TL) (A : TA) (x2 : Int32) , μ' < μ → Inv μ' I L A x2 → C6 I L A x2) → ∀ (I : TI) (L : TL) (A : TA) (x2 : Int32) , Inv μ I L A x2 → cxS K o1 = shX4 o1 ∧ (((I o1 1) < x2 → cxS K o0 = shX4 o0 ∧ ∃ P3 : TI → TL → TA → Prop, ConV K yX4_settle wsX4_settle 0 0 I L A [.ref o0] P3 ∧ ∀ (I5 : TI) (L6 : TL) (A7 : TA), P3 I5 L6 A7 → Q I5 L6 A7) ∧ (¬ (I o1 1) < x2 → cxS K o0 = shX4 o0 ∧ aok (cxS K) (o1 + 1) 1 x2 ∧ aok (cxS K) (o0 + 1) 1 (x2 - 1) ∧ ∀ L11 : TL, L11 = u2 L (o0 + 1) (ix (x2 - 1)) ((Int32.toInt64 x2) * (L (o1 + 1) (ix x2))) → ∀ v12 : Int32, v12 = x2 + 1 → C6 I L11 A v12))
def wp_X4_becomeSlope (K : Cx) (I : TI) (L : TL) (A : TA) (o0 : Nat) (o1 : Nat) (Q : TI → TL → TA → Prop) : Prop := cxS K o0 = shX4 o0 ∧ ∃ P14 : TI → TL → TA → Prop, ConV K yX4_clear wsX4_clear 0 0 I L A [.ref o0] P14 ∧ ∀ (I16 : TI) (L17 : TL) (A18 : TA), P14 I16 L17 A18 → wp_X4_becomeSlope_6 K o0 o1 I16 L17 A18 1 Q
set_option maxHeartbeats 1000000 in
set_option maxRecDepth 100000 in
theorem w_X4_becomeSlope (K : Cx) (I : TI) (L : TL) (A : TA) (o0 : Nat) (o1 : Nat) (Q : TI → TL → TA → Prop) (hwp : wp_X4_becomeSlope K I L A o0 o1 Q) : ConV K yX4_becomeSlope wsX4_becomeSlope 1 21 I L A [.ref o0, .ref o1] Q := by
  intro hK sz
  refine Met.ofW (cc := cX4_becomeSlope) (maxL := 3) (ret := none) (by decide) rfl ?_
  intro p e s m args below meth c s₁ B hml hv
  obtain ⟨rfl, hsz, hB⟩ := hv
  have hx := B.exec
  have hb := B.bytes
  have hret := B.returns
  have hts := atoms_spec (ws := wsX4_becomeSlope) B.pre
  have hown : s.vm.findClass RX4 = some m.cls := findClass_of_methodNamed B.named
  have hlocks := B.notSynchronized
  subst hsz
  have hz : SS K s I L A s.heap [] := PS.start hB
  have hl := lv_entry ([.ref o0, .ref o1]) (n := 3) (Nat.le_of_ble_eq_true rfl)
  rw [lg_entry_eq]
  generalize (lg_sl ([.ref o0, .ref o1]) ++ List.replicate (3 - (lg_sl ([.ref o0, .ref o1])).length) Slot.unset).toArray = ls at hl ⊢
  have hl : lv_has ls 3 [(0, .ref o0), (1, .ref o1)] := hl
  have hw0 : ∀ w ∈ u_ws RX4 TX4 2, w ∈ wsX4_becomeSlope := by decide +kernel
  have hw1 := hts (.fieldLink RX4 15 "GaloisDesk$Row" "top" "I") (by decide +kernel)
  have hw2 := hts (.fieldLink RX4 9 "GaloisDesk$Row" "c" "[J") (by decide +kernel)
  clear hB B
  have wL6 : ∀ (I : TI) (L : TL) (A : TA) (x2 : Int32) (H : Heap) (locs : List Loc) (ls : Array Slot), wp_X4_becomeSlope_6 K o0 o1 I L A x2 Q → SS K s I L A H locs → lv_has ls 3 [(0, .ref o0), (1, .ref o1), (2, .int x2)] → W p (cxl K) e (headSpec wsX4_becomeSlope (rmF 1 21)).room s m ([.ref o0, .ref o1] : List Value).toArray below meth c H locs 0 0 (MQ below (cxQv K Q) ([.ref o0, .ref o1] : List Value).toArray s 0 0 (PA (cxb K))) (F0 m 6 ls []) := by
    intro I L A x2 H locs ls hwp hz hl
    obtain ⟨Inv, μ, hi, hst⟩ := hwp
    have key : ∀ (μ : Nat) (I : TI) (L : TL) (A : TA) (x2 : Int32) (H : Heap) (locs : List Loc) (ls : Array Slot), Inv μ I L A x2 → SS K s I L A H locs → lv_has ls 3 [(0, .ref o0), (1, .ref o1), (2, .int x2)] → W p (cxl K) e (headSpec wsX4_becomeSlope (rmF 1 21)).room s m ([.ref o0, .ref o1] : List Value).toArray below meth c H locs 0 0 (MQ below (cxQv K Q) ([.ref o0, .ref o1] : List Value).toArray s 0 0 (PA (cxb K))) (F0 m 6 ls []) := by
      clear hi hz hl
      intro μ
      induction μ using Nat.strongRecOn with | ind μ ih => ?_
      intro I L A x2 H locs ls hi hz hl
      obtain ⟨C6, hCd⟩ : ∃ C : TI → TL → TA → Int32 → Prop, C = fun I L A x2 => ∃ μ', μ' < μ ∧ Inv μ' I L A x2 := ⟨_, rfl⟩
      have hC6 : ∀ (I : TI) (L : TL) (A : TA) (x2 : Int32) (H : Heap) (locs : List Loc) (ls : Array Slot), C6 I L A x2 → SS K s I L A H locs → lv_has ls 3 [(0, .ref o0), (1, .ref o1), (2, .int x2)] → W p (cxl K) e (headSpec wsX4_becomeSlope (rmF 1 21)).room s m ([.ref o0, .ref o1] : List Value).toArray below meth c H locs 0 0 (MQ below (cxQv K Q) ([.ref o0, .ref o1] : List Value).toArray s 0 0 (PA (cxb K))) (F0 m 6 ls []) := by
        intro I L A x2 H locs ls hc hz hl
        rw [hCd] at hc
        obtain ⟨μ', hlt, hc⟩ := hc
        exact ih μ' hlt I L A x2 H locs ls hc hz hl
      have hwp := hst μ C6 (fun μ' I L A x2 hlt hc => by rw [hCd]; exact ⟨μ', hlt, hc⟩) I L A x2 hi
      refine lv_iload_n hx hb dX4_becomeSlope_6 rfl (lv_at hl 2 rfl) ?_
      refine lv_aload_n hx hb dX4_becomeSlope_7 rfl (lv_at hl 1 rfl) ?_
      obtain ⟨hs1, hwp⟩ := hwp
      refine sw_get (C := RX4) (T := TX4) (N := 2) (v := .int (I o1 1)) hx hb hts hw0 hown hK hz hs1 rfl 1 (by decide) hw1 (fun _ h9 => h9) rfl dX4_becomeSlope_8 ?_
      refine lv_icmp_gt (tgt := 37) hx hb dX4_becomeSlope_11 (by decide) (fun q => ?_) (fun q => ?_)
      · have hwp := hwp.1 q
        refine lv_aload_n hx hb dX4_becomeSlope_37 rfl (lv_at hl 0 rfl) ?_
        obtain ⟨hs2, hwp⟩ := hwp
        obtain ⟨P3, hc4, hwp⟩ := hwp
        refine sw_callv hz (va_runV (As := []) (rest := []) ⟨hx, hb, hml, hown, hts⟩ (hc4 hK _) (cwV 0 hts gX4_becomeSlope_X4_settle rfl rfl rfl (by decide +kernel) ⟨Nat.le_of_ble_eq_true rfl, Nat.le_of_ble_eq_true rfl⟩) (hz.preV hK hs2 rfl) rfl rfl hl.1 rfl (lv_room (Nat.le_of_ble_eq_true rfl)) dX4_becomeSlope_38 ⟨Nat.le_of_ble_eq_true rfl, Nat.le_of_ble_eq_true rfl⟩) (fun I5 L6 A7 H locs hp hz => ?_)
        have hwp := hwp I5 L6 A7 hp
        exact sw_vret hx hb hret hlocks hz hwp dX4_becomeSlope_41
      · have hwp := hwp.2 q
        refine lv_aload_n hx hb dX4_becomeSlope_14 rfl (lv_at hl 0 rfl) ?_
        obtain ⟨hs8, hwp⟩ := hwp
        refine sw_get (C := RX4) (T := TX4) (N := 2) (v := .ref (o0 + 1)) hx hb hts hw0 hown hK hz hs8 rfl 0 (by decide) hw2 (fun _ h9 => h9) rfl dX4_becomeSlope_15 ?_
        refine lv_iload_n hx hb dX4_becomeSlope_18 rfl (lv_at hl 2 rfl) ?_
        refine lv_iconst (v := 1) hx hb dX4_becomeSlope_19 (by decide) ?_
        refine lv_isub hx hb dX4_becomeSlope_20 ?_
        refine lv_iload_n hx hb dX4_becomeSlope_21 rfl (lv_at hl 2 rfl) ?_
        refine lv_i2l hx hb dX4_becomeSlope_22 rfl ?_
        refine lv_aload_n hx hb dX4_becomeSlope_23 rfl (lv_at hl 1 rfl) ?_
        refine sw_get (C := RX4) (T := TX4) (N := 2) (v := .ref (o1 + 1)) hx hb hts hw0 hown hK hz hs1 rfl 0 (by decide) hw2 (fun _ h9 => h9) rfl dX4_becomeSlope_24 ?_
        refine lv_iload_n hx hb dX4_becomeSlope_27 rfl (lv_at hl 2 rfl) ?_
        obtain ⟨ho9, hwp⟩ := hwp
        refine sw_lald hx hb hK hz ho9 dX4_becomeSlope_28 ?_
        refine lv_lmul hx hb dX4_becomeSlope_29 ?_
        obtain ⟨ho10, hwp⟩ := hwp
        refine sw_last hx hb hK hz ho10 dX4_becomeSlope_30 (fun H locs L11 e_L11 hz => ?_)
        have hwp := hwp L11 e_L11
        obtain ⟨v12, q_v12⟩ : ∃ y : Int32, y = x2 + 1 := ⟨_, rfl⟩
        have hwp := hwp v12 q_v12
        refine lv_iinc (v := v12) (lv' := [(2, .int v12), (0, .ref o0), (1, .ref o1)]) hx hb dX4_becomeSlope_31 hl (k := 2) rfl (by rw [q_v12]; rfl) (by decide) rfl (fun ls hl => ?_)
        refine lv_goto (tgt := 6) hx hb dX4_becomeSlope_34 (by decide) ?_
        exact hC6 _ _ _ _ _ _ _ hwp hz (lv_sub hl [1, 2, 0] rfl)
    exact key μ I L A x2 H locs ls hi hz hl
  refine lv_aload_n hx hb dX4_becomeSlope_0 rfl (lv_at hl 0 rfl) ?_
  obtain ⟨hs13, hwp⟩ := hwp
  obtain ⟨P14, hc15, hwp⟩ := hwp
  refine sw_callv hz (va_runV (As := []) (rest := []) ⟨hx, hb, hml, hown, hts⟩ (hc15 hK _) (cwV 0 hts gX4_becomeSlope_X4_clear rfl rfl rfl (by decide +kernel) ⟨Nat.le_of_ble_eq_true rfl, Nat.le_of_ble_eq_true rfl⟩) (hz.preV hK hs13 rfl) rfl rfl hl.1 rfl (lv_room (Nat.le_of_ble_eq_true rfl)) dX4_becomeSlope_1 ⟨Nat.le_of_ble_eq_true rfl, Nat.le_of_ble_eq_true rfl⟩) (fun I16 L17 A18 H locs hp hz => ?_)
  have hwp := hwp I16 L17 A18 hp
  refine lv_iconst (v := 1) hx hb dX4_becomeSlope_4 (by decide) ?_
  refine lv_istore_n (lv' := [(2, .int 1), (0, .ref o0), (1, .ref o1)]) hx hb dX4_becomeSlope_5 rfl hl (by decide) rfl (fun ls hl => ?_)
  exact wL6 _ _ _ _ _ _ _ hwp hz (lv_sub hl [1, 2, 0] rfl)

def wp_X4_becomeSum_3 (K : Cx) (o0 : Nat) (o1 : Nat) (j2 : Int64) (o4 : Nat) (j5 : Int64) (I : TI) (L : TL) (A : TA) (x7 : Int32) (Q : TI → TL → TA → Prop) : Prop := ∃ (Inv : Nat → TI → TL → TA → Int32 → Prop) (μ : Nat), Inv μ I L A x7 ∧ ∀ (μ : Nat) (C3 : TI → TL → TA → Int32 → Prop), (∀ (μ' : Nat) (I : TI) (L : TL) (A : TA) (x7 : Int32) , μ' < μ → Inv μ' I L A x7 → C3 I L A x7) → ∀ (I : TI) (L : TL) (A : TA) (x7 : Int32) , Inv μ I L A x7 → ((13 ≤ x7 → cxS K o0 = shX4 o0 ∧ ∃ P2 : TI → TL → TA → Prop, ConV K yX4_settle wsX4_settle 0 0 I L A [.ref o0] P2 ∧ ∀ (I4 : TI) (L5 : TL) (A6 : TA), P2 I4 L5 A6 → Q I4 L5 A6) ∧ (¬ 13 ≤ x7 → cxS K o0 = shX4 o0 ∧ cxS K o1 = shX4 o1 ∧ aok (cxS K) (o1 + 1) 1 x7 ∧ cxS K o4 = shX4 o4 ∧ aok (cxS K) (o4 + 1) 1 x7 ∧ aok (cxS K) (o0 + 1) 1 x7 ∧ ∀ L13 : TL, L13 = u2 L (o0 + 1) (ix x7) ((j2 * (L (o1 + 1) (ix x7))) + (j5 * (L (o4 + 1) (ix x7)))) → ∀ v14 : Int32, v14 = x7 + 1 → C3 I L13 A v14))
def wp_X4_becomeSum (K : Cx) (I : TI) (L : TL) (A : TA) (o0 : Nat) (o1 : Nat) (j2 : Int64) (o4 : Nat) (j5 : Int64) (Q : TI → TL → TA → Prop) : Prop := wp_X4_becomeSum_3 K o0 o1 j2 o4 j5 I L A 0 Q
set_option maxHeartbeats 1000000 in
set_option maxRecDepth 100000 in
theorem w_X4_becomeSum (K : Cx) (I : TI) (L : TL) (A : TA) (o0 : Nat) (o1 : Nat) (j2 : Int64) (o4 : Nat) (j5 : Int64) (Q : TI → TL → TA → Prop) (hwp : wp_X4_becomeSum K I L A o0 o1 j2 o4 j5 Q) : ConV K yX4_becomeSum wsX4_becomeSum 1 21 I L A [.ref o0, .ref o1, .long j2, .ref o4, .long j5] Q := by
  intro hK sz
  refine Met.ofW (cc := cX4_becomeSum) (maxL := 8) (ret := none) (by decide) rfl ?_
  intro p e s m args below meth c s₁ B hml hv
  obtain ⟨rfl, hsz, hB⟩ := hv
  have hx := B.exec
  have hb := B.bytes
  have hret := B.returns
  have hts := atoms_spec (ws := wsX4_becomeSum) B.pre
  have hown : s.vm.findClass RX4 = some m.cls := findClass_of_methodNamed B.named
  have hlocks := B.notSynchronized
  subst hsz
  have hz : SS K s I L A s.heap [] := PS.start hB
  have hl := lv_entry ([.ref o0, .ref o1, .long j2, .ref o4, .long j5]) (n := 8) (Nat.le_of_ble_eq_true rfl)
  rw [lg_entry_eq]
  generalize (lg_sl ([.ref o0, .ref o1, .long j2, .ref o4, .long j5]) ++ List.replicate (8 - (lg_sl ([.ref o0, .ref o1, .long j2, .ref o4, .long j5])).length) Slot.unset).toArray = ls at hl ⊢
  have hl : lv_has ls 8 [(0, .ref o0), (1, .ref o1), (2, .long j2), (4, .ref o4), (5, .long j5)] := hl
  have hw0 : ∀ w ∈ u_ws RX4 TX4 2, w ∈ wsX4_becomeSum := by decide +kernel
  have hw1 := hts (.fieldLink RX4 9 "GaloisDesk$Row" "c" "[J") (by decide +kernel)
  clear hB B
  have wL3 : ∀ (I : TI) (L : TL) (A : TA) (x7 : Int32) (H : Heap) (locs : List Loc) (ls : Array Slot), wp_X4_becomeSum_3 K o0 o1 j2 o4 j5 I L A x7 Q → SS K s I L A H locs → lv_has ls 8 [(0, .ref o0), (1, .ref o1), (2, .long j2), (4, .ref o4), (5, .long j5), (7, .int x7)] → W p (cxl K) e (headSpec wsX4_becomeSum (rmF 1 21)).room s m ([.ref o0, .ref o1, .long j2, .ref o4, .long j5] : List Value).toArray below meth c H locs 0 0 (MQ below (cxQv K Q) ([.ref o0, .ref o1, .long j2, .ref o4, .long j5] : List Value).toArray s 0 0 (PA (cxb K))) (F0 m 3 ls []) := by
    intro I L A x7 H locs ls hwp hz hl
    obtain ⟨Inv, μ, hi, hst⟩ := hwp
    have key : ∀ (μ : Nat) (I : TI) (L : TL) (A : TA) (x7 : Int32) (H : Heap) (locs : List Loc) (ls : Array Slot), Inv μ I L A x7 → SS K s I L A H locs → lv_has ls 8 [(0, .ref o0), (1, .ref o1), (2, .long j2), (4, .ref o4), (5, .long j5), (7, .int x7)] → W p (cxl K) e (headSpec wsX4_becomeSum (rmF 1 21)).room s m ([.ref o0, .ref o1, .long j2, .ref o4, .long j5] : List Value).toArray below meth c H locs 0 0 (MQ below (cxQv K Q) ([.ref o0, .ref o1, .long j2, .ref o4, .long j5] : List Value).toArray s 0 0 (PA (cxb K))) (F0 m 3 ls []) := by
      clear hi hz hl
      intro μ
      induction μ using Nat.strongRecOn with | ind μ ih => ?_
      intro I L A x7 H locs ls hi hz hl
      obtain ⟨C3, hCd⟩ : ∃ C : TI → TL → TA → Int32 → Prop, C = fun I L A x7 => ∃ μ', μ' < μ ∧ Inv μ' I L A x7 := ⟨_, rfl⟩
      have hC3 : ∀ (I : TI) (L : TL) (A : TA) (x7 : Int32) (H : Heap) (locs : List Loc) (ls : Array Slot), C3 I L A x7 → SS K s I L A H locs → lv_has ls 8 [(0, .ref o0), (1, .ref o1), (2, .long j2), (4, .ref o4), (5, .long j5), (7, .int x7)] → W p (cxl K) e (headSpec wsX4_becomeSum (rmF 1 21)).room s m ([.ref o0, .ref o1, .long j2, .ref o4, .long j5] : List Value).toArray below meth c H locs 0 0 (MQ below (cxQv K Q) ([.ref o0, .ref o1, .long j2, .ref o4, .long j5] : List Value).toArray s 0 0 (PA (cxb K))) (F0 m 3 ls []) := by
        intro I L A x7 H locs ls hc hz hl
        rw [hCd] at hc
        obtain ⟨μ', hlt, hc⟩ := hc
        exact ih μ' hlt I L A x7 H locs ls hc hz hl
      have hwp := hst μ C3 (fun μ' I L A x7 hlt hc => by rw [hCd]; exact ⟨μ', hlt, hc⟩) I L A x7 hi
      refine lv_iload hx hb dX4_becomeSum_3 (lv_at hl 5 rfl) ?_
      refine lv_bipush (v := 13) hx hb dX4_becomeSum_5 (by decide) ?_
      refine lv_icmp_ge (tgt := 44) hx hb dX4_becomeSum_7 (by decide) (fun q => ?_) (fun q => ?_)
      · have hwp := hwp.1 q
        refine lv_aload_n hx hb dX4_becomeSum_44 rfl (lv_at hl 0 rfl) ?_
        obtain ⟨hs1, hwp⟩ := hwp
        obtain ⟨P2, hc3, hwp⟩ := hwp
        refine sw_callv hz (va_runV (As := []) (rest := []) ⟨hx, hb, hml, hown, hts⟩ (hc3 hK _) (cwV 0 hts gX4_becomeSum_X4_settle rfl rfl rfl (by decide +kernel) ⟨Nat.le_of_ble_eq_true rfl, Nat.le_of_ble_eq_true rfl⟩) (hz.preV hK hs1 rfl) rfl rfl hl.1 rfl (lv_room (Nat.le_of_ble_eq_true rfl)) dX4_becomeSum_45 ⟨Nat.le_of_ble_eq_true rfl, Nat.le_of_ble_eq_true rfl⟩) (fun I4 L5 A6 H locs hp hz => ?_)
        have hwp := hwp I4 L5 A6 hp
        exact sw_vret hx hb hret hlocks hz hwp dX4_becomeSum_48
      · have hwp := hwp.2 q
        refine lv_aload_n hx hb dX4_becomeSum_10 rfl (lv_at hl 0 rfl) ?_
        obtain ⟨hs7, hwp⟩ := hwp
        refine sw_get (C := RX4) (T := TX4) (N := 2) (v := .ref (o0 + 1)) hx hb hts hw0 hown hK hz hs7 rfl 0 (by decide) hw1 (fun _ h9 => h9) rfl dX4_becomeSum_11 ?_
        refine lv_iload hx hb dX4_becomeSum_14 (lv_at hl 5 rfl) ?_
        refine lv_lload_n hx hb dX4_becomeSum_16 rfl (lv_at hl 2 rfl) ?_
        refine lv_aload_n hx hb dX4_becomeSum_17 rfl (lv_at hl 1 rfl) ?_
        obtain ⟨hs8, hwp⟩ := hwp
        refine sw_get (C := RX4) (T := TX4) (N := 2) (v := .ref (o1 + 1)) hx hb hts hw0 hown hK hz hs8 rfl 0 (by decide) hw1 (fun _ h9 => h9) rfl dX4_becomeSum_18 ?_
        refine lv_iload hx hb dX4_becomeSum_21 (lv_at hl 5 rfl) ?_
        obtain ⟨ho9, hwp⟩ := hwp
        refine sw_lald hx hb hK hz ho9 dX4_becomeSum_23 ?_
        refine lv_lmul hx hb dX4_becomeSum_24 ?_
        refine lv_lload hx hb dX4_becomeSum_25 (lv_at hl 4 rfl) ?_
        refine lv_aload hx hb dX4_becomeSum_27 (lv_at hl 3 rfl) ?_
        obtain ⟨hs10, hwp⟩ := hwp
        refine sw_get (C := RX4) (T := TX4) (N := 2) (v := .ref (o4 + 1)) hx hb hts hw0 hown hK hz hs10 rfl 0 (by decide) hw1 (fun _ h9 => h9) rfl dX4_becomeSum_29 ?_
        refine lv_iload hx hb dX4_becomeSum_32 (lv_at hl 5 rfl) ?_
        obtain ⟨ho11, hwp⟩ := hwp
        refine sw_lald hx hb hK hz ho11 dX4_becomeSum_34 ?_
        refine lv_lmul hx hb dX4_becomeSum_35 ?_
        refine lv_ladd hx hb dX4_becomeSum_36 ?_
        obtain ⟨ho12, hwp⟩ := hwp
        refine sw_last hx hb hK hz ho12 dX4_becomeSum_37 (fun H locs L13 e_L13 hz => ?_)
        have hwp := hwp L13 e_L13
        obtain ⟨v14, q_v14⟩ : ∃ y : Int32, y = x7 + 1 := ⟨_, rfl⟩
        have hwp := hwp v14 q_v14
        refine lv_iinc (v := v14) (lv' := [(7, .int v14), (0, .ref o0), (1, .ref o1), (2, .long j2), (4, .ref o4), (5, .long j5)]) hx hb dX4_becomeSum_38 hl (k := 5) rfl (by rw [q_v14]; rfl) (by decide) rfl (fun ls hl => ?_)
        refine lv_goto (tgt := 3) hx hb dX4_becomeSum_41 (by decide) ?_
        exact hC3 _ _ _ _ _ _ _ hwp hz (lv_sub hl [1, 2, 3, 4, 5, 0] rfl)
    exact key μ I L A x7 H locs ls hi hz hl
  refine lv_iconst (v := 0) hx hb dX4_becomeSum_0 (by decide) ?_
  refine lv_istore (lv' := [(7, .int 0), (0, .ref o0), (1, .ref o1), (2, .long j2), (4, .ref o4), (5, .long j5)]) hx hb dX4_becomeSum_1 hl (by decide) rfl (fun ls hl => ?_)
  exact wL3 _ _ _ _ _ _ _ hwp hz (lv_sub hl [1, 2, 3, 4, 5, 0] rfl)

def wp_X4_compareWith_28 (K : Cx) (o0 : Nat) (o1 : Nat) (I : TI) (L : TL) (A : TA) (x2 : Int32) (Q : Int32 → TI → TL → TA → Prop) : Prop := ∃ (Inv : Nat → TI → TL → TA → Int32 → Prop) (μ : Nat), Inv μ I L A x2 ∧ ∀ (μ : Nat) (C28 : TI → TL → TA → Int32 → Prop), (∀ (μ' : Nat) (I : TI) (L : TL) (A : TA) (x2 : Int32) , μ' < μ → Inv μ' I L A x2 → C28 I L A x2) → ∀ (I : TI) (L : TL) (A : TA) (x2 : Int32) , Inv μ I L A x2 → ((x2 < 0 → Q 0 I L A) ∧ (¬ x2 < 0 → cxS K o0 = shX4 o0 ∧ aok (cxS K) (o0 + 1) 1 x2 ∧ cxS K o1 = shX4 o1 ∧ aok (cxS K) (o1 + 1) 1 x2 ∧ (((L (o0 + 1) (ix x2)) = (L (o1 + 1) (ix x2)) → ∀ v5 : Int32, v5 = x2 + (-1) → C28 I L A v5) ∧ (¬ (L (o0 + 1) (ix x2)) = (L (o1 + 1) (ix x2)) → aok (cxS K) (o0 + 1) 1 x2 ∧ aok (cxS K) (o1 + 1) 1 x2 ∧ ∃ P8 : Int32 → TI → TL → TA → Prop, ConI K yJ13_compare_74951 wsJ13_compare_74951 0 0 I L A [.long (L (o0 + 1) (ix x2)), .long (L (o1 + 1) (ix x2))] P8 ∧ ∀ (r13 : Int32) (I10 : TI) (L11 : TL) (A12 : TA), P8 r13 I10 L11 A12 → Q r13 I10 L11 A12))))
def wp_X4_compareWith (K : Cx) (I : TI) (L : TL) (A : TA) (o0 : Nat) (o1 : Nat) (Q : Int32 → TI → TL → TA → Prop) : Prop := cxS K o0 = shX4 o0 ∧ cxS K o1 = shX4 o1 ∧ (((I o0 1) = (I o1 1) → ∀ v16 : Int32, v16 = (I o0 1) → wp_X4_compareWith_28 K o0 o1 I L A v16 Q) ∧ (¬ (I o0 1) = (I o1 1) → ∃ P17 : Int32 → TI → TL → TA → Prop, ConI K yJ6_compare_7cf53 wsJ6_compare_7cf53 0 0 I L A [.int (I o0 1), .int (I o1 1)] P17 ∧ ∀ (r22 : Int32) (I19 : TI) (L20 : TL) (A21 : TA), P17 r22 I19 L20 A21 → Q r22 I19 L20 A21))
set_option maxHeartbeats 1000000 in
set_option maxRecDepth 100000 in
theorem w_X4_compareWith (K : Cx) (I : TI) (L : TL) (A : TA) (o0 : Nat) (o1 : Nat) (Q : Int32 → TI → TL → TA → Prop) (hwp : wp_X4_compareWith K I L A o0 o1 Q) : ConI K yX4_compareWith wsX4_compareWith 1 23 I L A [.ref o0, .ref o1] Q := by
  intro hK sz
  refine Met.ofW (cc := cX4_compareWith) (maxL := 3) (ret := (some .int)) (by decide) rfl ?_
  intro p e s m args below meth c s₁ B hml hv
  obtain ⟨rfl, hsz, hB⟩ := hv
  have hx := B.exec
  have hb := B.bytes
  have hret := B.returns
  have hts := atoms_spec (ws := wsX4_compareWith) B.pre
  have hown : s.vm.findClass RX4 = some m.cls := findClass_of_methodNamed B.named
  have hlocks := B.notSynchronized
  subst hsz
  have hz : SS K s I L A s.heap [] := PS.start hB
  have hl := lv_entry ([.ref o0, .ref o1]) (n := 3) (Nat.le_of_ble_eq_true rfl)
  rw [lg_entry_eq]
  generalize (lg_sl ([.ref o0, .ref o1]) ++ List.replicate (3 - (lg_sl ([.ref o0, .ref o1])).length) Slot.unset).toArray = ls at hl ⊢
  have hl : lv_has ls 3 [(0, .ref o0), (1, .ref o1)] := hl
  have hw0 : ∀ w ∈ u_ws RX4 TX4 2, w ∈ wsX4_compareWith := by decide +kernel
  have hw1 := hts (.fieldLink RX4 9 "GaloisDesk$Row" "c" "[J") (by decide +kernel)
  have hw2 := hts (.fieldLink RX4 15 "GaloisDesk$Row" "top" "I") (by decide +kernel)
  clear hB B
  have wL28 : ∀ (I : TI) (L : TL) (A : TA) (x2 : Int32) (H : Heap) (locs : List Loc) (ls : Array Slot), wp_X4_compareWith_28 K o0 o1 I L A x2 Q → SS K s I L A H locs → lv_has ls 3 [(0, .ref o0), (1, .ref o1), (2, .int x2)] → W p (cxl K) e (headSpec wsX4_compareWith (rmF 1 23)).room s m ([.ref o0, .ref o1] : List Value).toArray below meth c H locs 0 0 (MQ below (cxQi K Q) ([.ref o0, .ref o1] : List Value).toArray s 0 0 (PA (cxb K))) (F0 m 28 ls []) := by
    intro I L A x2 H locs ls hwp hz hl
    obtain ⟨Inv, μ, hi, hst⟩ := hwp
    have key : ∀ (μ : Nat) (I : TI) (L : TL) (A : TA) (x2 : Int32) (H : Heap) (locs : List Loc) (ls : Array Slot), Inv μ I L A x2 → SS K s I L A H locs → lv_has ls 3 [(0, .ref o0), (1, .ref o1), (2, .int x2)] → W p (cxl K) e (headSpec wsX4_compareWith (rmF 1 23)).room s m ([.ref o0, .ref o1] : List Value).toArray below meth c H locs 0 0 (MQ below (cxQi K Q) ([.ref o0, .ref o1] : List Value).toArray s 0 0 (PA (cxb K))) (F0 m 28 ls []) := by
      clear hi hz hl
      intro μ
      induction μ using Nat.strongRecOn with | ind μ ih => ?_
      intro I L A x2 H locs ls hi hz hl
      obtain ⟨C28, hCd⟩ : ∃ C : TI → TL → TA → Int32 → Prop, C = fun I L A x2 => ∃ μ', μ' < μ ∧ Inv μ' I L A x2 := ⟨_, rfl⟩
      have hC28 : ∀ (I : TI) (L : TL) (A : TA) (x2 : Int32) (H : Heap) (locs : List Loc) (ls : Array Slot), C28 I L A x2 → SS K s I L A H locs → lv_has ls 3 [(0, .ref o0), (1, .ref o1), (2, .int x2)] → W p (cxl K) e (headSpec wsX4_compareWith (rmF 1 23)).room s m ([.ref o0, .ref o1] : List Value).toArray below meth c H locs 0 0 (MQ below (cxQi K Q) ([.ref o0, .ref o1] : List Value).toArray s 0 0 (PA (cxb K))) (F0 m 28 ls []) := by
        intro I L A x2 H locs ls hc hz hl
        rw [hCd] at hc
        obtain ⟨μ', hlt, hc⟩ := hc
        exact ih μ' hlt I L A x2 H locs ls hc hz hl
      have hwp := hst μ C28 (fun μ' I L A x2 hlt hc => by rw [hCd]; exact ⟨μ', hlt, hc⟩) I L A x2 hi
      refine lv_iload_n hx hb dX4_compareWith_28 rfl (lv_at hl 2 rfl) ?_
      refine lv_if_lt (tgt := 70) hx hb dX4_compareWith_29 (by decide) (fun q => ?_) (fun q => ?_)
      · have hwp := hwp.1 q
        refine lv_iconst (v := 0) hx hb dX4_compareWith_70 (by decide) ?_
        exact sw_iret hx hb hret hlocks hz hwp dX4_compareWith_71
      · have hwp := hwp.2 q
        refine lv_aload_n hx hb dX4_compareWith_32 rfl (lv_at hl 0 rfl) ?_
        obtain ⟨hs1, hwp⟩ := hwp
        refine sw_get (C := RX4) (T := TX4) (N := 2) (v := .ref (o0 + 1)) hx hb hts hw0 hown hK hz hs1 rfl 0 (by decide) hw1 (fun _ h9 => h9) rfl dX4_compareWith_33 ?_
        refine lv_iload_n hx hb dX4_compareWith_36 rfl (lv_at hl 2 rfl) ?_
        obtain ⟨ho2, hwp⟩ := hwp
        refine sw_lald hx hb hK hz ho2 dX4_compareWith_37 ?_
        refine lv_aload_n hx hb dX4_compareWith_38 rfl (lv_at hl 1 rfl) ?_
        obtain ⟨hs3, hwp⟩ := hwp
        refine sw_get (C := RX4) (T := TX4) (N := 2) (v := .ref (o1 + 1)) hx hb hts hw0 hown hK hz hs3 rfl 0 (by decide) hw1 (fun _ h9 => h9) rfl dX4_compareWith_39 ?_
        refine lv_iload_n hx hb dX4_compareWith_42 rfl (lv_at hl 2 rfl) ?_
        obtain ⟨ho4, hwp⟩ := hwp
        refine sw_lald hx hb hK hz ho4 dX4_compareWith_43 ?_
        refine W.lcmp hx hb dX4_compareWith_44 ?_
        refine W.eq (g2 := F0 m 45 ls [.int (lg_cmp (L (o0 + 1) (ix x2)) (L (o1 + 1) (ix x2)))]) rfl ?_
        refine lv_if_eq (tgt := 64) hx hb dX4_compareWith_45 (by decide) (fun q => ?_) (fun q => ?_)
        · have hwp := hwp.1 ((lg_cmp_eq _ _).mp q)
          obtain ⟨v5, q_v5⟩ : ∃ y : Int32, y = x2 + (-1) := ⟨_, rfl⟩
          have hwp := hwp v5 q_v5
          refine lv_iinc (v := v5) (lv' := [(2, .int v5), (0, .ref o0), (1, .ref o1)]) hx hb dX4_compareWith_64 hl (k := 2) rfl (by rw [q_v5]; rfl) (by decide) rfl (fun ls hl => ?_)
          refine lv_goto (tgt := 28) hx hb dX4_compareWith_67 (by decide) ?_
          exact hC28 _ _ _ _ _ _ _ hwp hz (lv_sub hl [1, 2, 0] rfl)
        · have hwp := hwp.2 (fun h => q ((lg_cmp_eq _ _).mpr h))
          refine lv_aload_n hx hb dX4_compareWith_48 rfl (lv_at hl 0 rfl) ?_
          refine sw_get (C := RX4) (T := TX4) (N := 2) (v := .ref (o0 + 1)) hx hb hts hw0 hown hK hz hs1 rfl 0 (by decide) hw1 (fun _ h9 => h9) rfl dX4_compareWith_49 ?_
          refine lv_iload_n hx hb dX4_compareWith_52 rfl (lv_at hl 2 rfl) ?_
          obtain ⟨ho6, hwp⟩ := hwp
          refine sw_lald hx hb hK hz ho6 dX4_compareWith_53 ?_
          refine lv_aload_n hx hb dX4_compareWith_54 rfl (lv_at hl 1 rfl) ?_
          refine sw_get (C := RX4) (T := TX4) (N := 2) (v := .ref (o1 + 1)) hx hb hts hw0 hown hK hz hs3 rfl 0 (by decide) hw1 (fun _ h9 => h9) rfl dX4_compareWith_55 ?_
          refine lv_iload_n hx hb dX4_compareWith_58 rfl (lv_at hl 2 rfl) ?_
          obtain ⟨ho7, hwp⟩ := hwp
          refine sw_lald hx hb hK hz ho7 dX4_compareWith_59 ?_
          obtain ⟨P8, hc9, hwp⟩ := hwp
          refine sw_calli hz (va_runS (As := [.long (L (o0 + 1) (ix x2)), .long (L (o1 + 1) (ix x2))]) (rest := []) ⟨hx, hb, hml, hown, hts⟩ (hc9 hK _) (va_cwS 2 hts gX4_compareWith_J13_compare_74951 rfl rfl rfl (by decide +kernel) ⟨Nat.le_of_ble_eq_true rfl, Nat.le_of_ble_eq_true rfl⟩) hz.preS rfl rfl hl.1 rfl (lv_room (Nat.le_of_ble_eq_true rfl)) dX4_compareWith_60 ⟨Nat.le_of_ble_eq_true rfl, Nat.le_of_ble_eq_true rfl⟩) (fun r13 I10 L11 A12 H locs hp hz => ?_)
          have hwp := hwp r13 I10 L11 A12 hp
          exact sw_iret hx hb hret hlocks hz hwp dX4_compareWith_63
    exact key μ I L A x2 H locs ls hi hz hl
  refine lv_aload_n hx hb dX4_compareWith_0 rfl (lv_at hl 0 rfl) ?_
  obtain ⟨hs14, hwp⟩ := hwp
  refine sw_get (C := RX4) (T := TX4) (N := 2) (v := .int (I o0 1)) hx hb hts hw0 hown hK hz hs14 rfl 1 (by decide) hw2 (fun _ h9 => h9) rfl dX4_compareWith_1 ?_
  refine lv_aload_n hx hb dX4_compareWith_4 rfl (lv_at hl 1 rfl) ?_
  obtain ⟨hs15, hwp⟩ := hwp
  refine sw_get (C := RX4) (T := TX4) (N := 2) (v := .int (I o1 1)) hx hb hts hw0 hown hK hz hs15 rfl 1 (by decide) hw2 (fun _ h9 => h9) rfl dX4_compareWith_5 ?_
  refine lv_icmp_eq (tgt := 23) hx hb dX4_compareWith_8 (by decide) (fun q => ?_) (fun q => ?_)
  · have hwp := hwp.1 q
    refine lv_aload_n hx hb dX4_compareWith_23 rfl (lv_at hl 0 rfl) ?_
    refine sw_get (C := RX4) (T := TX4) (N := 2) (v := .int (I o0 1)) hx hb hts hw0 hown hK hz hs14 rfl 1 (by decide) hw2 (fun _ h9 => h9) rfl dX4_compareWith_24 ?_
    refine lv_topi (fun v16 q_v16 => ?_)
    have hwp := hwp v16 q_v16
    refine lv_istore_n (lv' := [(2, .int v16), (0, .ref o0), (1, .ref o1)]) hx hb dX4_compareWith_27 rfl hl (by decide) rfl (fun ls hl => ?_)
    exact wL28 _ _ _ _ _ _ _ hwp hz (lv_sub hl [1, 2, 0] rfl)
  · have hwp := hwp.2 q
    refine lv_aload_n hx hb dX4_compareWith_11 rfl (lv_at hl 0 rfl) ?_
    refine sw_get (C := RX4) (T := TX4) (N := 2) (v := .int (I o0 1)) hx hb hts hw0 hown hK hz hs14 rfl 1 (by decide) hw2 (fun _ h9 => h9) rfl dX4_compareWith_12 ?_
    refine lv_aload_n hx hb dX4_compareWith_15 rfl (lv_at hl 1 rfl) ?_
    refine sw_get (C := RX4) (T := TX4) (N := 2) (v := .int (I o1 1)) hx hb hts hw0 hown hK hz hs15 rfl 1 (by decide) hw2 (fun _ h9 => h9) rfl dX4_compareWith_16 ?_
    obtain ⟨P17, hc18, hwp⟩ := hwp
    refine sw_calli hz (va_runS (As := [.int (I o0 1), .int (I o1 1)]) (rest := []) ⟨hx, hb, hml, hown, hts⟩ (hc18 hK _) (va_cwS 2 hts gX4_compareWith_J6_compare_7cf53 rfl rfl rfl (by decide +kernel) ⟨Nat.le_of_ble_eq_true rfl, Nat.le_of_ble_eq_true rfl⟩) hz.preS rfl rfl hl.1 rfl (lv_room (Nat.le_of_ble_eq_true rfl)) dX4_compareWith_19 ⟨Nat.le_of_ble_eq_true rfl, Nat.le_of_ble_eq_true rfl⟩) (fun r22 I19 L20 A21 H locs hp hz => ?_)
    have hwp := hwp r22 I19 L20 A21 hp
    exact sw_iret hx hb hret hlocks hz hwp dX4_compareWith_22

def wp_X4_isWithin_2 (K : Cx) (o0 : Nat) (j1 : Int64) (I : TI) (L : TL) (A : TA) (x3 : Int32) (Q : Int32 → TI → TL → TA → Prop) : Prop := ∃ (Inv : Nat → TI → TL → TA → Int32 → Prop) (μ : Nat), Inv μ I L A x3 ∧ ∀ (μ : Nat) (C2 : TI → TL → TA → Int32 → Prop), (∀ (μ' : Nat) (I : TI) (L : TL) (A : TA) (x3 : Int32) , μ' < μ → Inv μ' I L A x3 → C2 I L A x3) → ∀ (I : TI) (L : TL) (A : TA) (x3 : Int32) , Inv μ I L A x3 → cxS K o0 = shX4 o0 ∧ (((I o0 1) < x3 → Q 1 I L A) ∧ (¬ (I o0 1) < x3 → aok (cxS K) (o0 + 1) 1 x3 ∧ ((j1 < (L (o0 + 1) (ix x3)) → Q 0 I L A) ∧ (¬ j1 < (L (o0 + 1) (ix x3)) → aok (cxS K) (o0 + 1) 1 x3 ∧ (((-j1) ≤ (L (o0 + 1) (ix x3)) → ∀ v4 : Int32, v4 = x3 + 1 → C2 I L A v4) ∧ (¬ (-j1) ≤ (L (o0 + 1) (ix x3)) → Q 0 I L A))))))
def wp_X4_isWithin (K : Cx) (I : TI) (L : TL) (A : TA) (o0 : Nat) (j1 : Int64) (Q : Int32 → TI → TL → TA → Prop) : Prop := wp_X4_isWithin_2 K o0 j1 I L A 0 Q
set_option maxHeartbeats 1000000 in
set_option maxRecDepth 100000 in
theorem w_X4_isWithin (K : Cx) (I : TI) (L : TL) (A : TA) (o0 : Nat) (j1 : Int64) (Q : Int32 → TI → TL → TA → Prop) (hwp : wp_X4_isWithin K I L A o0 j1 Q) : ConI K yX4_isWithin wsX4_isWithin 0 0 I L A [.ref o0, .long j1] Q := by
  intro hK sz
  refine Met.ofW (cc := cX4_isWithin) (maxL := 4) (ret := (some .boolean)) (by decide) rfl ?_
  intro p e s m args below meth c s₁ B hml hv
  obtain ⟨rfl, hsz, hB⟩ := hv
  have hx := B.exec
  have hb := B.bytes
  have hret := B.returns
  have hts := atoms_spec (ws := wsX4_isWithin) B.pre
  have hown : s.vm.findClass RX4 = some m.cls := findClass_of_methodNamed B.named
  have hlocks := B.notSynchronized
  subst hsz
  have hz : SS K s I L A s.heap [] := PS.start hB
  have hl := lv_entry ([.ref o0, .long j1]) (n := 4) (Nat.le_of_ble_eq_true rfl)
  rw [lg_entry_eq]
  generalize (lg_sl ([.ref o0, .long j1]) ++ List.replicate (4 - (lg_sl ([.ref o0, .long j1])).length) Slot.unset).toArray = ls at hl ⊢
  have hl : lv_has ls 4 [(0, .ref o0), (1, .long j1)] := hl
  have hw0 : ∀ w ∈ u_ws RX4 TX4 2, w ∈ wsX4_isWithin := by decide +kernel
  have hw1 := hts (.fieldLink RX4 15 "GaloisDesk$Row" "top" "I") (by decide +kernel)
  have hw2 := hts (.fieldLink RX4 9 "GaloisDesk$Row" "c" "[J") (by decide +kernel)
  clear hB B
  have wL2 : ∀ (I : TI) (L : TL) (A : TA) (x3 : Int32) (H : Heap) (locs : List Loc) (ls : Array Slot), wp_X4_isWithin_2 K o0 j1 I L A x3 Q → SS K s I L A H locs → lv_has ls 4 [(0, .ref o0), (1, .long j1), (3, .int x3)] → W p (cxl K) e (headSpec wsX4_isWithin (rmF 0 0)).room s m ([.ref o0, .long j1] : List Value).toArray below meth c H locs 0 0 (MQ below (cxQi K Q) ([.ref o0, .long j1] : List Value).toArray s 0 0 (PA (cxb K))) (F0 m 2 ls []) := by
    intro I L A x3 H locs ls hwp hz hl
    obtain ⟨Inv, μ, hi, hst⟩ := hwp
    have key : ∀ (μ : Nat) (I : TI) (L : TL) (A : TA) (x3 : Int32) (H : Heap) (locs : List Loc) (ls : Array Slot), Inv μ I L A x3 → SS K s I L A H locs → lv_has ls 4 [(0, .ref o0), (1, .long j1), (3, .int x3)] → W p (cxl K) e (headSpec wsX4_isWithin (rmF 0 0)).room s m ([.ref o0, .long j1] : List Value).toArray below meth c H locs 0 0 (MQ below (cxQi K Q) ([.ref o0, .long j1] : List Value).toArray s 0 0 (PA (cxb K))) (F0 m 2 ls []) := by
      clear hi hz hl
      intro μ
      induction μ using Nat.strongRecOn with | ind μ ih => ?_
      intro I L A x3 H locs ls hi hz hl
      obtain ⟨C2, hCd⟩ : ∃ C : TI → TL → TA → Int32 → Prop, C = fun I L A x3 => ∃ μ', μ' < μ ∧ Inv μ' I L A x3 := ⟨_, rfl⟩
      have hC2 : ∀ (I : TI) (L : TL) (A : TA) (x3 : Int32) (H : Heap) (locs : List Loc) (ls : Array Slot), C2 I L A x3 → SS K s I L A H locs → lv_has ls 4 [(0, .ref o0), (1, .long j1), (3, .int x3)] → W p (cxl K) e (headSpec wsX4_isWithin (rmF 0 0)).room s m ([.ref o0, .long j1] : List Value).toArray below meth c H locs 0 0 (MQ below (cxQi K Q) ([.ref o0, .long j1] : List Value).toArray s 0 0 (PA (cxb K))) (F0 m 2 ls []) := by
        intro I L A x3 H locs ls hc hz hl
        rw [hCd] at hc
        obtain ⟨μ', hlt, hc⟩ := hc
        exact ih μ' hlt I L A x3 H locs ls hc hz hl
      have hwp := hst μ C2 (fun μ' I L A x3 hlt hc => by rw [hCd]; exact ⟨μ', hlt, hc⟩) I L A x3 hi
      refine lv_iload_n hx hb dX4_isWithin_2 rfl (lv_at hl 2 rfl) ?_
      refine lv_aload_n hx hb dX4_isWithin_3 rfl (lv_at hl 0 rfl) ?_
      obtain ⟨hs1, hwp⟩ := hwp
      refine sw_get (C := RX4) (T := TX4) (N := 2) (v := .int (I o0 1)) hx hb hts hw0 hown hK hz hs1 rfl 1 (by decide) hw1 (fun _ h9 => h9) rfl dX4_isWithin_4 ?_
      refine lv_icmp_gt (tgt := 41) hx hb dX4_isWithin_7 (by decide) (fun q => ?_) (fun q => ?_)
      · have hwp := hwp.1 q
        refine lv_iconst (v := 1) hx hb dX4_isWithin_41 (by decide) ?_
        exact sw_zret hx hb hret hlocks hz (Or.inr rfl) hwp dX4_isWithin_42
      · have hwp := hwp.2 q
        refine lv_aload_n hx hb dX4_isWithin_10 rfl (lv_at hl 0 rfl) ?_
        refine sw_get (C := RX4) (T := TX4) (N := 2) (v := .ref (o0 + 1)) hx hb hts hw0 hown hK hz hs1 rfl 0 (by decide) hw2 (fun _ h9 => h9) rfl dX4_isWithin_11 ?_
        refine lv_iload_n hx hb dX4_isWithin_14 rfl (lv_at hl 2 rfl) ?_
        obtain ⟨ho2, hwp⟩ := hwp
        refine sw_lald hx hb hK hz ho2 dX4_isWithin_15 ?_
        refine lv_lload_n hx hb dX4_isWithin_16 rfl (lv_at hl 1 rfl) ?_
        refine W.lcmp hx hb dX4_isWithin_17 ?_
        refine W.eq (g2 := F0 m 18 ls [.int (lg_cmp (L (o0 + 1) (ix x3)) j1)]) rfl ?_
        refine lv_if_gt (tgt := 33) hx hb dX4_isWithin_18 (by decide) (fun q => ?_) (fun q => ?_)
        · have hwp := hwp.1 ((lg_cmp_gt _ _).mp q)
          refine lv_iconst (v := 0) hx hb dX4_isWithin_33 (by decide) ?_
          exact sw_zret hx hb hret hlocks hz (Or.inl rfl) hwp dX4_isWithin_34
        · have hwp := hwp.2 (fun h => q ((lg_cmp_gt _ _).mpr h))
          refine lv_aload_n hx hb dX4_isWithin_21 rfl (lv_at hl 0 rfl) ?_
          refine sw_get (C := RX4) (T := TX4) (N := 2) (v := .ref (o0 + 1)) hx hb hts hw0 hown hK hz hs1 rfl 0 (by decide) hw2 (fun _ h9 => h9) rfl dX4_isWithin_22 ?_
          refine lv_iload_n hx hb dX4_isWithin_25 rfl (lv_at hl 2 rfl) ?_
          obtain ⟨ho3, hwp⟩ := hwp
          refine sw_lald hx hb hK hz ho3 dX4_isWithin_26 ?_
          refine lv_lload_n hx hb dX4_isWithin_27 rfl (lv_at hl 1 rfl) ?_
          refine lv_lneg hx hb dX4_isWithin_28 ?_
          refine W.lcmp hx hb dX4_isWithin_29 ?_
          refine W.eq (g2 := F0 m 30 ls [.int (lg_cmp (L (o0 + 1) (ix x3)) (-j1))]) rfl ?_
          refine lv_if_ge (tgt := 35) hx hb dX4_isWithin_30 (by decide) (fun q => ?_) (fun q => ?_)
          · have hwp := hwp.1 ((lg_cmp_ge _ _).mp q)
            obtain ⟨v4, q_v4⟩ : ∃ y : Int32, y = x3 + 1 := ⟨_, rfl⟩
            have hwp := hwp v4 q_v4
            refine lv_iinc (v := v4) (lv' := [(3, .int v4), (0, .ref o0), (1, .long j1)]) hx hb dX4_isWithin_35 hl (k := 2) rfl (by rw [q_v4]; rfl) (by decide) rfl (fun ls hl => ?_)
            refine lv_goto (tgt := 2) hx hb dX4_isWithin_38 (by decide) ?_
            exact hC2 _ _ _ _ _ _ _ hwp hz (lv_sub hl [1, 2, 0] rfl)
          · have hwp := hwp.2 (fun h => q ((lg_cmp_ge _ _).mpr h))
            refine lv_iconst (v := 0) hx hb dX4_isWithin_33 (by decide) ?_
            exact sw_zret hx hb hret hlocks hz (Or.inl rfl) hwp dX4_isWithin_34
    exact key μ I L A x3 H locs ls hi hz hl
  refine lv_iconst (v := 0) hx hb dX4_isWithin_0 (by decide) ?_
  refine lv_istore_n (lv' := [(3, .int 0), (0, .ref o0), (1, .long j1)]) hx hb dX4_isWithin_1 rfl hl (by decide) rfl (fun ls hl => ?_)
  exact wL2 _ _ _ _ _ _ _ hwp hz (lv_sub hl [1, 2, 0] rfl)

def wp_X4_signedMeasure_4 (K : Cx) (o0 : Nat) (I : TI) (L : TL) (A : TA) (x1 : Int64) (x3 : Int32) (Q : Int64 → TI → TL → TA → Prop) : Prop := ∃ (Inv : Nat → TI → TL → TA → Int64 → Int32 → Prop) (μ : Nat), Inv μ I L A x1 x3 ∧ ∀ (μ : Nat) (C4 : TI → TL → TA → Int64 → Int32 → Prop), (∀ (μ' : Nat) (I : TI) (L : TL) (A : TA) (x1 : Int64) (x3 : Int32) , μ' < μ → Inv μ' I L A x1 x3 → C4 I L A x1 x3) → ∀ (I : TI) (L : TL) (A : TA) (x1 : Int64) (x3 : Int32) , Inv μ I L A x1 x3 → cxS K o0 = shX4 o0 ∧ (((I o0 1) < x3 → ∃ P2 : Int64 → TI → TL → TA → Prop, ConL K yX4_lead wsX4_lead 1 21 I L A [.ref o0] P2 ∧ ∀ (r7 : Int64) (I4 : TI) (L5 : TL) (A6 : TA), P2 r7 I4 L5 A6 → ((0 ≤ r7 → Q x1 I4 L5 A6) ∧ (¬ 0 ≤ r7 → Q (-x1) I4 L5 A6))) ∧ (¬ (I o0 1) < x3 → aok (cxS K) (o0 + 1) 1 x3 ∧ ∃ P9 : Int64 → TI → TL → TA → Prop, ConL K yX6_greatestDivisor wsX6_greatestDivisor 1 40 I L A [.long x1, .long (L (o0 + 1) (ix x3))] P9 ∧ ∀ (r14 : Int64) (I11 : TI) (L12 : TL) (A13 : TA), P9 r14 I11 L12 A13 → ∀ v15 : Int32, v15 = x3 + 1 → C4 I11 L12 A13 r14 v15))
def wp_X4_signedMeasure (K : Cx) (I : TI) (L : TL) (A : TA) (o0 : Nat) (Q : Int64 → TI → TL → TA → Prop) : Prop := wp_X4_signedMeasure_4 K o0 I L A 0 0 Q
set_option maxHeartbeats 1000000 in
set_option maxRecDepth 100000 in
theorem w_X4_signedMeasure (K : Cx) (I : TI) (L : TL) (A : TA) (o0 : Nat) (Q : Int64 → TI → TL → TA → Prop) (hwp : wp_X4_signedMeasure K I L A o0 Q) : ConL K yX4_signedMeasure wsX4_signedMeasure 2 70 I L A [.ref o0] Q := by
  intro hK sz
  refine Met.ofW (cc := cX4_signedMeasure) (maxL := 4) (ret := (some .long)) (by decide) rfl ?_
  intro p e s m args below meth c s₁ B hml hv
  obtain ⟨rfl, hsz, hB⟩ := hv
  have hx := B.exec
  have hb := B.bytes
  have hret := B.returns
  have hts := atoms_spec (ws := wsX4_signedMeasure) B.pre
  have hown : s.vm.findClass RX4 = some m.cls := findClass_of_methodNamed B.named
  have hlocks := B.notSynchronized
  subst hsz
  have hz : SS K s I L A s.heap [] := PS.start hB
  have hl := lv_entry ([.ref o0]) (n := 4) (Nat.le_of_ble_eq_true rfl)
  rw [lg_entry_eq]
  generalize (lg_sl ([.ref o0]) ++ List.replicate (4 - (lg_sl ([.ref o0])).length) Slot.unset).toArray = ls at hl ⊢
  have hl : lv_has ls 4 [(0, .ref o0)] := hl
  have hw0 : ∀ w ∈ u_ws RX4 TX4 2, w ∈ wsX4_signedMeasure := by decide +kernel
  have hw1 := hts (.fieldLink RX4 15 "GaloisDesk$Row" "top" "I") (by decide +kernel)
  have hw2 := hts (.fieldLink RX4 9 "GaloisDesk$Row" "c" "[J") (by decide +kernel)
  have hw3 := hts (.initialized RX6) (by decide +kernel)
  have hw4 := hts (.static yX6_greatestDivisor) (by decide +kernel)
  clear hB B
  have wL4 : ∀ (I : TI) (L : TL) (A : TA) (x1 : Int64) (x3 : Int32) (H : Heap) (locs : List Loc) (ls : Array Slot), wp_X4_signedMeasure_4 K o0 I L A x1 x3 Q → SS K s I L A H locs → lv_has ls 4 [(0, .ref o0), (1, .long x1), (3, .int x3)] → W p (cxl K) e (headSpec wsX4_signedMeasure (rmF 2 70)).room s m ([.ref o0] : List Value).toArray below meth c H locs 0 0 (MQ below (cxQl K Q) ([.ref o0] : List Value).toArray s 0 0 (PA (cxb K))) (F0 m 4 ls []) := by
    intro I L A x1 x3 H locs ls hwp hz hl
    obtain ⟨Inv, μ, hi, hst⟩ := hwp
    have key : ∀ (μ : Nat) (I : TI) (L : TL) (A : TA) (x1 : Int64) (x3 : Int32) (H : Heap) (locs : List Loc) (ls : Array Slot), Inv μ I L A x1 x3 → SS K s I L A H locs → lv_has ls 4 [(0, .ref o0), (1, .long x1), (3, .int x3)] → W p (cxl K) e (headSpec wsX4_signedMeasure (rmF 2 70)).room s m ([.ref o0] : List Value).toArray below meth c H locs 0 0 (MQ below (cxQl K Q) ([.ref o0] : List Value).toArray s 0 0 (PA (cxb K))) (F0 m 4 ls []) := by
      clear hi hz hl
      intro μ
      induction μ using Nat.strongRecOn with | ind μ ih => ?_
      intro I L A x1 x3 H locs ls hi hz hl
      obtain ⟨C4, hCd⟩ : ∃ C : TI → TL → TA → Int64 → Int32 → Prop, C = fun I L A x1 x3 => ∃ μ', μ' < μ ∧ Inv μ' I L A x1 x3 := ⟨_, rfl⟩
      have hC4 : ∀ (I : TI) (L : TL) (A : TA) (x1 : Int64) (x3 : Int32) (H : Heap) (locs : List Loc) (ls : Array Slot), C4 I L A x1 x3 → SS K s I L A H locs → lv_has ls 4 [(0, .ref o0), (1, .long x1), (3, .int x3)] → W p (cxl K) e (headSpec wsX4_signedMeasure (rmF 2 70)).room s m ([.ref o0] : List Value).toArray below meth c H locs 0 0 (MQ below (cxQl K Q) ([.ref o0] : List Value).toArray s 0 0 (PA (cxb K))) (F0 m 4 ls []) := by
        intro I L A x1 x3 H locs ls hc hz hl
        rw [hCd] at hc
        obtain ⟨μ', hlt, hc⟩ := hc
        exact ih μ' hlt I L A x1 x3 H locs ls hc hz hl
      have hwp := hst μ C4 (fun μ' I L A x1 x3 hlt hc => by rw [hCd]; exact ⟨μ', hlt, hc⟩) I L A x1 x3 hi
      refine lv_iload_n hx hb dX4_signedMeasure_4 rfl (lv_at hl 2 rfl) ?_
      refine lv_aload_n hx hb dX4_signedMeasure_5 rfl (lv_at hl 0 rfl) ?_
      obtain ⟨hs1, hwp⟩ := hwp
      refine sw_get (C := RX4) (T := TX4) (N := 2) (v := .int (I o0 1)) hx hb hts hw0 hown hK hz hs1 rfl 1 (by decide) hw1 (fun _ h9 => h9) rfl dX4_signedMeasure_6 ?_
      refine lv_icmp_gt (tgt := 29) hx hb dX4_signedMeasure_9 (by decide) (fun q => ?_) (fun q => ?_)
      · have hwp := hwp.1 q
        refine lv_aload_n hx hb dX4_signedMeasure_29 rfl (lv_at hl 0 rfl) ?_
        obtain ⟨P2, hc3, hwp⟩ := hwp
        refine sw_calll hz (va_runV (As := []) (rest := []) ⟨hx, hb, hml, hown, hts⟩ (hc3 hK _) (cwV 0 hts gX4_signedMeasure_X4_lead rfl rfl rfl (by decide +kernel) ⟨Nat.le_of_ble_eq_true rfl, Nat.le_of_ble_eq_true rfl⟩) (hz.preV hK hs1 rfl) rfl rfl hl.1 rfl (lv_room (Nat.le_of_ble_eq_true rfl)) dX4_signedMeasure_30 ⟨Nat.le_of_ble_eq_true rfl, Nat.le_of_ble_eq_true rfl⟩) (fun r7 I4 L5 A6 H locs hp hz => ?_)
        have hwp := hwp r7 I4 L5 A6 hp
        refine lv_lconst (v := 0) hx hb dX4_signedMeasure_33 (by decide) ?_
        refine W.lcmp hx hb dX4_signedMeasure_34 ?_
        refine W.eq (g2 := F0 m 35 ls [.int (lg_cmp r7 0)]) rfl ?_
        refine lv_if_ge (tgt := 43) hx hb dX4_signedMeasure_35 (by decide) (fun q => ?_) (fun q => ?_)
        · have hwp := hwp.1 ((lg_cmp_ge _ _).mp q)
          refine lv_lload_n hx hb dX4_signedMeasure_43 rfl (lv_at hl 1 rfl) ?_
          exact sw_lret hx hb hret hlocks hz hwp dX4_signedMeasure_44
        · have hwp := hwp.2 (fun h => q ((lg_cmp_ge _ _).mpr h))
          refine lv_lload_n hx hb dX4_signedMeasure_38 rfl (lv_at hl 1 rfl) ?_
          refine lv_lneg hx hb dX4_signedMeasure_39 ?_
          refine lv_goto (tgt := 44) hx hb dX4_signedMeasure_40 (by decide) ?_
          exact sw_lret hx hb hret hlocks hz hwp dX4_signedMeasure_44
      · have hwp := hwp.2 q
        refine lv_lload_n hx hb dX4_signedMeasure_12 rfl (lv_at hl 1 rfl) ?_
        refine lv_aload_n hx hb dX4_signedMeasure_13 rfl (lv_at hl 0 rfl) ?_
        refine sw_get (C := RX4) (T := TX4) (N := 2) (v := .ref (o0 + 1)) hx hb hts hw0 hown hK hz hs1 rfl 0 (by decide) hw2 (fun _ h9 => h9) rfl dX4_signedMeasure_14 ?_
        refine lv_iload_n hx hb dX4_signedMeasure_17 rfl (lv_at hl 2 rfl) ?_
        obtain ⟨ho8, hwp⟩ := hwp
        refine sw_lald hx hb hK hz ho8 dX4_signedMeasure_18 ?_
        obtain ⟨P9, hc10, hwp⟩ := hwp
        refine sw_calll hz (va_runSN (As := [.long x1, .long (L (o0 + 1) (ix x3))]) (rest := []) ⟨hx, hb, hml, hown, hts⟩ (hc10 hK _) ⟨va_cnB 2 hts gX4_signedMeasure_X6_greatestDivisor_n51 rfl rfl rfl hz.gn.2.2.2.2.2.2.2.2.2.2.2.1 hw3 (by decide +kernel) ⟨Nat.le_of_ble_eq_true rfl, Nat.le_of_ble_eq_true rfl⟩, hw4, trivial⟩ hz.preS rfl rfl hl.1 rfl (lv_room (Nat.le_of_ble_eq_true rfl)) dX4_signedMeasure_19 ⟨Nat.le_of_ble_eq_true rfl, Nat.le_of_ble_eq_true rfl⟩) (fun r14 I11 L12 A13 H locs hp hz => ?_)
        have hwp := hwp r14 I11 L12 A13 hp
        refine lv_lstore_n (lv' := [(1, .long r14), (0, .ref o0), (3, .int x3)]) hx hb dX4_signedMeasure_22 rfl hl (by decide) rfl (fun ls hl => ?_)
        obtain ⟨v15, q_v15⟩ : ∃ y : Int32, y = x3 + 1 := ⟨_, rfl⟩
        have hwp := hwp v15 q_v15
        refine lv_iinc (v := v15) (lv' := [(3, .int v15), (1, .long r14), (0, .ref o0)]) hx hb dX4_signedMeasure_23 hl (k := 2) rfl (by rw [q_v15]; rfl) (by decide) rfl (fun ls hl => ?_)
        refine lv_goto (tgt := 4) hx hb dX4_signedMeasure_26 (by decide) ?_
        exact hC4 _ _ _ _ _ _ _ _ hwp hz (lv_sub hl [2, 1, 0] rfl)
    exact key μ I L A x1 x3 H locs ls hi hz hl
  refine lv_lconst (v := 0) hx hb dX4_signedMeasure_0 (by decide) ?_
  refine lv_lstore_n (lv' := [(1, .long 0), (0, .ref o0)]) hx hb dX4_signedMeasure_1 rfl hl (by decide) rfl (fun ls hl => ?_)
  refine lv_iconst (v := 0) hx hb dX4_signedMeasure_2 (by decide) ?_
  refine lv_istore_n (lv' := [(3, .int 0), (1, .long 0), (0, .ref o0)]) hx hb dX4_signedMeasure_3 rfl hl (by decide) rfl (fun ls hl => ?_)
  exact wL4 _ _ _ _ _ _ _ _ hwp hz (lv_sub hl [2, 1, 0] rfl)

def wp_X4_makePrimitive_14 (K : Cx) (o0 : Nat) (I : TI) (L : TL) (A : TA) (x1 : Int64) (x3 : Int32) (Q : TI → TL → TA → Prop) : Prop := ∃ (Inv : Nat → TI → TL → TA → Int64 → Int32 → Prop) (μ : Nat), Inv μ I L A x1 x3 ∧ ∀ (μ : Nat) (C14 : TI → TL → TA → Int64 → Int32 → Prop), (∀ (μ' : Nat) (I : TI) (L : TL) (A : TA) (x1 : Int64) (x3 : Int32) , μ' < μ → Inv μ' I L A x1 x3 → C14 I L A x1 x3) → ∀ (I : TI) (L : TL) (A : TA) (x1 : Int64) (x3 : Int32) , Inv μ I L A x1 x3 → cxS K o0 = shX4 o0 ∧ (((I o0 1) < x3 → Q I L A) ∧ (¬ (I o0 1) < x3 → aok (cxS K) (o0 + 1) 1 x3 ∧ ¬ x1 = 0 ∧ aok (cxS K) (o0 + 1) 1 x3 ∧ ∀ L5 : TL, L5 = u2 L (o0 + 1) (ix x3) ((L (o0 + 1) (ix x3)) / x1) → ∀ v6 : Int32, v6 = x3 + 1 → C14 I L5 A x1 v6))
def wp_X4_makePrimitive (K : Cx) (I : TI) (L : TL) (A : TA) (o0 : Nat) (Q : TI → TL → TA → Prop) : Prop := cxS K o0 = shX4 o0 ∧ ∃ P8 : Int64 → TI → TL → TA → Prop, ConL K yX4_signedMeasure wsX4_signedMeasure 2 70 I L A [.ref o0] P8 ∧ ∀ (r13 : Int64) (I10 : TI) (L11 : TL) (A12 : TA), P8 r13 I10 L11 A12 → ((r13 = 0 → Q I10 L11 A12) ∧ (¬ r13 = 0 → wp_X4_makePrimitive_14 K o0 I10 L11 A12 r13 0 Q))
set_option maxHeartbeats 1000000 in
set_option maxRecDepth 100000 in
theorem w_X4_makePrimitive (K : Cx) (I : TI) (L : TL) (A : TA) (o0 : Nat) (Q : TI → TL → TA → Prop) (hwp : wp_X4_makePrimitive K I L A o0 Q) : ConV K yX4_makePrimitive wsX4_makePrimitive 3 93 I L A [.ref o0] Q := by
  intro hK sz
  refine Met.ofW (cc := cX4_makePrimitive) (maxL := 4) (ret := none) (by decide) rfl ?_
  intro p e s m args below meth c s₁ B hml hv
  obtain ⟨rfl, hsz, hB⟩ := hv
  have hx := B.exec
  have hb := B.bytes
  have hret := B.returns
  have hts := atoms_spec (ws := wsX4_makePrimitive) B.pre
  have hown : s.vm.findClass RX4 = some m.cls := findClass_of_methodNamed B.named
  have hlocks := B.notSynchronized
  subst hsz
  have hz : SS K s I L A s.heap [] := PS.start hB
  have hl := lv_entry ([.ref o0]) (n := 4) (Nat.le_of_ble_eq_true rfl)
  rw [lg_entry_eq]
  generalize (lg_sl ([.ref o0]) ++ List.replicate (4 - (lg_sl ([.ref o0])).length) Slot.unset).toArray = ls at hl ⊢
  have hl : lv_has ls 4 [(0, .ref o0)] := hl
  have hw0 : ∀ w ∈ u_ws RX4 TX4 2, w ∈ wsX4_makePrimitive := by decide +kernel
  have hw1 := hts (.fieldLink RX4 15 "GaloisDesk$Row" "top" "I") (by decide +kernel)
  have hw2 := hts (.fieldLink RX4 9 "GaloisDesk$Row" "c" "[J") (by decide +kernel)
  clear hB B
  have wL14 : ∀ (I : TI) (L : TL) (A : TA) (x1 : Int64) (x3 : Int32) (H : Heap) (locs : List Loc) (ls : Array Slot), wp_X4_makePrimitive_14 K o0 I L A x1 x3 Q → SS K s I L A H locs → lv_has ls 4 [(0, .ref o0), (1, .long x1), (3, .int x3)] → W p (cxl K) e (headSpec wsX4_makePrimitive (rmF 3 93)).room s m ([.ref o0] : List Value).toArray below meth c H locs 0 0 (MQ below (cxQv K Q) ([.ref o0] : List Value).toArray s 0 0 (PA (cxb K))) (F0 m 14 ls []) := by
    intro I L A x1 x3 H locs ls hwp hz hl
    obtain ⟨Inv, μ, hi, hst⟩ := hwp
    have key : ∀ (μ : Nat) (I : TI) (L : TL) (A : TA) (x1 : Int64) (x3 : Int32) (H : Heap) (locs : List Loc) (ls : Array Slot), Inv μ I L A x1 x3 → SS K s I L A H locs → lv_has ls 4 [(0, .ref o0), (1, .long x1), (3, .int x3)] → W p (cxl K) e (headSpec wsX4_makePrimitive (rmF 3 93)).room s m ([.ref o0] : List Value).toArray below meth c H locs 0 0 (MQ below (cxQv K Q) ([.ref o0] : List Value).toArray s 0 0 (PA (cxb K))) (F0 m 14 ls []) := by
      clear hi hz hl
      intro μ
      induction μ using Nat.strongRecOn with | ind μ ih => ?_
      intro I L A x1 x3 H locs ls hi hz hl
      obtain ⟨C14, hCd⟩ : ∃ C : TI → TL → TA → Int64 → Int32 → Prop, C = fun I L A x1 x3 => ∃ μ', μ' < μ ∧ Inv μ' I L A x1 x3 := ⟨_, rfl⟩
      have hC14 : ∀ (I : TI) (L : TL) (A : TA) (x1 : Int64) (x3 : Int32) (H : Heap) (locs : List Loc) (ls : Array Slot), C14 I L A x1 x3 → SS K s I L A H locs → lv_has ls 4 [(0, .ref o0), (1, .long x1), (3, .int x3)] → W p (cxl K) e (headSpec wsX4_makePrimitive (rmF 3 93)).room s m ([.ref o0] : List Value).toArray below meth c H locs 0 0 (MQ below (cxQv K Q) ([.ref o0] : List Value).toArray s 0 0 (PA (cxb K))) (F0 m 14 ls []) := by
        intro I L A x1 x3 H locs ls hc hz hl
        rw [hCd] at hc
        obtain ⟨μ', hlt, hc⟩ := hc
        exact ih μ' hlt I L A x1 x3 H locs ls hc hz hl
      have hwp := hst μ C14 (fun μ' I L A x1 x3 hlt hc => by rw [hCd]; exact ⟨μ', hlt, hc⟩) I L A x1 x3 hi
      refine lv_iload_n hx hb dX4_makePrimitive_14 rfl (lv_at hl 2 rfl) ?_
      refine lv_aload_n hx hb dX4_makePrimitive_15 rfl (lv_at hl 0 rfl) ?_
      obtain ⟨hs1, hwp⟩ := hwp
      refine sw_get (C := RX4) (T := TX4) (N := 2) (v := .int (I o0 1)) hx hb hts hw0 hown hK hz hs1 rfl 1 (by decide) hw1 (fun _ h9 => h9) rfl dX4_makePrimitive_16 ?_
      refine lv_icmp_gt (tgt := 38) hx hb dX4_makePrimitive_19 (by decide) (fun q => ?_) (fun q => ?_)
      · have hwp := hwp.1 q
        exact sw_vret hx hb hret hlocks hz hwp dX4_makePrimitive_38
      · have hwp := hwp.2 q
        refine lv_aload_n hx hb dX4_makePrimitive_22 rfl (lv_at hl 0 rfl) ?_
        refine sw_get (C := RX4) (T := TX4) (N := 2) (v := .ref (o0 + 1)) hx hb hts hw0 hown hK hz hs1 rfl 0 (by decide) hw2 (fun _ h9 => h9) rfl dX4_makePrimitive_23 ?_
        refine lv_iload_n hx hb dX4_makePrimitive_26 rfl (lv_at hl 2 rfl) ?_
        refine lv_dup2_11 hx hb dX4_makePrimitive_27 rfl rfl ?_
        obtain ⟨ho2, hwp⟩ := hwp
        refine sw_lald hx hb hK hz ho2 dX4_makePrimitive_28 ?_
        refine lv_lload_n hx hb dX4_makePrimitive_29 rfl (lv_at hl 1 rfl) ?_
        obtain ⟨hn3, hwp⟩ := hwp
        refine lv_ldiv hx hb dX4_makePrimitive_30 hn3 ?_
        obtain ⟨ho4, hwp⟩ := hwp
        refine sw_last hx hb hK hz ho4 dX4_makePrimitive_31 (fun H locs L5 e_L5 hz => ?_)
        have hwp := hwp L5 e_L5
        obtain ⟨v6, q_v6⟩ : ∃ y : Int32, y = x3 + 1 := ⟨_, rfl⟩
        have hwp := hwp v6 q_v6
        refine lv_iinc (v := v6) (lv' := [(3, .int v6), (0, .ref o0), (1, .long x1)]) hx hb dX4_makePrimitive_32 hl (k := 2) rfl (by rw [q_v6]; rfl) (by decide) rfl (fun ls hl => ?_)
        refine lv_goto (tgt := 14) hx hb dX4_makePrimitive_35 (by decide) ?_
        exact hC14 _ _ _ _ _ _ _ _ hwp hz (lv_sub hl [1, 2, 0] rfl)
    exact key μ I L A x1 x3 H locs ls hi hz hl
  refine lv_aload_n hx hb dX4_makePrimitive_0 rfl (lv_at hl 0 rfl) ?_
  obtain ⟨hs7, hwp⟩ := hwp
  obtain ⟨P8, hc9, hwp⟩ := hwp
  refine sw_calll hz (va_runV (As := []) (rest := []) ⟨hx, hb, hml, hown, hts⟩ (hc9 hK _) (cwV 0 hts gX4_makePrimitive_X4_signedMeasure rfl rfl rfl (by decide +kernel) ⟨Nat.le_of_ble_eq_true rfl, Nat.le_of_ble_eq_true rfl⟩) (hz.preV hK hs7 rfl) rfl rfl hl.1 rfl (lv_room (Nat.le_of_ble_eq_true rfl)) dX4_makePrimitive_1 ⟨Nat.le_of_ble_eq_true rfl, Nat.le_of_ble_eq_true rfl⟩) (fun r13 I10 L11 A12 H locs hp hz => ?_)
  have hwp := hwp r13 I10 L11 A12 hp
  refine lv_lstore_n (lv' := [(1, .long r13), (0, .ref o0)]) hx hb dX4_makePrimitive_4 rfl hl (by decide) rfl (fun ls hl => ?_)
  refine lv_lload_n hx hb dX4_makePrimitive_5 rfl (lv_at hl 0 rfl) ?_
  refine lv_lconst (v := 0) hx hb dX4_makePrimitive_6 (by decide) ?_
  refine W.lcmp hx hb dX4_makePrimitive_7 ?_
  refine W.eq (g2 := F0 m 8 ls [.int (lg_cmp r13 0)]) rfl ?_
  refine lv_if_ne (tgt := 12) hx hb dX4_makePrimitive_8 (by decide) (fun q => ?_) (fun q => ?_)
  · have hwp := hwp.2 (fun h => q ((lg_cmp_eq _ _).mpr h))
    refine lv_iconst (v := 0) hx hb dX4_makePrimitive_12 (by decide) ?_
    refine lv_istore_n (lv' := [(3, .int 0), (1, .long r13), (0, .ref o0)]) hx hb dX4_makePrimitive_13 rfl hl (by decide) rfl (fun ls hl => ?_)
    exact wL14 _ _ _ _ _ _ _ _ hwp hz (lv_sub hl [2, 1, 0] rfl)
  · have hwp := hwp.1 ((lg_cmp_eq _ _).mp q)
    exact sw_vret hx hb hret hlocks hz hwp dX4_makePrimitive_11

