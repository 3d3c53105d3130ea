def wp_X1_discriminantOf (K : Cx) (I : TI) (L : TL) (A : TA) (j0 : Int64) (j2 : Int64) (j4 : Int64) (j6 : Int64) (Q : Int64 → TI → TL → TA → Prop) : Prop := Q (((((((j2 * j2) * j4) * j4) - ((((4 * j0) * j4) * j4) * j4)) - ((((4 * j2) * j2) * j2) * j6)) - ((((27 * j0) * j0) * j6) * j6)) + ((((18 * j0) * j2) * j4) * j6)) I L A
set_option maxHeartbeats 1000000 in
set_option maxRecDepth 100000 in
theorem w_X1_discriminantOf (K : Cx) (I : TI) (L : TL) (A : TA) (j0 : Int64) (j2 : Int64) (j4 : Int64) (j6 : Int64) (Q : Int64 → TI → TL → TA → Prop) (hwp : wp_X1_discriminantOf K I L A j0 j2 j4 j6 Q) : ConL K yX1_discriminantOf wsX1_discriminantOf 0 0 I L A [.long j0, .long j2, .long j4, .long j6] Q := by
  intro hK sz
  refine Met.ofW (cc := cX1_discriminantOf) (maxL := 8) (ret := (some .long)) (by decide) rfl ?_
  intro p e s m args below meth c s₁ B hml hv
  obtain ⟨rfl, hsz, hB⟩ := hv
  have hx := B.exec
  have hb := B.bytes
  have hret := B.returns
  have hts := atoms_spec (ws := wsX1_discriminantOf) B.pre
  have hown : s.vm.findClass RX1 = some m.cls := findClass_of_methodNamed B.named
  have hlocks := B.notSynchronized
  subst hsz
  have hz : SS K s I L A s.heap [] := PS.start hB
  have hl := lv_entry ([.long j0, .long j2, .long j4, .long j6]) (n := 8) (Nat.le_of_ble_eq_true rfl)
  rw [lg_entry_eq]
  generalize (lg_sl ([.long j0, .long j2, .long j4, .long j6]) ++ List.replicate (8 - (lg_sl ([.long j0, .long j2, .long j4, .long j6])).length) Slot.unset).toArray = ls at hl ⊢
  have hl : lv_has ls 8 [(0, .long j0), (2, .long j2), (4, .long j4), (6, .long j6)] := hl
  have hw0 := hts (.constantLong RX1 34 (4)) (by decide +kernel)
  have hw1 := hts (.constantLong RX1 48 (27)) (by decide +kernel)
  have hw2 := hts (.constantLong RX1 50 (18)) (by decide +kernel)
  clear hB B
  refine lv_lload_n hx hb dX1_discriminantOf_0 rfl (lv_at hl 1 rfl) ?_
  refine lv_lload_n hx hb dX1_discriminantOf_1 rfl (lv_at hl 1 rfl) ?_
  refine lv_lmul hx hb dX1_discriminantOf_2 ?_
  refine lv_lload hx hb dX1_discriminantOf_3 (lv_at hl 2 rfl) ?_
  refine lv_lmul hx hb dX1_discriminantOf_5 ?_
  refine lv_lload hx hb dX1_discriminantOf_6 (lv_at hl 2 rfl) ?_
  refine lv_lmul hx hb dX1_discriminantOf_8 ?_
  refine lv_ldc2 hx hb hown hw0 dX1_discriminantOf_9 ?_
  refine lv_lload_n hx hb dX1_discriminantOf_12 rfl (lv_at hl 0 rfl) ?_
  refine lv_lmul hx hb dX1_discriminantOf_13 ?_
  refine lv_lload hx hb dX1_discriminantOf_14 (lv_at hl 2 rfl) ?_
  refine lv_lmul hx hb dX1_discriminantOf_16 ?_
  refine lv_lload hx hb dX1_discriminantOf_17 (lv_at hl 2 rfl) ?_
  refine lv_lmul hx hb dX1_discriminantOf_19 ?_
  refine lv_lload hx hb dX1_discriminantOf_20 (lv_at hl 2 rfl) ?_
  refine lv_lmul hx hb dX1_discriminantOf_22 ?_
  refine lv_lsub hx hb dX1_discriminantOf_23 ?_
  refine lv_ldc2 hx hb hown hw0 dX1_discriminantOf_24 ?_
  refine lv_lload_n hx hb dX1_discriminantOf_27 rfl (lv_at hl 1 rfl) ?_
  refine lv_lmul hx hb dX1_discriminantOf_28 ?_
  refine lv_lload_n hx hb dX1_discriminantOf_29 rfl (lv_at hl 1 rfl) ?_
  refine lv_lmul hx hb dX1_discriminantOf_30 ?_
  refine lv_lload_n hx hb dX1_discriminantOf_31 rfl (lv_at hl 1 rfl) ?_
  refine lv_lmul hx hb dX1_discriminantOf_32 ?_
  refine lv_lload hx hb dX1_discriminantOf_33 (lv_at hl 3 rfl) ?_
  refine lv_lmul hx hb dX1_discriminantOf_35 ?_
  refine lv_lsub hx hb dX1_discriminantOf_36 ?_
  refine lv_ldc2 hx hb hown hw1 dX1_discriminantOf_37 ?_
  refine lv_lload_n hx hb dX1_discriminantOf_40 rfl (lv_at hl 0 rfl) ?_
  refine lv_lmul hx hb dX1_discriminantOf_41 ?_
  refine lv_lload_n hx hb dX1_discriminantOf_42 rfl (lv_at hl 0 rfl) ?_
  refine lv_lmul hx hb dX1_discriminantOf_43 ?_
  refine lv_lload hx hb dX1_discriminantOf_44 (lv_at hl 3 rfl) ?_
  refine lv_lmul hx hb dX1_discriminantOf_46 ?_
  refine lv_lload hx hb dX1_discriminantOf_47 (lv_at hl 3 rfl) ?_
  refine lv_lmul hx hb dX1_discriminantOf_49 ?_
  refine lv_lsub hx hb dX1_discriminantOf_50 ?_
  refine lv_ldc2 hx hb hown hw2 dX1_discriminantOf_51 ?_
  refine lv_lload_n hx hb dX1_discriminantOf_54 rfl (lv_at hl 0 rfl) ?_
  refine lv_lmul hx hb dX1_discriminantOf_55 ?_
  refine lv_lload_n hx hb dX1_discriminantOf_56 rfl (lv_at hl 1 rfl) ?_
  refine lv_lmul hx hb dX1_discriminantOf_57 ?_
  refine lv_lload hx hb dX1_discriminantOf_58 (lv_at hl 2 rfl) ?_
  refine lv_lmul hx hb dX1_discriminantOf_60 ?_
  refine lv_lload hx hb dX1_discriminantOf_61 (lv_at hl 3 rfl) ?_
  refine lv_lmul hx hb dX1_discriminantOf_63 ?_
  refine lv_ladd hx hb dX1_discriminantOf_64 ?_
  exact sw_lret hx hb hret hlocks hz hwp dX1_discriminantOf_65

def wp_X1_isSquare_6 (K : Cx) (j0 : Int64) (I : TI) (L : TL) (A : TA) (x2 : Int64) (x4 : Int32) (Q : Int32 → TI → TL → TA → Prop) : Prop := ∃ (Inv : Nat → TI → TL → TA → Int64 → Int32 → Prop) (μ : Nat), Inv μ I L A x2 x4 ∧ ∀ (μ : Nat) (C6 : TI → TL → TA → Int64 → Int32 → Prop), (∀ (μ' : Nat) (I : TI) (L : TL) (A : TA) (x2 : Int64) (x4 : Int32) , μ' < μ → Inv μ' I L A x2 x4 → C6 I L A x2 x4) → ∀ (I : TI) (L : TL) (A : TA) (x2 : Int64) (x4 : Int32) , Inv μ I L A x2 x4 → ((x4 < 0 → (((x2 * x2) = j0 → Q 1 I L A) ∧ (¬ (x2 * x2) = j0 → Q 0 I L A))) ∧ (¬ x4 < 0 → ∀ v1 : Int64, v1 = (x2 ||| (1 <<< (Int32.toInt64 x4 &&& 63))) → ((j0 < (v1 * v1) → ∀ v2 : Int32, v2 = x4 + (-1) → C6 I L A x2 v2) ∧ (¬ j0 < (v1 * v1) → ∀ v3 : Int32, v3 = x4 + (-1) → C6 I L A v1 v3))))
def wp_X1_isSquare (K : Cx) (I : TI) (L : TL) (A : TA) (j0 : Int64) (Q : Int32 → TI → TL → TA → Prop) : Prop := wp_X1_isSquare_6 K j0 I L A 0 30 Q
set_option maxHeartbeats 1000000 in
set_option maxRecDepth 100000 in
theorem w_X1_isSquare (K : Cx) (I : TI) (L : TL) (A : TA) (j0 : Int64) (Q : Int32 → TI → TL → TA → Prop) (hwp : wp_X1_isSquare K I L A j0 Q) : ConI K yX1_isSquare wsX1_isSquare 0 0 I L A [.long j0] Q := by
  intro hK sz
  refine Met.ofW (cc := cX1_isSquare) (maxL := 7) (ret := (some .boolean)) (by decide) rfl ?_
  intro p e s m args below meth c s₁ B hml hv
  obtain ⟨rfl, hsz, hB⟩ := hv
  have hx := B.exec
  have hb := B.bytes
  have hret := B.returns
  have hts := atoms_spec (ws := wsX1_isSquare) B.pre
  have hown : s.vm.findClass RX1 = some m.cls := findClass_of_methodNamed B.named
  have hlocks := B.notSynchronized
  subst hsz
  have hz : SS K s I L A s.heap [] := PS.start hB
  have hl := lv_entry ([.long j0]) (n := 7) (Nat.le_of_ble_eq_true rfl)
  rw [lg_entry_eq]
  generalize (lg_sl ([.long j0]) ++ List.replicate (7 - (lg_sl ([.long j0])).length) Slot.unset).toArray = ls at hl ⊢
  have hl : lv_has ls 7 [(0, .long j0)] := hl
  clear hB B
  have wL6 : ∀ (I : TI) (L : TL) (A : TA) (x2 : Int64) (x4 : Int32) (H : Heap) (locs : List Loc) (ls : Array Slot), wp_X1_isSquare_6 K j0 I L A x2 x4 Q → SS K s I L A H locs → lv_has ls 7 [(0, .long j0), (2, .long x2), (4, .int x4)] → W p (cxl K) e (headSpec wsX1_isSquare (rmF 0 0)).room s m ([.long j0] : List Value).toArray below meth c H locs 0 0 (MQ below (cxQi K Q) ([.long j0] : List Value).toArray s 0 0 (PA (cxb K))) (F0 m 6 ls []) := by
    intro I L A x2 x4 H locs ls hwp hz hl
    obtain ⟨Inv, μ, hi, hst⟩ := hwp
    have key : ∀ (μ : Nat) (I : TI) (L : TL) (A : TA) (x2 : Int64) (x4 : Int32) (H : Heap) (locs : List Loc) (ls : Array Slot), Inv μ I L A x2 x4 → SS K s I L A H locs → lv_has ls 7 [(0, .long j0), (2, .long x2), (4, .int x4)] → W p (cxl K) e (headSpec wsX1_isSquare (rmF 0 0)).room s m ([.long j0] : List Value).toArray below meth c H locs 0 0 (MQ below (cxQi K Q) ([.long j0] : List Value).toArray s 0 0 (PA (cxb K))) (F0 m 6 ls []) := by
      clear hi hz hl
      intro μ
      induction μ using Nat.strongRecOn with | ind μ ih => ?_
      intro I L A x2 x4 H locs ls hi hz hl
      obtain ⟨C6, hCd⟩ : ∃ C : TI → TL → TA → Int64 → Int32 → Prop, C = fun I L A x2 x4 => ∃ μ', μ' < μ ∧ Inv μ' I L A x2 x4 := ⟨_, rfl⟩
      have hC6 : ∀ (I : TI) (L : TL) (A : TA) (x2 : Int64) (x4 : Int32) (H : Heap) (locs : List Loc) (ls : Array Slot), C6 I L A x2 x4 → SS K s I L A H locs → lv_has ls 7 [(0, .long j0), (2, .long x2), (4, .int x4)] → W p (cxl K) e (headSpec wsX1_isSquare (rmF 0 0)).room s m ([.long j0] : List Value).toArray below meth c H locs 0 0 (MQ below (cxQi K Q) ([.long j0] : List Value).toArray s 0 0 (PA (cxb K))) (F0 m 6 ls []) := by
        intro I L A x2 x4 H locs ls hc hz hl
        rw [hCd] at hc
        obtain ⟨μ', hlt, hc⟩ := hc
        exact ih μ' hlt I L A x2 x4 H locs ls hc hz hl
      have hwp := hst μ C6 (fun μ' I L A x2 x4 hlt hc => by rw [hCd]; exact ⟨μ', hlt, hc⟩) I L A x2 x4 hi
      refine lv_iload hx hb dX1_isSquare_6 (lv_at hl 2 rfl) ?_
      refine lv_if_lt (tgt := 38) hx hb dX1_isSquare_8 (by decide) (fun q => ?_) (fun q => ?_)
      · have hwp := hwp.1 q
        refine lv_lload_n hx hb dX1_isSquare_38 rfl (lv_at hl 1 rfl) ?_
        refine lv_lload_n hx hb dX1_isSquare_39 rfl (lv_at hl 1 rfl) ?_
        refine lv_lmul hx hb dX1_isSquare_40 ?_
        refine lv_lload_n hx hb dX1_isSquare_41 rfl (lv_at hl 0 rfl) ?_
        refine W.lcmp hx hb dX1_isSquare_42 ?_
        refine W.eq (g2 := F0 m 43 ls [.int (lg_cmp (x2 * x2) j0)]) rfl ?_
        refine lv_if_ne (tgt := 50) hx hb dX1_isSquare_43 (by decide) (fun q => ?_) (fun q => ?_)
        · have hwp := hwp.2 (fun h => q ((lg_cmp_eq _ _).mpr h))
          refine lv_iconst (v := 0) hx hb dX1_isSquare_50 (by decide) ?_
          exact sw_zret hx hb hret hlocks hz (Or.inl rfl) hwp dX1_isSquare_51
        · have hwp := hwp.1 ((lg_cmp_eq _ _).mp q)
          refine lv_iconst (v := 1) hx hb dX1_isSquare_46 (by decide) ?_
          refine lv_goto (tgt := 51) hx hb dX1_isSquare_47 (by decide) ?_
          exact sw_zret hx hb hret hlocks hz (Or.inr rfl) hwp dX1_isSquare_51
      · have hwp := hwp.2 q
        refine lv_lload_n hx hb dX1_isSquare_11 rfl (lv_at hl 1 rfl) ?_
        refine lv_lconst (v := 1) hx hb dX1_isSquare_12 (by decide) ?_
        refine lv_iload hx hb dX1_isSquare_13 (lv_at hl 2 rfl) ?_
        refine lv_lshl hx hb dX1_isSquare_15 rfl ?_
        refine lv_lor hx hb dX1_isSquare_16 ?_
        refine lv_topl (fun v1 q_v1 => ?_)
        have hwp := hwp v1 q_v1
        refine lv_lstore (lv' := [(5, .long v1), (0, .long j0), (2, .long x2), (4, .int x4)]) hx hb dX1_isSquare_17 hl (by decide) rfl (fun ls hl => ?_)
        refine lv_lload hx hb dX1_isSquare_19 (lv_at hl 0 rfl) ?_
        refine lv_lload hx hb dX1_isSquare_21 (lv_at hl 0 rfl) ?_
        refine lv_lmul hx hb dX1_isSquare_23 ?_
        refine lv_lload_n hx hb dX1_isSquare_24 rfl (lv_at hl 1 rfl) ?_
        refine W.lcmp hx hb dX1_isSquare_25 ?_
        refine W.eq (g2 := F0 m 26 ls [.int (lg_cmp (v1 * v1) j0)]) rfl ?_
        refine lv_if_gt (tgt := 32) hx hb dX1_isSquare_26 (by decide) (fun q => ?_) (fun q => ?_)
        · have hwp := hwp.1 ((lg_cmp_gt _ _).mp q)
          obtain ⟨v2, q_v2⟩ : ∃ y : Int32, y = x4 + (-1) := ⟨_, rfl⟩
          have hwp := hwp v2 q_v2
          refine lv_iinc (v := v2) (lv' := [(4, .int v2), (5, .long v1), (0, .long j0), (2, .long x2)]) hx hb dX1_isSquare_32 hl (k := 3) rfl (by rw [q_v2]; rfl) (by decide) rfl (fun ls hl => ?_)
          refine lv_goto (tgt := 6) hx hb dX1_isSquare_35 (by decide) ?_
          exact hC6 _ _ _ _ _ _ _ _ hwp hz (lv_sub hl [2, 3, 0] rfl)
        · have hwp := hwp.2 (fun h => q ((lg_cmp_gt _ _).mpr h))
          refine lv_lload hx hb dX1_isSquare_29 (lv_at hl 0 rfl) ?_
          refine lv_lstore_n (lv' := [(2, .long v1), (5, .long v1), (0, .long j0), (4, .int x4)]) hx hb dX1_isSquare_31 rfl hl (by decide) rfl (fun ls hl => ?_)
          obtain ⟨v3, q_v3⟩ : ∃ y : Int32, y = x4 + (-1) := ⟨_, rfl⟩
          have hwp := hwp v3 q_v3
          refine lv_iinc (v := v3) (lv' := [(4, .int v3), (2, .long v1), (5, .long v1), (0, .long j0)]) hx hb dX1_isSquare_32 hl (k := 3) rfl (by rw [q_v3]; rfl) (by decide) rfl (fun ls hl => ?_)
          refine lv_goto (tgt := 6) hx hb dX1_isSquare_35 (by decide) ?_
          exact hC6 _ _ _ _ _ _ _ _ hwp hz (lv_sub hl [3, 1, 0] rfl)
    exact key μ I L A x2 x4 H locs ls hi hz hl
  refine lv_lconst (v := 0) hx hb dX1_isSquare_0 (by decide) ?_
  refine lv_lstore_n (lv' := [(2, .long 0), (0, .long j0)]) hx hb dX1_isSquare_1 rfl hl (by decide) rfl (fun ls hl => ?_)
  refine lv_bipush (v := 30) hx hb dX1_isSquare_2 (by decide) ?_
  refine lv_istore (lv' := [(4, .int 30), (2, .long 0), (0, .long j0)]) hx hb dX1_isSquare_4 hl (by decide) rfl (fun ls hl => ?_)
  exact wL6 _ _ _ _ _ _ _ _ hwp hz (lv_sub hl [2, 1, 0] rfl)

def wp_X1_isSquareProduct_50 (K : Cx) (j0 : Int64) (j2 : Int64) (I : TI) (L : TL) (A : TA) (x4 : Int64) (y0 : Int32) (y1 : Int32) (Q : Int32 → TI → TL → TA → Prop) : Prop := ((y1 = y0 → ¬ x4 = 0 ∧ ∃ P2 : Int32 → TI → TL → TA → Prop, ConI K yX1_isSquare wsX1_isSquare 0 0 I L A [.long (absJ (j0 / x4))] P2 ∧ ∀ (r7 : Int32) (I4 : TI) (L5 : TL) (A6 : TA), P2 r7 I4 L5 A6 → ((r7 = 0 → Q 0 I4 L5 A6) ∧ (¬ r7 = 0 → ¬ x4 = 0 ∧ ∃ P9 : Int32 → TI → TL → TA → Prop, ConI K yX1_isSquare wsX1_isSquare 0 0 I4 L5 A6 [.long (absJ (j2 / x4))] P9 ∧ ∀ (r14 : Int32) (I11 : TI) (L12 : TL) (A13 : TA), P9 r14 I11 L12 A13 → ((r14 = 0 → Q 0 I11 L12 A13) ∧ (¬ r14 = 0 → Q 1 I11 L12 A13))))) ∧ (¬ y1 = y0 → Q 0 I L A))
def wp_X1_isSquareProduct_39 (K : Cx) (j0 : Int64) (j2 : Int64) (I : TI) (L : TL) (A : TA) (x4 : Int64) (y0 : Int32) (Q : Int32 → TI → TL → TA → Prop) : Prop := ((0 ≤ j2 → wp_X1_isSquareProduct_50 K j0 j2 I L A x4 0 y0 Q) ∧ (¬ 0 ≤ j2 → wp_X1_isSquareProduct_50 K j0 j2 I L A x4 1 y0 Q))
def wp_X1_isSquareProduct (K : Cx) (I : TI) (L : TL) (A : TA) (j0 : Int64) (j2 : Int64) (Q : Int32 → TI → TL → TA → Prop) : Prop := ∃ P15 : Int64 → TI → TL → TA → Prop, ConL K yX6_greatestDivisor wsX6_greatestDivisor 1 40 I L A [.long j0, .long j2] P15 ∧ ∀ (r20 : Int64) (I17 : TI) (L18 : TL) (A19 : TA), P15 r20 I17 L18 A19 → ((j0 = 0 → Q 1 I17 L18 A19) ∧ (¬ j0 = 0 → ((j2 = 0 → Q 1 I17 L18 A19) ∧ (¬ j2 = 0 → ((r20 = 0 → Q 1 I17 L18 A19) ∧ (¬ r20 = 0 → ((0 ≤ j0 → wp_X1_isSquareProduct_39 K j0 j2 I17 L18 A19 r20 0 Q) ∧ (¬ 0 ≤ j0 → wp_X1_isSquareProduct_39 K j0 j2 I17 L18 A19 r20 1 Q))))))))
set_option maxHeartbeats 1000000 in
set_option maxRecDepth 100000 in
theorem w_X1_isSquareProduct (K : Cx) (I : TI) (L : TL) (A : TA) (j0 : Int64) (j2 : Int64) (Q : Int32 → TI → TL → TA → Prop) (hwp : wp_X1_isSquareProduct K I L A j0 j2 Q) : ConI K yX1_isSquareProduct wsX1_isSquareProduct 2 70 I L A [.long j0, .long j2] Q := by
  intro hK sz
  refine Met.ofW (cc := cX1_isSquareProduct) (maxL := 6) (ret := (some .boolean)) (by decide) rfl ?_
  intro p e s m args below meth c s₁ B hml hv
  obtain ⟨rfl, hsz, hB⟩ := hv
  have hx := B.exec
  have hb := B.bytes
  have hret := B.returns
  have hts := atoms_spec (ws := wsX1_isSquareProduct) B.pre
  have hown : s.vm.findClass RX1 = some m.cls := findClass_of_methodNamed B.named
  have hlocks := B.notSynchronized
  subst hsz
  have hz : SS K s I L A s.heap [] := PS.start hB
  have hl := lv_entry ([.long j0, .long j2]) (n := 6) (Nat.le_of_ble_eq_true rfl)
  rw [lg_entry_eq]
  generalize (lg_sl ([.long j0, .long j2]) ++ List.replicate (6 - (lg_sl ([.long j0, .long j2])).length) Slot.unset).toArray = ls at hl ⊢
  have hl : lv_has ls 6 [(0, .long j0), (2, .long j2)] := hl
  have hw0 := hts (.methodLink RX1 58 Lib.MathLoose.abs_long.x) (by decide +kernel)
  have hw1 := hts (.static Lib.MathLoose.abs_long.x) (by decide +kernel)
  have hw2 := hts (.initialized "java/lang/Math") (by decide +kernel)
  have hw3 := hts (.code Lib.MathLoose.abs_long.x Lib.MathLoose.abs_long.code 2 (some .long)) (by decide +kernel)
  have hw4 := hts (.initialized RX6) (by decide +kernel)
  have hw5 := hts (.static yX6_greatestDivisor) (by decide +kernel)
  clear hB B
  have wL50 : ∀ (I : TI) (L : TL) (A : TA) (x4 : Int64) (y0 : Int32) (y1 : Int32) (H : Heap) (locs : List Loc) (ls : Array Slot), wp_X1_isSquareProduct_50 K j0 j2 I L A x4 y0 y1 Q → SS K s I L A H locs → lv_has ls 6 [(0, .long j0), (2, .long j2), (4, .long x4)] → W p (cxl K) e (headSpec wsX1_isSquareProduct (rmF 2 70)).room s m ([.long j0, .long j2] : List Value).toArray below meth c H locs 0 0 (MQ below (cxQi K Q) ([.long j0, .long j2] : List Value).toArray s 0 0 (PA (cxb K))) (F0 m 50 ls [.int y0, .int y1]) := by
    intro I L A x4 y0 y1 H locs ls hwp hz hl
    refine lv_icmp_ne (tgt := 83) hx hb dX1_isSquareProduct_50 (by decide) (fun q => ?_) (fun q => ?_)
    · have hwp := hwp.2 q
      refine lv_iconst (v := 0) hx hb dX1_isSquareProduct_83 (by decide) ?_
      exact sw_zret hx hb hret hlocks hz (Or.inl rfl) hwp dX1_isSquareProduct_84
    · have hwp := hwp.1 q
      refine lv_lload_n hx hb dX1_isSquareProduct_53 rfl (lv_at hl 0 rfl) ?_
      refine lv_lload hx hb dX1_isSquareProduct_54 (lv_at hl 2 rfl) ?_
      obtain ⟨hn1, hwp⟩ := hwp
      refine lv_ldiv hx hb dX1_isSquareProduct_56 hn1 ?_
      refine va_mabs_long hx hb (by rw [hml]; exact hl.1.symm) hown hw0 hw1 hw2 hw3 (Nat.le_of_ble_eq_true rfl) (Nat.le_of_ble_eq_true rfl) (Nat.le_of_ble_eq_true rfl) (Nat.le_of_ble_eq_true rfl) dX1_isSquareProduct_57 ?_
      refine W.eq (g2 := F0 m 60 ls [.long (absJ (j0 / x4))]) rfl ?_
      obtain ⟨P2, hc3, hwp⟩ := hwp
      refine sw_calli hz (va_runS (As := [.long (absJ (j0 / x4))]) (rest := []) ⟨hx, hb, hml, hown, hts⟩ (hc3 hK _) (va_cwS 1 hts gX1_isSquareProduct_X1_isSquare rfl rfl rfl (by decide +kernel) ⟨Nat.le_of_ble_eq_true rfl, Nat.le_of_ble_eq_true rfl⟩) hz.preS rfl rfl hl.1 rfl (lv_room (Nat.le_of_ble_eq_true rfl)) dX1_isSquareProduct_60 ⟨Nat.le_of_ble_eq_true rfl, Nat.le_of_ble_eq_true rfl⟩) (fun r7 I4 L5 A6 H locs hp hz => ?_)
      have hwp := hwp r7 I4 L5 A6 hp
      refine lv_if_eq (tgt := 83) hx hb dX1_isSquareProduct_63 (by decide) (fun q => ?_) (fun q => ?_)
      · have hwp := hwp.1 q
        refine lv_iconst (v := 0) hx hb dX1_isSquareProduct_83 (by decide) ?_
        exact sw_zret hx hb hret hlocks hz (Or.inl rfl) hwp dX1_isSquareProduct_84
      · have hwp := hwp.2 q
        refine lv_lload_n hx hb dX1_isSquareProduct_66 rfl (lv_at hl 1 rfl) ?_
        refine lv_lload hx hb dX1_isSquareProduct_67 (lv_at hl 2 rfl) ?_
        obtain ⟨hn8, hwp⟩ := hwp
        refine lv_ldiv hx hb dX1_isSquareProduct_69 hn8 ?_
        refine va_mabs_long hx hb (by rw [hml]; exact hl.1.symm) hown hw0 hw1 hw2 hw3 (Nat.le_of_ble_eq_true rfl) (Nat.le_of_ble_eq_true rfl) (Nat.le_of_ble_eq_true rfl) (Nat.le_of_ble_eq_true rfl) dX1_isSquareProduct_70 ?_
        refine W.eq (g2 := F0 m 73 ls [.long (absJ (j2 / x4))]) rfl ?_
        obtain ⟨P9, hc10, hwp⟩ := hwp
        refine sw_calli hz (va_runS (As := [.long (absJ (j2 / x4))]) (rest := []) ⟨hx, hb, hml, hown, hts⟩ (hc10 hK _) (va_cwS 1 hts gX1_isSquareProduct_X1_isSquare rfl rfl rfl (by decide +kernel) ⟨Nat.le_of_ble_eq_true rfl, Nat.le_of_ble_eq_true rfl⟩) hz.preS rfl rfl hl.1 rfl (lv_room (Nat.le_of_ble_eq_true rfl)) dX1_isSquareProduct_73 ⟨Nat.le_of_ble_eq_true rfl, Nat.le_of_ble_eq_true rfl⟩) (fun r14 I11 L12 A13 H locs hp hz => ?_)
        have hwp := hwp r14 I11 L12 A13 hp
        refine lv_if_eq (tgt := 83) hx hb dX1_isSquareProduct_76 (by decide) (fun q => ?_) (fun q => ?_)
        · have hwp := hwp.1 q
          refine lv_iconst (v := 0) hx hb dX1_isSquareProduct_83 (by decide) ?_
          exact sw_zret hx hb hret hlocks hz (Or.inl rfl) hwp dX1_isSquareProduct_84
        · have hwp := hwp.2 q
          refine lv_iconst (v := 1) hx hb dX1_isSquareProduct_79 (by decide) ?_
          refine lv_goto (tgt := 84) hx hb dX1_isSquareProduct_80 (by decide) ?_
          exact sw_zret hx hb hret hlocks hz (Or.inr rfl) hwp dX1_isSquareProduct_84
  have wL39 : ∀ (I : TI) (L : TL) (A : TA) (x4 : Int64) (y0 : Int32) (H : Heap) (locs : List Loc) (ls : Array Slot), wp_X1_isSquareProduct_39 K j0 j2 I L A x4 y0 Q → SS K s I L A H locs → lv_has ls 6 [(0, .long j0), (2, .long j2), (4, .long x4)] → W p (cxl K) e (headSpec wsX1_isSquareProduct (rmF 2 70)).room s m ([.long j0, .long j2] : List Value).toArray below meth c H locs 0 0 (MQ below (cxQi K Q) ([.long j0, .long j2] : List Value).toArray s 0 0 (PA (cxb K))) (F0 m 39 ls [.int y0]) := by
    intro I L A x4 y0 H locs ls hwp hz hl
    refine lv_lload_n hx hb dX1_isSquareProduct_39 rfl (lv_at hl 1 rfl) ?_
    refine lv_lconst (v := 0) hx hb dX1_isSquareProduct_40 (by decide) ?_
    refine W.lcmp hx hb dX1_isSquareProduct_41 ?_
    refine W.eq (g2 := F0 m 42 ls [.int (lg_cmp j2 0), .int y0]) rfl ?_
    refine lv_if_ge (tgt := 49) hx hb dX1_isSquareProduct_42 (by decide) (fun q => ?_) (fun q => ?_)
    · have hwp := hwp.1 ((lg_cmp_ge _ _).mp q)
      refine lv_iconst (v := 0) hx hb dX1_isSquareProduct_49 (by decide) ?_
      exact wL50 _ _ _ _ _ _ _ _ _ hwp hz (lv_sub hl [0, 1, 2] rfl)
    · have hwp := hwp.2 (fun h => q ((lg_cmp_ge _ _).mpr h))
      refine lv_iconst (v := 1) hx hb dX1_isSquareProduct_45 (by decide) ?_
      refine lv_goto (tgt := 50) hx hb dX1_isSquareProduct_46 (by decide) ?_
      exact wL50 _ _ _ _ _ _ _ _ _ hwp hz (lv_sub hl [0, 1, 2] rfl)
  refine lv_lload_n hx hb dX1_isSquareProduct_0 rfl (lv_at hl 0 rfl) ?_
  refine lv_lload_n hx hb dX1_isSquareProduct_1 rfl (lv_at hl 1 rfl) ?_
  obtain ⟨P15, hc16, hwp⟩ := hwp
  refine sw_calll hz (va_runSN (As := [.long j0, .long j2]) (rest := []) ⟨hx, hb, hml, hown, hts⟩ (hc16 hK _) ⟨va_cnB 2 hts gX1_isSquareProduct_X6_greatestDivisor_n52 rfl rfl rfl hz.gn.2.2.2.2.2.2.2.2.2.2.2.2.2 hw4 (by decide +kernel) ⟨Nat.le_of_ble_eq_true rfl, Nat.le_of_ble_eq_true rfl⟩, hw5, trivial⟩ hz.preS rfl rfl hl.1 rfl (lv_room (Nat.le_of_ble_eq_true rfl)) dX1_isSquareProduct_2 ⟨Nat.le_of_ble_eq_true rfl, Nat.le_of_ble_eq_true rfl⟩) (fun r20 I17 L18 A19 H locs hp hz => ?_)
  have hwp := hwp r20 I17 L18 A19 hp
  refine lv_lstore (lv' := [(4, .long r20), (0, .long j0), (2, .long j2)]) hx hb dX1_isSquareProduct_5 hl (by decide) rfl (fun ls hl => ?_)
  refine lv_lload_n hx hb dX1_isSquareProduct_7 rfl (lv_at hl 1 rfl) ?_
  refine lv_lconst (v := 0) hx hb dX1_isSquareProduct_8 (by decide) ?_
  refine W.lcmp hx hb dX1_isSquareProduct_9 ?_
  refine W.eq (g2 := F0 m 10 ls [.int (lg_cmp j0 0)]) rfl ?_
  refine lv_if_eq (tgt := 26) hx hb dX1_isSquareProduct_10 (by decide) (fun q => ?_) (fun q => ?_)
  · have hwp := hwp.1 ((lg_cmp_eq _ _).mp q)
    refine lv_iconst (v := 1) hx hb dX1_isSquareProduct_26 (by decide) ?_
    exact sw_zret hx hb hret hlocks hz (Or.inr rfl) hwp dX1_isSquareProduct_27
  · have hwp := hwp.2 (fun h => q ((lg_cmp_eq _ _).mpr h))
    refine lv_lload_n hx hb dX1_isSquareProduct_13 rfl (lv_at hl 2 rfl) ?_
    refine lv_lconst (v := 0) hx hb dX1_isSquareProduct_14 (by decide) ?_
    refine W.lcmp hx hb dX1_isSquareProduct_15 ?_
    refine W.eq (g2 := F0 m 16 ls [.int (lg_cmp j2 0)]) rfl ?_
    refine lv_if_eq (tgt := 26) hx hb dX1_isSquareProduct_16 (by decide) (fun q => ?_) (fun q => ?_)
    · have hwp := hwp.1 ((lg_cmp_eq _ _).mp q)
      refine lv_iconst (v := 1) hx hb dX1_isSquareProduct_26 (by decide) ?_
      exact sw_zret hx hb hret hlocks hz (Or.inr rfl) hwp dX1_isSquareProduct_27
    · have hwp := hwp.2 (fun h => q ((lg_cmp_eq _ _).mpr h))
      refine lv_lload hx hb dX1_isSquareProduct_19 (lv_at hl 0 rfl) ?_
      refine lv_lconst (v := 0) hx hb dX1_isSquareProduct_21 (by decide) ?_
      refine W.lcmp hx hb dX1_isSquareProduct_22 ?_
      refine W.eq (g2 := F0 m 23 ls [.int (lg_cmp r20 0)]) rfl ?_
      refine lv_if_ne (tgt := 28) hx hb dX1_isSquareProduct_23 (by decide) (fun q => ?_) (fun q => ?_)
      · have hwp := hwp.2 (fun h => q ((lg_cmp_eq _ _).mpr h))
        refine lv_lload_n hx hb dX1_isSquareProduct_28 rfl (lv_at hl 1 rfl) ?_
        refine lv_lconst (v := 0) hx hb dX1_isSquareProduct_29 (by decide) ?_
        refine W.lcmp hx hb dX1_isSquareProduct_30 ?_
        refine W.eq (g2 := F0 m 31 ls [.int (lg_cmp j0 0)]) rfl ?_
        refine lv_if_ge (tgt := 38) hx hb dX1_isSquareProduct_31 (by decide) (fun q => ?_) (fun q => ?_)
        · have hwp := hwp.1 ((lg_cmp_ge _ _).mp q)
          refine lv_iconst (v := 0) hx hb dX1_isSquareProduct_38 (by decide) ?_
          exact wL39 _ _ _ _ _ _ _ _ hwp hz (lv_sub hl [1, 2, 0] rfl)
        · have hwp := hwp.2 (fun h => q ((lg_cmp_ge _ _).mpr h))
          refine lv_iconst (v := 1) hx hb dX1_isSquareProduct_34 (by decide) ?_
          refine lv_goto (tgt := 39) hx hb dX1_isSquareProduct_35 (by decide) ?_
          exact wL39 _ _ _ _ _ _ _ _ hwp hz (lv_sub hl [1, 2, 0] rfl)
      · have hwp := hwp.1 ((lg_cmp_eq _ _).mp q)
        refine lv_iconst (v := 1) hx hb dX1_isSquareProduct_26 (by decide) ?_
        exact sw_zret hx hb hret hlocks hz (Or.inr rfl) hwp dX1_isSquareProduct_27

def wp_X1_isCycle (K : Cx) (I : TI) (L : TL) (A : TA) (o0 : Nat) (j1 : Int64) (j3 : Int64) (Q : Int32 → TI → TL → TA → Prop) : Prop := cxS K o0 = shX4 o0 ∧ ∃ P2 : Int64 → TI → TL → TA → Prop, ConL K yX4_at wsX4_at 0 0 I L A [.ref o0, .int 3] P2 ∧ ∀ (r7 : Int64) (I4 : TI) (L5 : TL) (A6 : TA), P2 r7 I4 L5 A6 → ∃ P8 : Int64 → TI → TL → TA → Prop, ConL K yX4_at wsX4_at 0 0 I4 L5 A6 [.ref o0, .int 3] P8 ∧ ∀ (r13 : Int64) (I10 : TI) (L11 : TL) (A12 : TA), P8 r13 I10 L11 A12 → ∃ P14 : Int64 → TI → TL → TA → Prop, ConL K yX4_at wsX4_at 0 0 I10 L11 A12 [.ref o0, .int 4] P14 ∧ ∀ (r19 : Int64) (I16 : TI) (L17 : TL) (A18 : TA), P14 r19 I16 L17 A18 → ∃ P20 : Int64 → TI → TL → TA → Prop, ConL K yX4_at wsX4_at 0 0 I16 L17 A18 [.ref o0, .int 2] P20 ∧ ∀ (r25 : Int64) (I22 : TI) (L23 : TL) (A24 : TA), P20 r25 I22 L23 A24 → ∀ v26 : Int64, v26 = ((r7 * r13) - ((4 * r19) * (r25 - j1))) → ∃ P27 : Int64 → TI → TL → TA → Prop, ConL K yX4_at wsX4_at 0 0 I22 L23 A24 [.ref o0, .int 4] P27 ∧ ∀ (r32 : Int64) (I29 : TI) (L30 : TL) (A31 : TA), P27 r32 I29 L30 A31 → ∃ P33 : Int64 → TI → TL → TA → Prop, ConL K yX4_at wsX4_at 0 0 I29 L30 A31 [.ref o0, .int 0] P33 ∧ ∀ (r38 : Int64) (I35 : TI) (L36 : TL) (A37 : TA), P33 r38 I35 L36 A37 → ∀ v39 : Int64, v39 = ((j1 * j1) - ((4 * r32) * r38)) → ∃ P40 : Int32 → TI → TL → TA → Prop, ConI K yX1_isSquareProduct wsX1_isSquareProduct 2 70 I35 L36 A37 [.long v26, .long j3] P40 ∧ ∀ (r45 : Int32) (I42 : TI) (L43 : TL) (A44 : TA), P40 r45 I42 L43 A44 → ((r45 = 0 → Q 0 I42 L43 A44) ∧ (¬ r45 = 0 → ∃ P46 : Int32 → TI → TL → TA → Prop, ConI K yX1_isSquareProduct wsX1_isSquareProduct 2 70 I42 L43 A44 [.long v39, .long j3] P46 ∧ ∀ (r51 : Int32) (I48 : TI) (L49 : TL) (A50 : TA), P46 r51 I48 L49 A50 → ((r51 = 0 → Q 0 I48 L49 A50) ∧ (¬ r51 = 0 → Q 1 I48 L49 A50))))
set_option maxHeartbeats 1000000 in
set_option maxRecDepth 100000 in
theorem w_X1_isCycle (K : Cx) (I : TI) (L : TL) (A : TA) (o0 : Nat) (j1 : Int64) (j3 : Int64) (Q : Int32 → TI → TL → TA → Prop) (hwp : wp_X1_isCycle K I L A o0 j1 j3 Q) : ConI K yX1_isCycle wsX1_isCycle 3 95 I L A [.ref o0, .long j1, .long j3] Q := by
  intro hK sz
  refine Met.ofW (cc := cX1_isCycle) (maxL := 9) (ret := (some .boolean)) (by decide) rfl ?_
  intro p e s m args below meth c s₁ B hml hv
  obtain ⟨rfl, hsz, hB⟩ := hv
  have hx := B.exec
  have hb := B.bytes
  have hret := B.returns
  have hts := atoms_spec (ws := wsX1_isCycle) B.pre
  have hown : s.vm.findClass RX1 = some m.cls := findClass_of_methodNamed B.named
  have hlocks := B.notSynchronized
  subst hsz
  have hz : SS K s I L A s.heap [] := PS.start hB
  have hl := lv_entry ([.ref o0, .long j1, .long j3]) (n := 9) (Nat.le_of_ble_eq_true rfl)
  rw [lg_entry_eq]
  generalize (lg_sl ([.ref o0, .long j1, .long j3]) ++ List.replicate (9 - (lg_sl ([.ref o0, .long j1, .long j3])).length) Slot.unset).toArray = ls at hl ⊢
  have hl : lv_has ls 9 [(0, .ref o0), (1, .long j1), (3, .long j3)] := hl
  have hw0 := hts (.constantLong RX1 34 (4)) (by decide +kernel)
  clear hB B
  refine lv_aload_n hx hb dX1_isCycle_0 rfl (lv_at hl 0 rfl) ?_
  refine lv_iconst (v := 3) hx hb dX1_isCycle_1 (by decide) ?_
  obtain ⟨hs1, hwp⟩ := hwp
  obtain ⟨P2, hc3, hwp⟩ := hwp
  refine sw_calll hz (va_runV (As := [.int 3]) (rest := []) ⟨hx, hb, hml, hown, hts⟩ (hc3 hK _) (cwV 1 hts gX1_isCycle_X4_at rfl rfl rfl (by decide +kernel) ⟨Nat.le_of_ble_eq_true rfl, Nat.le_of_ble_eq_true rfl⟩) (hz.preV hK hs1 rfl) rfl rfl hl.1 rfl (lv_room (Nat.le_of_ble_eq_true rfl)) dX1_isCycle_2 ⟨Nat.le_of_ble_eq_true rfl, Nat.le_of_ble_eq_true rfl⟩) (fun r7 I4 L5 A6 H locs hp hz => ?_)
  have hwp := hwp r7 I4 L5 A6 hp
  refine lv_aload_n hx hb dX1_isCycle_5 rfl (lv_at hl 0 rfl) ?_
  refine lv_iconst (v := 3) hx hb dX1_isCycle_6 (by decide) ?_
  obtain ⟨P8, hc9, hwp⟩ := hwp
  refine sw_calll hz (va_runV (As := [.int 3]) (rest := [.long r7]) ⟨hx, hb, hml, hown, hts⟩ (hc9 hK _) (cwV 1 hts gX1_isCycle_X4_at rfl rfl rfl (by decide +kernel) ⟨Nat.le_of_ble_eq_true rfl, Nat.le_of_ble_eq_true rfl⟩) (hz.preV hK hs1 rfl) rfl rfl hl.1 rfl (lv_room (Nat.le_of_ble_eq_true rfl)) dX1_isCycle_7 ⟨Nat.le_of_ble_eq_true rfl, Nat.le_of_ble_eq_true rfl⟩) (fun r13 I10 L11 A12 H locs hp hz => ?_)
  have hwp := hwp r13 I10 L11 A12 hp
  refine lv_lmul hx hb dX1_isCycle_10 ?_
  refine lv_ldc2 hx hb hown hw0 dX1_isCycle_11 ?_
  refine lv_aload_n hx hb dX1_isCycle_14 rfl (lv_at hl 0 rfl) ?_
  refine lv_iconst (v := 4) hx hb dX1_isCycle_15 (by decide) ?_
  obtain ⟨P14, hc15, hwp⟩ := hwp
  refine sw_calll hz (va_runV (As := [.int 4]) (rest := [.long 4, .long (r7 * r13)]) ⟨hx, hb, hml, hown, hts⟩ (hc15 hK _) (cwV 1 hts gX1_isCycle_X4_at rfl rfl rfl (by decide +kernel) ⟨Nat.le_of_ble_eq_true rfl, Nat.le_of_ble_eq_true rfl⟩) (hz.preV hK hs1 rfl) rfl rfl hl.1 rfl (lv_room (Nat.le_of_ble_eq_true rfl)) dX1_isCycle_16 ⟨Nat.le_of_ble_eq_true rfl, Nat.le_of_ble_eq_true rfl⟩) (fun r19 I16 L17 A18 H locs hp hz => ?_)
  have hwp := hwp r19 I16 L17 A18 hp
  refine lv_lmul hx hb dX1_isCycle_19 ?_
  refine lv_aload_n hx hb dX1_isCycle_20 rfl (lv_at hl 0 rfl) ?_
  refine lv_iconst (v := 2) hx hb dX1_isCycle_21 (by decide) ?_
  obtain ⟨P20, hc21, hwp⟩ := hwp
  refine sw_calll hz (va_runV (As := [.int 2]) (rest := [.long (4 * r19), .long (r7 * r13)]) ⟨hx, hb, hml, hown, hts⟩ (hc21 hK _) (cwV 1 hts gX1_isCycle_X4_at rfl rfl rfl (by decide +kernel) ⟨Nat.le_of_ble_eq_true rfl, Nat.le_of_ble_eq_true rfl⟩) (hz.preV hK hs1 rfl) rfl rfl hl.1 rfl (lv_room (Nat.le_of_ble_eq_true rfl)) dX1_isCycle_22 ⟨Nat.le_of_ble_eq_true rfl, Nat.le_of_ble_eq_true rfl⟩) (fun r25 I22 L23 A24 H locs hp hz => ?_)
  have hwp := hwp r25 I22 L23 A24 hp
  refine lv_lload_n hx hb dX1_isCycle_25 rfl (lv_at hl 1 rfl) ?_
  refine lv_lsub hx hb dX1_isCycle_26 ?_
  refine lv_lmul hx hb dX1_isCycle_27 ?_
  refine lv_lsub hx hb dX1_isCycle_28 ?_
  refine lv_topl (fun v26 q_v26 => ?_)
  have hwp := hwp v26 q_v26
  refine lv_lstore (lv' := [(5, .long v26), (0, .ref o0), (1, .long j1), (3, .long j3)]) hx hb dX1_isCycle_29 hl (by decide) rfl (fun ls hl => ?_)
  refine lv_lload_n hx hb dX1_isCycle_31 rfl (lv_at hl 2 rfl) ?_
  refine lv_lload_n hx hb dX1_isCycle_32 rfl (lv_at hl 2 rfl) ?_
  refine lv_lmul hx hb dX1_isCycle_33 ?_
  refine lv_ldc2 hx hb hown hw0 dX1_isCycle_34 ?_
  refine lv_aload_n hx hb dX1_isCycle_37 rfl (lv_at hl 1 rfl) ?_
  refine lv_iconst (v := 4) hx hb dX1_isCycle_38 (by decide) ?_
  obtain ⟨P27, hc28, hwp⟩ := hwp
  refine sw_calll hz (va_runV (As := [.int 4]) (rest := [.long 4, .long (j1 * j1)]) ⟨hx, hb, hml, hown, hts⟩ (hc28 hK _) (cwV 1 hts gX1_isCycle_X4_at rfl rfl rfl (by decide +kernel) ⟨Nat.le_of_ble_eq_true rfl, Nat.le_of_ble_eq_true rfl⟩) (hz.preV hK hs1 rfl) rfl rfl hl.1 rfl (lv_room (Nat.le_of_ble_eq_true rfl)) dX1_isCycle_39 ⟨Nat.le_of_ble_eq_true rfl, Nat.le_of_ble_eq_true rfl⟩) (fun r32 I29 L30 A31 H locs hp hz => ?_)
  have hwp := hwp r32 I29 L30 A31 hp
  refine lv_lmul hx hb dX1_isCycle_42 ?_
  refine lv_aload_n hx hb dX1_isCycle_43 rfl (lv_at hl 1 rfl) ?_
  refine lv_iconst (v := 0) hx hb dX1_isCycle_44 (by decide) ?_
  obtain ⟨P33, hc34, hwp⟩ := hwp
  refine sw_calll hz (va_runV (As := [.int 0]) (rest := [.long (4 * r32), .long (j1 * j1)]) ⟨hx, hb, hml, hown, hts⟩ (hc34 hK _) (cwV 1 hts gX1_isCycle_X4_at rfl rfl rfl (by decide +kernel) ⟨Nat.le_of_ble_eq_true rfl, Nat.le_of_ble_eq_true rfl⟩) (hz.preV hK hs1 rfl) rfl rfl hl.1 rfl (lv_room (Nat.le_of_ble_eq_true rfl)) dX1_isCycle_45 ⟨Nat.le_of_ble_eq_true rfl, Nat.le_of_ble_eq_true rfl⟩) (fun r38 I35 L36 A37 H locs hp hz => ?_)
  have hwp := hwp r38 I35 L36 A37 hp
  refine lv_lmul hx hb dX1_isCycle_48 ?_
  refine lv_lsub hx hb dX1_isCycle_49 ?_
  refine lv_topl (fun v39 q_v39 => ?_)
  have hwp := hwp v39 q_v39
  refine lv_lstore (lv' := [(7, .long v39), (5, .long v26), (0, .ref o0), (1, .long j1), (3, .long j3)]) hx hb dX1_isCycle_50 hl (by decide) rfl (fun ls hl => ?_)
  refine lv_lload hx hb dX1_isCycle_52 (lv_at hl 1 rfl) ?_
  refine lv_lload_n hx hb dX1_isCycle_54 rfl (lv_at hl 4 rfl) ?_
  obtain ⟨P40, hc41, hwp⟩ := hwp
  refine sw_calli hz (va_runS (As := [.long v26, .long j3]) (rest := []) ⟨hx, hb, hml, hown, hts⟩ (hc41 hK _) (va_cwS 2 hts gX1_isCycle_X1_isSquareProduct rfl rfl rfl (by decide +kernel) ⟨Nat.le_of_ble_eq_true rfl, Nat.le_of_ble_eq_true rfl⟩) hz.preS rfl rfl hl.1 rfl (lv_room (Nat.le_of_ble_eq_true rfl)) dX1_isCycle_55 ⟨Nat.le_of_ble_eq_true rfl, Nat.le_of_ble_eq_true rfl⟩) (fun r45 I42 L43 A44 H locs hp hz => ?_)
  have hwp := hwp r45 I42 L43 A44 hp
  refine lv_if_eq (tgt := 74) hx hb dX1_isCycle_58 (by decide) (fun q => ?_) (fun q => ?_)
  · have hwp := hwp.1 q
    refine lv_iconst (v := 0) hx hb dX1_isCycle_74 (by decide) ?_
    exact sw_zret hx hb hret hlocks hz (Or.inl rfl) hwp dX1_isCycle_75
  · have hwp := hwp.2 q
    refine lv_lload hx hb dX1_isCycle_61 (lv_at hl 0 rfl) ?_
    refine lv_lload_n hx hb dX1_isCycle_63 rfl (lv_at hl 4 rfl) ?_
    obtain ⟨P46, hc47, hwp⟩ := hwp
    refine sw_calli hz (va_runS (As := [.long v39, .long j3]) (rest := []) ⟨hx, hb, hml, hown, hts⟩ (hc47 hK _) (va_cwS 2 hts gX1_isCycle_X1_isSquareProduct rfl rfl rfl (by decide +kernel) ⟨Nat.le_of_ble_eq_true rfl, Nat.le_of_ble_eq_true rfl⟩) hz.preS rfl rfl hl.1 rfl (lv_room (Nat.le_of_ble_eq_true rfl)) dX1_isCycle_64 ⟨Nat.le_of_ble_eq_true rfl, Nat.le_of_ble_eq_true rfl⟩) (fun r51 I48 L49 A50 H locs hp hz => ?_)
    have hwp := hwp r51 I48 L49 A50 hp
    refine lv_if_eq (tgt := 74) hx hb dX1_isCycle_67 (by decide) (fun q => ?_) (fun q => ?_)
    · have hwp := hwp.1 q
      refine lv_iconst (v := 0) hx hb dX1_isCycle_74 (by decide) ?_
      exact sw_zret hx hb hret hlocks hz (Or.inl rfl) hwp dX1_isCycle_75
    · have hwp := hwp.2 q
      refine lv_iconst (v := 1) hx hb dX1_isCycle_70 (by decide) ?_
      refine lv_goto (tgt := 75) hx hb dX1_isCycle_71 (by decide) ?_
      exact sw_zret hx hb hret hlocks hz (Or.inr rfl) hwp dX1_isCycle_75

def wp_X1_ofQuartic_105 (K : Cx) (o0 : Nat) (I : TI) (L : TL) (A : TA) (x3 : Int64) (x5 : Int64) (x7 : Int64) (x9 : Int64) (x11 : Int32) (x12 : Int64) (x14 : Int64) (Q : Int32 → TI → TL → TA → Prop) : Prop := ∃ (Inv : Nat → TI → TL → TA → Int64 → Int64 → Int64 → Int64 → Int32 → Int64 → Int64 → Prop) (μ : Nat), Inv μ I L A x3 x5 x7 x9 x11 x12 x14 ∧ ∀ (μ : Nat) (C105 : TI → TL → TA → Int64 → Int64 → Int64 → Int64 → Int32 → Int64 → Int64 → Prop), (∀ (μ' : Nat) (I : TI) (L : TL) (A : TA) (x3 : Int64) (x5 : Int64) (x7 : Int64) (x9 : Int64) (x11 : Int32) (x12 : Int64) (x14 : Int64) , μ' < μ → Inv μ' I L A x3 x5 x7 x9 x11 x12 x14 → C105 I L A x3 x5 x7 x9 x11 x12 x14) → ∀ (I : TI) (L : TL) (A : TA) (x3 : Int64) (x5 : Int64) (x7 : Int64) (x9 : Int64) (x11 : Int32) (x12 : Int64) (x14 : Int64) , Inv μ I L A x3 x5 x7 x9 x11 x12 x14 → ((1342 < x14 → ((x11 = 0 → ∃ P7 : Int32 → TI → TL → TA → Prop, ConI K yX1_isSquare wsX1_isSquare 0 0 I L A [.long x9] P7 ∧ ∀ (r12 : Int32) (I9 : TI) (L10 : TL) (A11 : TA), P7 r12 I9 L10 A11 → ((r12 = 0 → Q 9 I9 L10 A11) ∧ (¬ r12 = 0 → Q 8 I9 L10 A11))) ∧ (¬ x11 = 0 → ((x11 ≤ 1 → ∃ P1 : Int32 → TI → TL → TA → Prop, ConI K yX1_isCycle wsX1_isCycle 3 95 I L A [.ref o0, .long x12, .long x9] P1 ∧ ∀ (r6 : Int32) (I3 : TI) (L4 : TL) (A5 : TA), P1 r6 I3 L4 A5 → ((r6 = 0 → Q 7 I3 L4 A5) ∧ (¬ r6 = 0 → Q 6 I3 L4 A5))) ∧ (¬ x11 ≤ 1 → Q 5 I L A))))) ∧ (¬ 1342 < x14 → (((((((x14 + x3) * x14) + x5) * x14) + x7) = 0 → ∀ v14 : Int32, v14 = x11 + 1 → ∀ v15 : Int64, v15 = (x14 + 1) → C105 I L A x3 x5 x7 x9 v14 x14 v15) ∧ (¬ (((((x14 + x3) * x14) + x5) * x14) + x7) = 0 → ∀ v13 : Int64, v13 = (x14 + 1) → C105 I L A x3 x5 x7 x9 x11 x12 v13))))
def wp_X1_ofQuartic (K : Cx) (I : TI) (L : TL) (A : TA) (o0 : Nat) (Q : Int32 → TI → TL → TA → Prop) : Prop := cxS K o0 = shX4 o0 ∧ ∃ P17 : Int64 → TI → TL → TA → Prop, ConL K yX4_at wsX4_at 0 0 I L A [.ref o0, .int 4] P17 ∧ ∀ (r22 : Int64) (I19 : TI) (L20 : TL) (A21 : TA), P17 r22 I19 L20 A21 → ∃ P23 : Int64 → TI → TL → TA → Prop, ConL K yX4_at wsX4_at 0 0 I19 L20 A21 [.ref o0, .int 2] P23 ∧ ∀ (r28 : Int64) (I25 : TI) (L26 : TL) (A27 : TA), P23 r28 I25 L26 A27 → ∀ v29 : Int64, v29 = (-r28) → ∃ P30 : Int64 → TI → TL → TA → Prop, ConL K yX4_at wsX4_at 0 0 I25 L26 A27 [.ref o0, .int 3] P30 ∧ ∀ (r35 : Int64) (I32 : TI) (L33 : TL) (A34 : TA), P30 r35 I32 L33 A34 → ∃ P36 : Int64 → TI → TL → TA → Prop, ConL K yX4_at wsX4_at 0 0 I32 L33 A34 [.ref o0, .int 1] P36 ∧ ∀ (r41 : Int64) (I38 : TI) (L39 : TL) (A40 : TA), P36 r41 I38 L39 A40 → ∃ P42 : Int64 → TI → TL → TA → Prop, ConL K yX4_at wsX4_at 0 0 I38 L39 A40 [.ref o0, .int 0] P42 ∧ ∀ (r47 : Int64) (I44 : TI) (L45 : TL) (A46 : TA), P42 r47 I44 L45 A46 → ∀ v48 : Int64, v48 = ((r35 * r41) - ((4 * r22) * r47)) → ∃ P49 : Int64 → TI → TL → TA → Prop, ConL K yX4_at wsX4_at 0 0 I44 L45 A46 [.ref o0, .int 2] P49 ∧ ∀ (r54 : Int64) (I51 : TI) (L52 : TL) (A53 : TA), P49 r54 I51 L52 A53 → ∃ P55 : Int64 → TI → TL → TA → Prop, ConL K yX4_at wsX4_at 0 0 I51 L52 A53 [.ref o0, .int 3] P55 ∧ ∀ (r60 : Int64) (I57 : TI) (L58 : TL) (A59 : TA), P55 r60 I57 L58 A59 → ∃ P61 : Int64 → TI → TL → TA → Prop, ConL K yX4_at wsX4_at 0 0 I57 L58 A59 [.ref o0, .int 3] P61 ∧ ∀ (r66 : Int64) (I63 : TI) (L64 : TL) (A65 : TA), P61 r66 I63 L64 A65 → ∃ P67 : Int64 → TI → TL → TA → Prop, ConL K yX4_at wsX4_at 0 0 I63 L64 A65 [.ref o0, .int 0] P67 ∧ ∀ (r72 : Int64) (I69 : TI) (L70 : TL) (A71 : TA), P67 r72 I69 L70 A71 → ∃ P73 : Int64 → TI → TL → TA → Prop, ConL K yX4_at wsX4_at 0 0 I69 L70 A71 [.ref o0, .int 1] P73 ∧ ∀ (r78 : Int64) (I75 : TI) (L76 : TL) (A77 : TA), P73 r78 I75 L76 A77 → ∃ P79 : Int64 → TI → TL → TA → Prop, ConL K yX4_at wsX4_at 0 0 I75 L76 A77 [.ref o0, .int 1] P79 ∧ ∀ (r84 : Int64) (I81 : TI) (L82 : TL) (A83 : TA), P79 r84 I81 L82 A83 → ∀ v85 : Int64, v85 = (((((4 * r22) * r54) - (r60 * r66)) * r72) - ((r22 * r78) * r84)) → ∃ P86 : Int64 → TI → TL → TA → Prop, ConL K yX1_discriminantOf wsX1_discriminantOf 0 0 I81 L82 A83 [.long 1, .long v29, .long v48, .long v85] P86 ∧ ∀ (r91 : Int64) (I88 : TI) (L89 : TL) (A90 : TA), P86 r91 I88 L89 A90 → wp_X1_ofQuartic_105 K o0 I88 L89 A90 v29 v48 v85 r91 0 0 (-1342) Q
set_option maxHeartbeats 1000000 in
set_option maxRecDepth 100000 in
theorem w_X1_ofQuartic (K : Cx) (I : TI) (L : TL) (A : TA) (o0 : Nat) (Q : Int32 → TI → TL → TA → Prop) (hwp : wp_X1_ofQuartic K I L A o0 Q) : ConI K yX1_ofQuartic wsX1_ofQuartic 4 123 I L A [.ref o0] Q := by
  intro hK sz
  refine Met.ofW (cc := cX1_ofQuartic) (maxL := 16) (ret := (some .int)) (by decide) rfl ?_
  intro p e s m args below meth c s₁ B hml hv
  obtain ⟨rfl, hsz, hB⟩ := hv
  have hx := B.exec
  have hb := B.bytes
  have hret := B.returns
  have hts := atoms_spec (ws := wsX1_ofQuartic) B.pre
  have hown : s.vm.findClass RX1 = some m.cls := findClass_of_methodNamed B.named
  have hlocks := B.notSynchronized
  subst hsz
  have hz : SS K s I L A s.heap [] := PS.start hB
  have hl := lv_entry ([.ref o0]) (n := 16) (Nat.le_of_ble_eq_true rfl)
  rw [lg_entry_eq]
  generalize (lg_sl ([.ref o0]) ++ List.replicate (16 - (lg_sl ([.ref o0])).length) Slot.unset).toArray = ls at hl ⊢
  have hl : lv_has ls 16 [(0, .ref o0)] := hl
  have hw0 := hts (.constantLong RX1 38 (1342)) (by decide +kernel)
  have hw1 := hts (.constantLong RX1 34 (4)) (by decide +kernel)
  have hw2 := hts (.constantLong RX1 36 (-1342)) (by decide +kernel)
  clear hB B
  have wL105 : ∀ (I : TI) (L : TL) (A : TA) (x3 : Int64) (x5 : Int64) (x7 : Int64) (x9 : Int64) (x11 : Int32) (x12 : Int64) (x14 : Int64) (H : Heap) (locs : List Loc) (ls : Array Slot), wp_X1_ofQuartic_105 K o0 I L A x3 x5 x7 x9 x11 x12 x14 Q → SS K s I L A H locs → lv_has ls 16 [(0, .ref o0), (3, .long x3), (5, .long x5), (7, .long x7), (9, .long x9), (11, .int x11), (12, .long x12), (14, .long x14)] → W p (cxl K) e (headSpec wsX1_ofQuartic (rmF 4 123)).room s m ([.ref o0] : List Value).toArray below meth c H locs 0 0 (MQ below (cxQi K Q) ([.ref o0] : List Value).toArray s 0 0 (PA (cxb K))) (F0 m 105 ls []) := by
    intro I L A x3 x5 x7 x9 x11 x12 x14 H locs ls hwp hz hl
    obtain ⟨Inv, μ, hi, hst⟩ := hwp
    have key : ∀ (μ : Nat) (I : TI) (L : TL) (A : TA) (x3 : Int64) (x5 : Int64) (x7 : Int64) (x9 : Int64) (x11 : Int32) (x12 : Int64) (x14 : Int64) (H : Heap) (locs : List Loc) (ls : Array Slot), Inv μ I L A x3 x5 x7 x9 x11 x12 x14 → SS K s I L A H locs → lv_has ls 16 [(0, .ref o0), (3, .long x3), (5, .long x5), (7, .long x7), (9, .long x9), (11, .int x11), (12, .long x12), (14, .long x14)] → W p (cxl K) e (headSpec wsX1_ofQuartic (rmF 4 123)).room s m ([.ref o0] : List Value).toArray below meth c H locs 0 0 (MQ below (cxQi K Q) ([.ref o0] : List Value).toArray s 0 0 (PA (cxb K))) (F0 m 105 ls []) := by
      clear hi hz hl
      intro μ
      induction μ using Nat.strongRecOn with | ind μ ih => ?_
      intro I L A x3 x5 x7 x9 x11 x12 x14 H locs ls hi hz hl
      obtain ⟨C105, hCd⟩ : ∃ C : TI → TL → TA → Int64 → Int64 → Int64 → Int64 → Int32 → Int64 → Int64 → Prop, C = fun I L A x3 x5 x7 x9 x11 x12 x14 => ∃ μ', μ' < μ ∧ Inv μ' I L A x3 x5 x7 x9 x11 x12 x14 := ⟨_, rfl⟩
      have hC105 : ∀ (I : TI) (L : TL) (A : TA) (x3 : Int64) (x5 : Int64) (x7 : Int64) (x9 : Int64) (x11 : Int32) (x12 : Int64) (x14 : Int64) (H : Heap) (locs : List Loc) (ls : Array Slot), C105 I L A x3 x5 x7 x9 x11 x12 x14 → SS K s I L A H locs → lv_has ls 16 [(0, .ref o0), (3, .long x3), (5, .long x5), (7, .long x7), (9, .long x9), (11, .int x11), (12, .long x12), (14, .long x14)] → W p (cxl K) e (headSpec wsX1_ofQuartic (rmF 4 123)).room s m ([.ref o0] : List Value).toArray below meth c H locs 0 0 (MQ below (cxQi K Q) ([.ref o0] : List Value).toArray s 0 0 (PA (cxb K))) (F0 m 105 ls []) := by
        intro I L A x3 x5 x7 x9 x11 x12 x14 H locs ls hc hz hl
        rw [hCd] at hc
        obtain ⟨μ', hlt, hc⟩ := hc
        exact ih μ' hlt I L A x3 x5 x7 x9 x11 x12 x14 H locs ls hc hz hl
      have hwp := hst μ C105 (fun μ' I L A x3 x5 x7 x9 x11 x12 x14 hlt hc => by rw [hCd]; exact ⟨μ', hlt, hc⟩) I L A x3 x5 x7 x9 x11 x12 x14 hi
      refine lv_lload hx hb dX1_ofQuartic_105 (lv_at hl 7 rfl) ?_
      refine lv_ldc2 hx hb hown hw0 dX1_ofQuartic_107 ?_
      refine W.lcmp hx hb dX1_ofQuartic_110 ?_
      refine W.eq (g2 := F0 m 111 ls [.int (lg_cmp x14 1342)]) rfl ?_
      refine lv_if_gt (tgt := 151) hx hb dX1_ofQuartic_111 (by decide) (fun q => ?_) (fun q => ?_)
      · have hwp := hwp.1 ((lg_cmp_gt _ _).mp q)
        refine lv_iload hx hb dX1_ofQuartic_151 (lv_at hl 5 rfl) ?_
        refine lv_if_ne (tgt := 172) hx hb dX1_ofQuartic_153 (by decide) (fun q => ?_) (fun q => ?_)
        · have hwp := hwp.2 q
          refine lv_iload hx hb dX1_ofQuartic_172 (lv_at hl 5 rfl) ?_
          refine lv_iconst (v := 1) hx hb dX1_ofQuartic_174 (by decide) ?_
          refine lv_icmp_le (tgt := 180) hx hb dX1_ofQuartic_175 (by decide) (fun q => ?_) (fun q => ?_)
          · have hwp := hwp.1 q
            refine lv_aload_n hx hb dX1_ofQuartic_180 rfl (lv_at hl 0 rfl) ?_
            refine lv_lload hx hb dX1_ofQuartic_181 (lv_at hl 6 rfl) ?_
            refine lv_lload hx hb dX1_ofQuartic_183 (lv_at hl 4 rfl) ?_
            obtain ⟨P1, hc2, hwp⟩ := hwp
            refine sw_calli hz (va_runS (As := [.ref o0, .long x12, .long x9]) (rest := []) ⟨hx, hb, hml, hown, hts⟩ (hc2 hK _) (va_cwS 3 hts gX1_ofQuartic_X1_isCycle rfl rfl rfl (by decide +kernel) ⟨Nat.le_of_ble_eq_true rfl, Nat.le_of_ble_eq_true rfl⟩) hz.preS rfl rfl hl.1 rfl (lv_room (Nat.le_of_ble_eq_true rfl)) dX1_ofQuartic_185 ⟨Nat.le_of_ble_eq_true rfl, Nat.le_of_ble_eq_true rfl⟩) (fun r6 I3 L4 A5 H locs hp hz => ?_)
            have hwp := hwp r6 I3 L4 A5 hp
            refine lv_if_eq (tgt := 196) hx hb dX1_ofQuartic_188 (by decide) (fun q => ?_) (fun q => ?_)
            · have hwp := hwp.1 q
              refine lv_bipush (v := 7) hx hb dX1_ofQuartic_196 (by decide) ?_
              exact sw_iret hx hb hret hlocks hz hwp dX1_ofQuartic_198
            · have hwp := hwp.2 q
              refine lv_bipush (v := 6) hx hb dX1_ofQuartic_191 (by decide) ?_
              refine lv_goto (tgt := 198) hx hb dX1_ofQuartic_193 (by decide) ?_
              exact sw_iret hx hb hret hlocks hz hwp dX1_ofQuartic_198
          · have hwp := hwp.2 q
            refine lv_iconst (v := 5) hx hb dX1_ofQuartic_178 (by decide) ?_
            exact sw_iret hx hb hret hlocks hz hwp dX1_ofQuartic_179
        · have hwp := hwp.1 q
          refine lv_lload hx hb dX1_ofQuartic_156 (lv_at hl 4 rfl) ?_
          obtain ⟨P7, hc8, hwp⟩ := hwp
          refine sw_calli hz (va_runS (As := [.long x9]) (rest := []) ⟨hx, hb, hml, hown, hts⟩ (hc8 hK _) (va_cwS 1 hts gX1_ofQuartic_X1_isSquare rfl rfl rfl (by decide +kernel) ⟨Nat.le_of_ble_eq_true rfl, Nat.le_of_ble_eq_true rfl⟩) hz.preS rfl rfl hl.1 rfl (lv_room (Nat.le_of_ble_eq_true rfl)) dX1_ofQuartic_158 ⟨Nat.le_of_ble_eq_true rfl, Nat.le_of_ble_eq_true rfl⟩) (fun r12 I9 L10 A11 H locs hp hz => ?_)
          have hwp := hwp r12 I9 L10 A11 hp
          refine lv_if_eq (tgt := 169) hx hb dX1_ofQuartic_161 (by decide) (fun q => ?_) (fun q => ?_)
          · have hwp := hwp.1 q
            refine lv_bipush (v := 9) hx hb dX1_ofQuartic_169 (by decide) ?_
            exact sw_iret hx hb hret hlocks hz hwp dX1_ofQuartic_171
          · have hwp := hwp.2 q
            refine lv_bipush (v := 8) hx hb dX1_ofQuartic_164 (by decide) ?_
            refine lv_goto (tgt := 171) hx hb dX1_ofQuartic_166 (by decide) ?_
            exact sw_iret hx hb hret hlocks hz hwp dX1_ofQuartic_171
      · have hwp := hwp.2 (fun h => q ((lg_cmp_gt _ _).mpr h))
        refine lv_lload hx hb dX1_ofQuartic_114 (lv_at hl 7 rfl) ?_
        refine lv_lload_n hx hb dX1_ofQuartic_116 rfl (lv_at hl 1 rfl) ?_
        refine lv_ladd hx hb dX1_ofQuartic_117 ?_
        refine lv_lload hx hb dX1_ofQuartic_118 (lv_at hl 7 rfl) ?_
        refine lv_lmul hx hb dX1_ofQuartic_120 ?_
        refine lv_lload hx hb dX1_ofQuartic_121 (lv_at hl 2 rfl) ?_
        refine lv_ladd hx hb dX1_ofQuartic_123 ?_
        refine lv_lload hx hb dX1_ofQuartic_124 (lv_at hl 7 rfl) ?_
        refine lv_lmul hx hb dX1_ofQuartic_126 ?_
        refine lv_lload hx hb dX1_ofQuartic_127 (lv_at hl 3 rfl) ?_
        refine lv_ladd hx hb dX1_ofQuartic_129 ?_
        refine lv_lconst (v := 0) hx hb dX1_ofQuartic_130 (by decide) ?_
        refine W.lcmp hx hb dX1_ofQuartic_131 ?_
        refine W.eq (g2 := F0 m 132 ls [.int (lg_cmp (((((x14 + x3) * x14) + x5) * x14) + x7) 0)]) rfl ?_
        refine lv_if_ne (tgt := 142) hx hb dX1_ofQuartic_132 (by decide) (fun q => ?_) (fun q => ?_)
        · have hwp := hwp.2 (fun h => q ((lg_cmp_eq _ _).mpr h))
          refine lv_lload hx hb dX1_ofQuartic_142 (lv_at hl 7 rfl) ?_
          refine lv_lconst (v := 1) hx hb dX1_ofQuartic_144 (by decide) ?_
          refine lv_ladd hx hb dX1_ofQuartic_145 ?_
          refine lv_topl (fun v13 q_v13 => ?_)
          have hwp := hwp v13 q_v13
          refine lv_lstore (lv' := [(14, .long v13), (0, .ref o0), (3, .long x3), (5, .long x5), (7, .long x7), (9, .long x9), (11, .int x11), (12, .long x12)]) hx hb dX1_ofQuartic_146 hl (by decide) rfl (fun ls hl => ?_)
          refine lv_goto (tgt := 105) hx hb dX1_ofQuartic_148 (by decide) ?_
          exact hC105 _ _ _ _ _ _ _ _ _ _ _ _ _ hwp hz (lv_sub hl [1, 2, 3, 4, 5, 6, 7, 0] rfl)
        · have hwp := hwp.1 ((lg_cmp_eq _ _).mp q)
          obtain ⟨v14, q_v14⟩ : ∃ y : Int32, y = x11 + 1 := ⟨_, rfl⟩
          have hwp := hwp v14 q_v14
          refine lv_iinc (v := v14) (lv' := [(11, .int v14), (0, .ref o0), (3, .long x3), (5, .long x5), (7, .long x7), (9, .long x9), (12, .long x12), (14, .long x14)]) hx hb dX1_ofQuartic_135 hl (k := 5) rfl (by rw [q_v14]; rfl) (by decide) rfl (fun ls hl => ?_)
          refine lv_lload hx hb dX1_ofQuartic_138 (lv_at hl 7 rfl) ?_
          refine lv_lstore (lv' := [(12, .long x14), (11, .int v14), (0, .ref o0), (3, .long x3), (5, .long x5), (7, .long x7), (9, .long x9), (14, .long x14)]) hx hb dX1_ofQuartic_140 hl (by decide) rfl (fun ls hl => ?_)
          refine lv_lload hx hb dX1_ofQuartic_142 (lv_at hl 7 rfl) ?_
          refine lv_lconst (v := 1) hx hb dX1_ofQuartic_144 (by decide) ?_
          refine lv_ladd hx hb dX1_ofQuartic_145 ?_
          refine lv_topl (fun v15 q_v15 => ?_)
          have hwp := hwp v15 q_v15
          refine lv_lstore (lv' := [(14, .long v15), (12, .long x14), (11, .int v14), (0, .ref o0), (3, .long x3), (5, .long x5), (7, .long x7), (9, .long x9)]) hx hb dX1_ofQuartic_146 hl (by decide) rfl (fun ls hl => ?_)
          refine lv_goto (tgt := 105) hx hb dX1_ofQuartic_148 (by decide) ?_
          exact hC105 _ _ _ _ _ _ _ _ _ _ _ _ _ hwp hz (lv_sub hl [3, 4, 5, 6, 7, 2, 1, 0] rfl)
    exact key μ I L A x3 x5 x7 x9 x11 x12 x14 H locs ls hi hz hl
  refine lv_aload_n hx hb dX1_ofQuartic_0 rfl (lv_at hl 0 rfl) ?_
  refine lv_iconst (v := 4) hx hb dX1_ofQuartic_1 (by decide) ?_
  obtain ⟨hs16, hwp⟩ := hwp
  obtain ⟨P17, hc18, hwp⟩ := hwp
  refine sw_calll hz (va_runV (As := [.int 4]) (rest := []) ⟨hx, hb, hml, hown, hts⟩ (hc18 hK _) (cwV 1 hts gX1_ofQuartic_X4_at rfl rfl rfl (by decide +kernel) ⟨Nat.le_of_ble_eq_true rfl, Nat.le_of_ble_eq_true rfl⟩) (hz.preV hK hs16 rfl) rfl rfl hl.1 rfl (lv_room (Nat.le_of_ble_eq_true rfl)) dX1_ofQuartic_2 ⟨Nat.le_of_ble_eq_true rfl, Nat.le_of_ble_eq_true rfl⟩) (fun r22 I19 L20 A21 H locs hp hz => ?_)
  have hwp := hwp r22 I19 L20 A21 hp
  refine lv_lstore_n (lv' := [(1, .long r22), (0, .ref o0)]) hx hb dX1_ofQuartic_5 rfl hl (by decide) rfl (fun ls hl => ?_)
  refine lv_aload_n hx hb dX1_ofQuartic_6 rfl (lv_at hl 1 rfl) ?_
  refine lv_iconst (v := 2) hx hb dX1_ofQuartic_7 (by decide) ?_
  obtain ⟨P23, hc24, hwp⟩ := hwp
  refine sw_calll hz (va_runV (As := [.int 2]) (rest := []) ⟨hx, hb, hml, hown, hts⟩ (hc24 hK _) (cwV 1 hts gX1_ofQuartic_X4_at rfl rfl rfl (by decide +kernel) ⟨Nat.le_of_ble_eq_true rfl, Nat.le_of_ble_eq_true rfl⟩) (hz.preV hK hs16 rfl) rfl rfl hl.1 rfl (lv_room (Nat.le_of_ble_eq_true rfl)) dX1_ofQuartic_8 ⟨Nat.le_of_ble_eq_true rfl, Nat.le_of_ble_eq_true rfl⟩) (fun r28 I25 L26 A27 H locs hp hz => ?_)
  have hwp := hwp r28 I25 L26 A27 hp
  refine lv_lneg hx hb dX1_ofQuartic_11 ?_
  refine lv_topl (fun v29 q_v29 => ?_)
  have hwp := hwp v29 q_v29
  refine lv_lstore_n (lv' := [(3, .long v29), (1, .long r22), (0, .ref o0)]) hx hb dX1_ofQuartic_12 rfl hl (by decide) rfl (fun ls hl => ?_)
  refine lv_aload_n hx hb dX1_ofQuartic_13 rfl (lv_at hl 2 rfl) ?_
  refine lv_iconst (v := 3) hx hb dX1_ofQuartic_14 (by decide) ?_
  obtain ⟨P30, hc31, hwp⟩ := hwp
  refine sw_calll hz (va_runV (As := [.int 3]) (rest := []) ⟨hx, hb, hml, hown, hts⟩ (hc31 hK _) (cwV 1 hts gX1_ofQuartic_X4_at rfl rfl rfl (by decide +kernel) ⟨Nat.le_of_ble_eq_true rfl, Nat.le_of_ble_eq_true rfl⟩) (hz.preV hK hs16 rfl) rfl rfl hl.1 rfl (lv_room (Nat.le_of_ble_eq_true rfl)) dX1_ofQuartic_15 ⟨Nat.le_of_ble_eq_true rfl, Nat.le_of_ble_eq_true rfl⟩) (fun r35 I32 L33 A34 H locs hp hz => ?_)
  have hwp := hwp r35 I32 L33 A34 hp
  refine lv_aload_n hx hb dX1_ofQuartic_18 rfl (lv_at hl 2 rfl) ?_
  refine lv_iconst (v := 1) hx hb dX1_ofQuartic_19 (by decide) ?_
  obtain ⟨P36, hc37, hwp⟩ := hwp
  refine sw_calll hz (va_runV (As := [.int 1]) (rest := [.long r35]) ⟨hx, hb, hml, hown, hts⟩ (hc37 hK _) (cwV 1 hts gX1_ofQuartic_X4_at rfl rfl rfl (by decide +kernel) ⟨Nat.le_of_ble_eq_true rfl, Nat.le_of_ble_eq_true rfl⟩) (hz.preV hK hs16 rfl) rfl rfl hl.1 rfl (lv_room (Nat.le_of_ble_eq_true rfl)) dX1_ofQuartic_20 ⟨Nat.le_of_ble_eq_true rfl, Nat.le_of_ble_eq_true rfl⟩) (fun r41 I38 L39 A40 H locs hp hz => ?_)
  have hwp := hwp r41 I38 L39 A40 hp
  refine lv_lmul hx hb dX1_ofQuartic_23 ?_
  refine lv_ldc2 hx hb hown hw1 dX1_ofQuartic_24 ?_
  refine lv_lload_n hx hb dX1_ofQuartic_27 rfl (lv_at hl 1 rfl) ?_
  refine lv_lmul hx hb dX1_ofQuartic_28 ?_
  refine lv_aload_n hx hb dX1_ofQuartic_29 rfl (lv_at hl 2 rfl) ?_
  refine lv_iconst (v := 0) hx hb dX1_ofQuartic_30 (by decide) ?_
  obtain ⟨P42, hc43, hwp⟩ := hwp
  refine sw_calll hz (va_runV (As := [.int 0]) (rest := [.long (4 * r22), .long (r35 * r41)]) ⟨hx, hb, hml, hown, hts⟩ (hc43 hK _) (cwV 1 hts gX1_ofQuartic_X4_at rfl rfl rfl (by decide +kernel) ⟨Nat.le_of_ble_eq_true rfl, Nat.le_of_ble_eq_true rfl⟩) (hz.preV hK hs16 rfl) rfl rfl hl.1 rfl (lv_room (Nat.le_of_ble_eq_true rfl)) dX1_ofQuartic_31 ⟨Nat.le_of_ble_eq_true rfl, Nat.le_of_ble_eq_true rfl⟩) (fun r47 I44 L45 A46 H locs hp hz => ?_)
  have hwp := hwp r47 I44 L45 A46 hp
  refine lv_lmul hx hb dX1_ofQuartic_34 ?_
  refine lv_lsub hx hb dX1_ofQuartic_35 ?_
  refine lv_topl (fun v48 q_v48 => ?_)
  have hwp := hwp v48 q_v48
  refine lv_lstore (lv' := [(5, .long v48), (3, .long v29), (1, .long r22), (0, .ref o0)]) hx hb dX1_ofQuartic_36 hl (by decide) rfl (fun ls hl => ?_)
  refine lv_ldc2 hx hb hown hw1 dX1_ofQuartic_38 ?_
  refine lv_lload_n hx hb dX1_ofQuartic_41 rfl (lv_at hl 2 rfl) ?_
  refine lv_lmul hx hb dX1_ofQuartic_42 ?_
  refine lv_aload_n hx hb dX1_ofQuartic_43 rfl (lv_at hl 3 rfl) ?_
  refine lv_iconst (v := 2) hx hb dX1_ofQuartic_44 (by decide) ?_
  obtain ⟨P49, hc50, hwp⟩ := hwp
  refine sw_calll hz (va_runV (As := [.int 2]) (rest := [.long (4 * r22)]) ⟨hx, hb, hml, hown, hts⟩ (hc50 hK _) (cwV 1 hts gX1_ofQuartic_X4_at rfl rfl rfl (by decide +kernel) ⟨Nat.le_of_ble_eq_true rfl, Nat.le_of_ble_eq_true rfl⟩) (hz.preV hK hs16 rfl) rfl rfl hl.1 rfl (lv_room (Nat.le_of_ble_eq_true rfl)) dX1_ofQuartic_45 ⟨Nat.le_of_ble_eq_true rfl, Nat.le_of_ble_eq_true rfl⟩) (fun r54 I51 L52 A53 H locs hp hz => ?_)
  have hwp := hwp r54 I51 L52 A53 hp
  refine lv_lmul hx hb dX1_ofQuartic_48 ?_
  refine lv_aload_n hx hb dX1_ofQuartic_49 rfl (lv_at hl 3 rfl) ?_
  refine lv_iconst (v := 3) hx hb dX1_ofQuartic_50 (by decide) ?_
  obtain ⟨P55, hc56, hwp⟩ := hwp
  refine sw_calll hz (va_runV (As := [.int 3]) (rest := [.long ((4 * r22) * r54)]) ⟨hx, hb, hml, hown, hts⟩ (hc56 hK _) (cwV 1 hts gX1_ofQuartic_X4_at rfl rfl rfl (by decide +kernel) ⟨Nat.le_of_ble_eq_true rfl, Nat.le_of_ble_eq_true rfl⟩) (hz.preV hK hs16 rfl) rfl rfl hl.1 rfl (lv_room (Nat.le_of_ble_eq_true rfl)) dX1_ofQuartic_51 ⟨Nat.le_of_ble_eq_true rfl, Nat.le_of_ble_eq_true rfl⟩) (fun r60 I57 L58 A59 H locs hp hz => ?_)
  have hwp := hwp r60 I57 L58 A59 hp
  refine lv_aload_n hx hb dX1_ofQuartic_54 rfl (lv_at hl 3 rfl) ?_
  refine lv_iconst (v := 3) hx hb dX1_ofQuartic_55 (by decide) ?_
  obtain ⟨P61, hc62, hwp⟩ := hwp
  refine sw_calll hz (va_runV (As := [.int 3]) (rest := [.long r60, .long ((4 * r22) * r54)]) ⟨hx, hb, hml, hown, hts⟩ (hc62 hK _) (cwV 1 hts gX1_ofQuartic_X4_at rfl rfl rfl (by decide +kernel) ⟨Nat.le_of_ble_eq_true rfl, Nat.le_of_ble_eq_true rfl⟩) (hz.preV hK hs16 rfl) rfl rfl hl.1 rfl (lv_room (Nat.le_of_ble_eq_true rfl)) dX1_ofQuartic_56 ⟨Nat.le_of_ble_eq_true rfl, Nat.le_of_ble_eq_true rfl⟩) (fun r66 I63 L64 A65 H locs hp hz => ?_)
  have hwp := hwp r66 I63 L64 A65 hp
  refine lv_lmul hx hb dX1_ofQuartic_59 ?_
  refine lv_lsub hx hb dX1_ofQuartic_60 ?_
  refine lv_aload_n hx hb dX1_ofQuartic_61 rfl (lv_at hl 3 rfl) ?_
  refine lv_iconst (v := 0) hx hb dX1_ofQuartic_62 (by decide) ?_
  obtain ⟨P67, hc68, hwp⟩ := hwp
  refine sw_calll hz (va_runV (As := [.int 0]) (rest := [.long (((4 * r22) * r54) - (r60 * r66))]) ⟨hx, hb, hml, hown, hts⟩ (hc68 hK _) (cwV 1 hts gX1_ofQuartic_X4_at rfl rfl rfl (by decide +kernel) ⟨Nat.le_of_ble_eq_true rfl, Nat.le_of_ble_eq_true rfl⟩) (hz.preV hK hs16 rfl) rfl rfl hl.1 rfl (lv_room (Nat.le_of_ble_eq_true rfl)) dX1_ofQuartic_63 ⟨Nat.le_of_ble_eq_true rfl, Nat.le_of_ble_eq_true rfl⟩) (fun r72 I69 L70 A71 H locs hp hz => ?_)
  have hwp := hwp r72 I69 L70 A71 hp
  refine lv_lmul hx hb dX1_ofQuartic_66 ?_
  refine lv_lload_n hx hb dX1_ofQuartic_67 rfl (lv_at hl 2 rfl) ?_
  refine lv_aload_n hx hb dX1_ofQuartic_68 rfl (lv_at hl 3 rfl) ?_
  refine lv_iconst (v := 1) hx hb dX1_ofQuartic_69 (by decide) ?_
  obtain ⟨P73, hc74, hwp⟩ := hwp
  refine sw_calll hz (va_runV (As := [.int 1]) (rest := [.long r22, .long ((((4 * r22) * r54) - (r60 * r66)) * r72)]) ⟨hx, hb, hml, hown, hts⟩ (hc74 hK _) (cwV 1 hts gX1_ofQuartic_X4_at rfl rfl rfl (by decide +kernel) ⟨Nat.le_of_ble_eq_true rfl, Nat.le_of_ble_eq_true rfl⟩) (hz.preV hK hs16 rfl) rfl rfl hl.1 rfl (lv_room (Nat.le_of_ble_eq_true rfl)) dX1_ofQuartic_70 ⟨Nat.le_of_ble_eq_true rfl, Nat.le_of_ble_eq_true rfl⟩) (fun r78 I75 L76 A77 H locs hp hz => ?_)
  have hwp := hwp r78 I75 L76 A77 hp
  refine lv_lmul hx hb dX1_ofQuartic_73 ?_
  refine lv_aload_n hx hb dX1_ofQuartic_74 rfl (lv_at hl 3 rfl) ?_
  refine lv_iconst (v := 1) hx hb dX1_ofQuartic_75 (by decide) ?_
  obtain ⟨P79, hc80, hwp⟩ := hwp
  refine sw_calll hz (va_runV (As := [.int 1]) (rest := [.long (r22 * r78), .long ((((4 * r22) * r54) - (r60 * r66)) * r72)]) ⟨hx, hb, hml, hown, hts⟩ (hc80 hK _) (cwV 1 hts gX1_ofQuartic_X4_at rfl rfl rfl (by decide +kernel) ⟨Nat.le_of_ble_eq_true rfl, Nat.le_of_ble_eq_true rfl⟩) (hz.preV hK hs16 rfl) rfl rfl hl.1 rfl (lv_room (Nat.le_of_ble_eq_true rfl)) dX1_ofQuartic_76 ⟨Nat.le_of_ble_eq_true rfl, Nat.le_of_ble_eq_true rfl⟩) (fun r84 I81 L82 A83 H locs hp hz => ?_)
  have hwp := hwp r84 I81 L82 A83 hp
  refine lv_lmul hx hb dX1_ofQuartic_79 ?_
  refine lv_lsub hx hb dX1_ofQuartic_80 ?_
  refine lv_topl (fun v85 q_v85 => ?_)
  have hwp := hwp v85 q_v85
  refine lv_lstore (lv' := [(7, .long v85), (5, .long v48), (3, .long v29), (1, .long r22), (0, .ref o0)]) hx hb dX1_ofQuartic_81 hl (by decide) rfl (fun ls hl => ?_)
  refine lv_lconst (v := 1) hx hb dX1_ofQuartic_83 (by decide) ?_
  refine lv_lload_n hx hb dX1_ofQuartic_84 rfl (lv_at hl 2 rfl) ?_
  refine lv_lload hx hb dX1_ofQuartic_85 (lv_at hl 1 rfl) ?_
  refine lv_lload hx hb dX1_ofQuartic_87 (lv_at hl 0 rfl) ?_
  obtain ⟨P86, hc87, hwp⟩ := hwp
  refine sw_calll hz (va_runS (As := [.long 1, .long v29, .long v48, .long v85]) (rest := []) ⟨hx, hb, hml, hown, hts⟩ (hc87 hK _) (va_cwS 4 hts gX1_ofQuartic_X1_discriminantOf rfl rfl rfl (by decide +kernel) ⟨Nat.le_of_ble_eq_true rfl, Nat.le_of_ble_eq_true rfl⟩) hz.preS rfl rfl hl.1 rfl (lv_room (Nat.le_of_ble_eq_true rfl)) dX1_ofQuartic_89 ⟨Nat.le_of_ble_eq_true rfl, Nat.le_of_ble_eq_true rfl⟩) (fun r91 I88 L89 A90 H locs hp hz => ?_)
  have hwp := hwp r91 I88 L89 A90 hp
  refine lv_lstore (lv' := [(9, .long r91), (7, .long v85), (5, .long v48), (3, .long v29), (1, .long r22), (0, .ref o0)]) hx hb dX1_ofQuartic_92 hl (by decide) rfl (fun ls hl => ?_)
  refine lv_iconst (v := 0) hx hb dX1_ofQuartic_94 (by decide) ?_
  refine lv_istore (lv' := [(11, .int 0), (9, .long r91), (7, .long v85), (5, .long v48), (3, .long v29), (1, .long r22), (0, .ref o0)]) hx hb dX1_ofQuartic_95 hl (by decide) rfl (fun ls hl => ?_)
  refine lv_lconst (v := 0) hx hb dX1_ofQuartic_97 (by decide) ?_
  refine lv_lstore (lv' := [(12, .long 0), (11, .int 0), (9, .long r91), (7, .long v85), (5, .long v48), (3, .long v29), (1, .long r22), (0, .ref o0)]) hx hb dX1_ofQuartic_98 hl (by decide) rfl (fun ls hl => ?_)
  refine lv_ldc2 hx hb hown hw2 dX1_ofQuartic_100 ?_
  refine lv_lstore (lv' := [(14, .long (-1342)), (12, .long 0), (11, .int 0), (9, .long r91), (7, .long v85), (5, .long v48), (3, .long v29), (1, .long r22), (0, .ref o0)]) hx hb dX1_ofQuartic_103 hl (by decide) rfl (fun ls hl => ?_)
  exact wL105 _ _ _ _ _ _ _ _ _ _ _ _ _ hwp hz (lv_sub hl [8, 6, 5, 4, 3, 2, 1, 0] rfl)

def wp_X1_ofCubic (K : Cx) (I : TI) (L : TL) (A : TA) (o0 : Nat) (Q : Int32 → TI → TL → TA → Prop) : Prop := cxS K o0 = shX4 o0 ∧ ∃ P2 : Int64 → TI → TL → TA → Prop, ConL K yX4_at wsX4_at 0 0 I L A [.ref o0, .int 3] P2 ∧ ∀ (r7 : Int64) (I4 : TI) (L5 : TL) (A6 : TA), P2 r7 I4 L5 A6 → ∃ P8 : Int64 → TI → TL → TA → Prop, ConL K yX4_at wsX4_at 0 0 I4 L5 A6 [.ref o0, .int 2] P8 ∧ ∀ (r13 : Int64) (I10 : TI) (L11 : TL) (A12 : TA), P8 r13 I10 L11 A12 → ∃ P14 : Int64 → TI → TL → TA → Prop, ConL K yX4_at wsX4_at 0 0 I10 L11 A12 [.ref o0, .int 1] P14 ∧ ∀ (r19 : Int64) (I16 : TI) (L17 : TL) (A18 : TA), P14 r19 I16 L17 A18 → ∃ P20 : Int64 → TI → TL → TA → Prop, ConL K yX4_at wsX4_at 0 0 I16 L17 A18 [.ref o0, .int 0] P20 ∧ ∀ (r25 : Int64) (I22 : TI) (L23 : TL) (A24 : TA), P20 r25 I22 L23 A24 → ∃ P26 : Int64 → TI → TL → TA → Prop, ConL K yX1_discriminantOf wsX1_discriminantOf 0 0 I22 L23 A24 [.long r7, .long r13, .long r19, .long r25] P26 ∧ ∀ (r31 : Int64) (I28 : TI) (L29 : TL) (A30 : TA), P26 r31 I28 L29 A30 → ∃ P32 : Int32 → TI → TL → TA → Prop, ConI K yX1_isSquare wsX1_isSquare 0 0 I28 L29 A30 [.long r31] P32 ∧ ∀ (r37 : Int32) (I34 : TI) (L35 : TL) (A36 : TA), P32 r37 I34 L35 A36 → ((r37 = 0 → Q 4 I34 L35 A36) ∧ (¬ r37 = 0 → Q 3 I34 L35 A36))
set_option maxHeartbeats 1000000 in
set_option maxRecDepth 100000 in
theorem w_X1_ofCubic (K : Cx) (I : TI) (L : TL) (A : TA) (o0 : Nat) (Q : Int32 → TI → TL → TA → Prop) (hwp : wp_X1_ofCubic K I L A o0 Q) : ConI K yX1_ofCubic wsX1_ofCubic 1 27 I L A [.ref o0] Q := by
  intro hK sz
  refine Met.ofW (cc := cX1_ofCubic) (maxL := 1) (ret := (some .int)) (by decide) rfl ?_
  intro p e s m args below meth c s₁ B hml hv
  obtain ⟨rfl, hsz, hB⟩ := hv
  have hx := B.exec
  have hb := B.bytes
  have hret := B.returns
  have hts := atoms_spec (ws := wsX1_ofCubic) B.pre
  have hown : s.vm.findClass RX1 = some m.cls := findClass_of_methodNamed B.named
  have hlocks := B.notSynchronized
  subst hsz
  have hz : SS K s I L A s.heap [] := PS.start hB
  have hl := lv_entry ([.ref o0]) (n := 1) (Nat.le_of_ble_eq_true rfl)
  rw [lg_entry_eq]
  generalize (lg_sl ([.ref o0]) ++ List.replicate (1 - (lg_sl ([.ref o0])).length) Slot.unset).toArray = ls at hl ⊢
  have hl : lv_has ls 1 [(0, .ref o0)] := hl
  clear hB B
  refine lv_aload_n hx hb dX1_ofCubic_0 rfl (lv_at hl 0 rfl) ?_
  refine lv_iconst (v := 3) hx hb dX1_ofCubic_1 (by decide) ?_
  obtain ⟨hs1, hwp⟩ := hwp
  obtain ⟨P2, hc3, hwp⟩ := hwp
  refine sw_calll hz (va_runV (As := [.int 3]) (rest := []) ⟨hx, hb, hml, hown, hts⟩ (hc3 hK _) (cwV 1 hts gX1_ofCubic_X4_at rfl rfl rfl (by decide +kernel) ⟨Nat.le_of_ble_eq_true rfl, Nat.le_of_ble_eq_true rfl⟩) (hz.preV hK hs1 rfl) rfl rfl hl.1 rfl (lv_room (Nat.le_of_ble_eq_true rfl)) dX1_ofCubic_2 ⟨Nat.le_of_ble_eq_true rfl, Nat.le_of_ble_eq_true rfl⟩) (fun r7 I4 L5 A6 H locs hp hz => ?_)
  have hwp := hwp r7 I4 L5 A6 hp
  refine lv_aload_n hx hb dX1_ofCubic_5 rfl (lv_at hl 0 rfl) ?_
  refine lv_iconst (v := 2) hx hb dX1_ofCubic_6 (by decide) ?_
  obtain ⟨P8, hc9, hwp⟩ := hwp
  refine sw_calll hz (va_runV (As := [.int 2]) (rest := [.long r7]) ⟨hx, hb, hml, hown, hts⟩ (hc9 hK _) (cwV 1 hts gX1_ofCubic_X4_at rfl rfl rfl (by decide +kernel) ⟨Nat.le_of_ble_eq_true rfl, Nat.le_of_ble_eq_true rfl⟩) (hz.preV hK hs1 rfl) rfl rfl hl.1 rfl (lv_room (Nat.le_of_ble_eq_true rfl)) dX1_ofCubic_7 ⟨Nat.le_of_ble_eq_true rfl, Nat.le_of_ble_eq_true rfl⟩) (fun r13 I10 L11 A12 H locs hp hz => ?_)
  have hwp := hwp r13 I10 L11 A12 hp
  refine lv_aload_n hx hb dX1_ofCubic_10 rfl (lv_at hl 0 rfl) ?_
  refine lv_iconst (v := 1) hx hb dX1_ofCubic_11 (by decide) ?_
  obtain ⟨P14, hc15, hwp⟩ := hwp
  refine sw_calll hz (va_runV (As := [.int 1]) (rest := [.long r13, .long r7]) ⟨hx, hb, hml, hown, hts⟩ (hc15 hK _) (cwV 1 hts gX1_ofCubic_X4_at rfl rfl rfl (by decide +kernel) ⟨Nat.le_of_ble_eq_true rfl, Nat.le_of_ble_eq_true rfl⟩) (hz.preV hK hs1 rfl) rfl rfl hl.1 rfl (lv_room (Nat.le_of_ble_eq_true rfl)) dX1_ofCubic_12 ⟨Nat.le_of_ble_eq_true rfl, Nat.le_of_ble_eq_true rfl⟩) (fun r19 I16 L17 A18 H locs hp hz => ?_)
  have hwp := hwp r19 I16 L17 A18 hp
  refine lv_aload_n hx hb dX1_ofCubic_15 rfl (lv_at hl 0 rfl) ?_
  refine lv_iconst (v := 0) hx hb dX1_ofCubic_16 (by decide) ?_
  obtain ⟨P20, hc21, hwp⟩ := hwp
  refine sw_calll hz (va_runV (As := [.int 0]) (rest := [.long r19, .long r13, .long r7]) ⟨hx, hb, hml, hown, hts⟩ (hc21 hK _) (cwV 1 hts gX1_ofCubic_X4_at rfl rfl rfl (by decide +kernel) ⟨Nat.le_of_ble_eq_true rfl, Nat.le_of_ble_eq_true rfl⟩) (hz.preV hK hs1 rfl) rfl rfl hl.1 rfl (lv_room (Nat.le_of_ble_eq_true rfl)) dX1_ofCubic_17 ⟨Nat.le_of_ble_eq_true rfl, Nat.le_of_ble_eq_true rfl⟩) (fun r25 I22 L23 A24 H locs hp hz => ?_)
  have hwp := hwp r25 I22 L23 A24 hp
  obtain ⟨P26, hc27, hwp⟩ := hwp
  refine sw_calll hz (va_runS (As := [.long r7, .long r13, .long r19, .long r25]) (rest := []) ⟨hx, hb, hml, hown, hts⟩ (hc27 hK _) (va_cwS 4 hts gX1_ofCubic_X1_discriminantOf rfl rfl rfl (by decide +kernel) ⟨Nat.le_of_ble_eq_true rfl, Nat.le_of_ble_eq_true rfl⟩) hz.preS rfl rfl hl.1 rfl (lv_room (Nat.le_of_ble_eq_true rfl)) dX1_ofCubic_20 ⟨Nat.le_of_ble_eq_true rfl, Nat.le_of_ble_eq_true rfl⟩) (fun r31 I28 L29 A30 H locs hp hz => ?_)
  have hwp := hwp r31 I28 L29 A30 hp
  obtain ⟨P32, hc33, hwp⟩ := hwp
  refine sw_calli hz (va_runS (As := [.long r31]) (rest := []) ⟨hx, hb, hml, hown, hts⟩ (hc33 hK _) (va_cwS 1 hts gX1_ofCubic_X1_isSquare rfl rfl rfl (by decide +kernel) ⟨Nat.le_of_ble_eq_true rfl, Nat.le_of_ble_eq_true rfl⟩) hz.preS rfl rfl hl.1 rfl (lv_room (Nat.le_of_ble_eq_true rfl)) dX1_ofCubic_23 ⟨Nat.le_of_ble_eq_true rfl, Nat.le_of_ble_eq_true rfl⟩) (fun r37 I34 L35 A36 H locs hp hz => ?_)
  have hwp := hwp r37 I34 L35 A36 hp
  refine lv_if_eq (tgt := 33) hx hb dX1_ofCubic_26 (by decide) (fun q => ?_) (fun q => ?_)
  · have hwp := hwp.1 q
    refine lv_iconst (v := 4) hx hb dX1_ofCubic_33 (by decide) ?_
    exact sw_iret hx hb hret hlocks hz hwp dX1_ofCubic_34
  · have hwp := hwp.2 q
    refine lv_iconst (v := 3) hx hb dX1_ofCubic_29 (by decide) ?_
    refine lv_goto (tgt := 34) hx hb dX1_ofCubic_30 (by decide) ?_
    exact sw_iret hx hb hret hlocks hz hwp dX1_ofCubic_34

def wp_X1_of (K : Cx) (I : TI) (L : TL) (A : TA) (o0 : Nat) (Q : Int32 → TI → TL → TA → Prop) : Prop := cxS K o0 = shX4 o0 ∧ (((I o0 1) = 4 → ∃ P8 : Int32 → TI → TL → TA → Prop, ConI K yX1_ofQuartic wsX1_ofQuartic 4 123 I L A [.ref o0] P8 ∧ ∀ (r13 : Int32) (I10 : TI) (L11 : TL) (A12 : TA), P8 r13 I10 L11 A12 → Q r13 I10 L11 A12) ∧ (¬ (I o0 1) = 4 → (((I o0 1) = 3 → ∃ P2 : Int32 → TI → TL → TA → Prop, ConI K yX1_ofCubic wsX1_ofCubic 1 27 I L A [.ref o0] P2 ∧ ∀ (r7 : Int32) (I4 : TI) (L5 : TL) (A6 : TA), P2 r7 I4 L5 A6 → Q r7 I4 L5 A6) ∧ (¬ (I o0 1) = 3 → Q (I o0 1) I L A))))
set_option maxHeartbeats 1000000 in
set_option maxRecDepth 100000 in
theorem w_X1_of (K : Cx) (I : TI) (L : TL) (A : TA) (o0 : Nat) (Q : Int32 → TI → TL → TA → Prop) (hwp : wp_X1_of K I L A o0 Q) : ConI K yX1_of wsX1_of 5 158 I L A [.ref o0] Q := by
  intro hK sz
  refine Met.ofW (cc := cX1_of) (maxL := 1) (ret := (some .int)) (by decide) rfl ?_
  intro p e s m args below meth c s₁ B hml hv
  obtain ⟨rfl, hsz, hB⟩ := hv
  have hx := B.exec
  have hb := B.bytes
  have hret := B.returns
  have hts := atoms_spec (ws := wsX1_of) B.pre
  have hown : s.vm.findClass RX1 = some m.cls := findClass_of_methodNamed B.named
  have hlocks := B.notSynchronized
  subst hsz
  have hz : SS K s I L A s.heap [] := PS.start hB
  have hl := lv_entry ([.ref o0]) (n := 1) (Nat.le_of_ble_eq_true rfl)
  rw [lg_entry_eq]
  generalize (lg_sl ([.ref o0]) ++ List.replicate (1 - (lg_sl ([.ref o0])).length) Slot.unset).toArray = ls at hl ⊢
  have hl : lv_has ls 1 [(0, .ref o0)] := hl
  have hw0 : ∀ w ∈ u_ws RX4 TX4 2, w ∈ wsX1_of := by decide +kernel
  have hw1 := hts (.fieldLink RX1 7 "GaloisDesk$Row" "top" "I") (by decide +kernel)
  clear hB B
  refine lv_aload_n hx hb dX1_of_0 rfl (lv_at hl 0 rfl) ?_
  obtain ⟨hs1, hwp⟩ := hwp
  refine sw_get (C := RX4) (T := TX4) (N := 2) (v := .int (I o0 1)) hx hb hts hw0 hown hK hz hs1 rfl 1 (by decide) hw1 (fun _ h9 => h9) rfl dX1_of_1 ?_
  refine lv_iconst (v := 4) hx hb dX1_of_4 (by decide) ?_
  refine lv_icmp_ne (tgt := 13) hx hb dX1_of_5 (by decide) (fun q => ?_) (fun q => ?_)
  · have hwp := hwp.2 q
    refine lv_aload_n hx hb dX1_of_13 rfl (lv_at hl 0 rfl) ?_
    refine sw_get (C := RX4) (T := TX4) (N := 2) (v := .int (I o0 1)) hx hb hts hw0 hown hK hz hs1 rfl 1 (by decide) hw1 (fun _ h9 => h9) rfl dX1_of_14 ?_
    refine lv_iconst (v := 3) hx hb dX1_of_17 (by decide) ?_
    refine lv_icmp_ne (tgt := 28) hx hb dX1_of_18 (by decide) (fun q => ?_) (fun q => ?_)
    · have hwp := hwp.2 q
      refine lv_aload_n hx hb dX1_of_28 rfl (lv_at hl 0 rfl) ?_
      refine sw_get (C := RX4) (T := TX4) (N := 2) (v := .int (I o0 1)) hx hb hts hw0 hown hK hz hs1 rfl 1 (by decide) hw1 (fun _ h9 => h9) rfl dX1_of_29 ?_
      exact sw_iret hx hb hret hlocks hz hwp dX1_of_32
    · have hwp := hwp.1 q
      refine lv_aload_n hx hb dX1_of_21 rfl (lv_at hl 0 rfl) ?_
      obtain ⟨P2, hc3, hwp⟩ := hwp
      refine sw_calli hz (va_runS (As := [.ref o0]) (rest := []) ⟨hx, hb, hml, hown, hts⟩ (hc3 hK _) (va_cwS 1 hts gX1_of_X1_ofCubic rfl rfl rfl (by decide +kernel) ⟨Nat.le_of_ble_eq_true rfl, Nat.le_of_ble_eq_true rfl⟩) hz.preS rfl rfl hl.1 rfl (lv_room (Nat.le_of_ble_eq_true rfl)) dX1_of_22 ⟨Nat.le_of_ble_eq_true rfl, Nat.le_of_ble_eq_true rfl⟩) (fun r7 I4 L5 A6 H locs hp hz => ?_)
      have hwp := hwp r7 I4 L5 A6 hp
      refine lv_goto (tgt := 32) hx hb dX1_of_25 (by decide) ?_
      exact sw_iret hx hb hret hlocks hz hwp dX1_of_32
  · have hwp := hwp.1 q
    refine lv_aload_n hx hb dX1_of_8 rfl (lv_at hl 0 rfl) ?_
    obtain ⟨P8, hc9, hwp⟩ := hwp
    refine sw_calli hz (va_runS (As := [.ref o0]) (rest := []) ⟨hx, hb, hml, hown, hts⟩ (hc9 hK _) (va_cwS 1 hts gX1_of_X1_ofQuartic rfl rfl rfl (by decide +kernel) ⟨Nat.le_of_ble_eq_true rfl, Nat.le_of_ble_eq_true rfl⟩) hz.preS rfl rfl hl.1 rfl (lv_room (Nat.le_of_ble_eq_true rfl)) dX1_of_9 ⟨Nat.le_of_ble_eq_true rfl, Nat.le_of_ble_eq_true rfl⟩) (fun r13 I10 L11 A12 H locs hp hz => ?_)
    have hwp := hwp r13 I10 L11 A12 hp
    exact sw_iret hx hb hret hlocks hz hwp dX1_of_12

