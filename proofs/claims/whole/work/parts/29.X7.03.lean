def wp_X7_content (K : Cx) (I : TI) (L : TL) (A : TA) (o0 : Nat) (Q : Int32 → TI → TL → TA → Prop) : Prop := cxS K o0 = shX7 o0 ∧ ∀ I2 : TI, I2 = u2 I o0 0 0 → Q (I2 o0 8) I2 L A
set_option maxHeartbeats 1000000 in
set_option maxRecDepth 100000 in
theorem w_X7_content (K : Cx) (I : TI) (L : TL) (A : TA) (o0 : Nat) (Q : Int32 → TI → TL → TA → Prop) (hwp : wp_X7_content K I L A o0 Q) : ConI K yX7_content wsX7_content 0 0 I L A [.ref o0] Q := by
  intro hK sz
  refine Met.ofW (cc := cX7_content) (maxL := 1) (ret := (some .int)) (by decide) rfl ?_
  intro p e s m args below meth c s₁ B hml hv
  obtain ⟨rfl, hsz, hB⟩ := hv
  have hx := B.exec
  have hb := B.bytes
  have hret := B.returns
  have hts := atoms_spec (ws := wsX7_content) B.pre
  have hown : s.vm.findClass RX7 = some m.cls := findClass_of_methodNamed B.named
  have hlocks := B.notSynchronized
  subst hsz
  have hz : SS K s I L A s.heap [] := PS.start hB
  have hl := lv_entry ([.ref o0]) (n := 1) (Nat.le_of_ble_eq_true rfl)
  rw [lg_entry_eq]
  generalize (lg_sl ([.ref o0]) ++ List.replicate (1 - (lg_sl ([.ref o0])).length) Slot.unset).toArray = ls at hl ⊢
  have hl : lv_has ls 1 [(0, .ref o0)] := hl
  have hw0 : ∀ w ∈ u_ws RX7 TX7 25, w ∈ wsX7_content := by decide +kernel
  have hw1 := hts (.fieldLink RX7 35 "GaloisDeskModel" "refusal" "I") (by decide +kernel)
  have hw2 := hts (.fieldLink RX7 164 "GaloisDeskModel" "toldContent" "I") (by decide +kernel)
  clear hB B
  refine lv_aload_n hx hb dX7_content_0 rfl (lv_at hl 0 rfl) ?_
  refine lv_iconst (v := 0) hx hb dX7_content_1 (by decide) ?_
  obtain ⟨hs1, hwp⟩ := hwp
  refine sw_putI (C := RX7) (T := TX7) (N := 25) hx hb hts hw0 tyX7 tyX7_ok nmX7 hown hK hz hs1 rfl 0 (by decide) hw1 (fun _ h9 => h9) rfl (by decide +kernel) rfl dX7_content_2 (fun H locs I2 e_I2 hz => ?_)
  have hwp := hwp I2 e_I2
  refine lv_aload_n hx hb dX7_content_5 rfl (lv_at hl 0 rfl) ?_
  refine sw_get (C := RX7) (T := TX7) (N := 25) (v := .int (I2 o0 8)) hx hb hts hw0 hown hK hz hs1 rfl 8 (by decide) hw2 (fun _ h9 => h9) rfl dX7_content_6 ?_
  exact sw_iret hx hb hret hlocks hz hwp dX7_content_9

def wp_X7_cubeAt (K : Cx) (I : TI) (L : TL) (A : TA) (o0 : Nat) (j1 : Int64) (Q : Int64 → TI → TL → TA → Prop) : Prop := cxS K o0 = shX7 o0 ∧ Q (((((j1 + (L o0 20)) * j1) + (L o0 21)) * j1) + (L o0 22)) I L A
set_option maxHeartbeats 1000000 in
set_option maxRecDepth 100000 in
theorem w_X7_cubeAt (K : Cx) (I : TI) (L : TL) (A : TA) (o0 : Nat) (j1 : Int64) (Q : Int64 → TI → TL → TA → Prop) (hwp : wp_X7_cubeAt K I L A o0 j1 Q) : ConL K yX7_cubeAt wsX7_cubeAt 0 0 I L A [.ref o0, .long j1] Q := by
  intro hK sz
  refine Met.ofW (cc := cX7_cubeAt) (maxL := 3) (ret := (some .long)) (by decide) rfl ?_
  intro p e s m args below meth c s₁ B hml hv
  obtain ⟨rfl, hsz, hB⟩ := hv
  have hx := B.exec
  have hb := B.bytes
  have hret := B.returns
  have hts := atoms_spec (ws := wsX7_cubeAt) B.pre
  have hown : s.vm.findClass RX7 = some m.cls := findClass_of_methodNamed B.named
  have hlocks := B.notSynchronized
  subst hsz
  have hz : SS K s I L A s.heap [] := PS.start hB
  have hl := lv_entry ([.ref o0, .long j1]) (n := 3) (Nat.le_of_ble_eq_true rfl)
  rw [lg_entry_eq]
  generalize (lg_sl ([.ref o0, .long j1]) ++ List.replicate (3 - (lg_sl ([.ref o0, .long j1])).length) Slot.unset).toArray = ls at hl ⊢
  have hl : lv_has ls 3 [(0, .ref o0), (1, .long j1)] := hl
  have hw0 : ∀ w ∈ u_ws RX7 TX7 25, w ∈ wsX7_cubeAt := by decide +kernel
  have hw1 := hts (.fieldLink RX7 209 "GaloisDeskModel" "cubeB" "J") (by decide +kernel)
  have hw2 := hts (.fieldLink RX7 213 "GaloisDeskModel" "cubeC" "J") (by decide +kernel)
  have hw3 := hts (.fieldLink RX7 216 "GaloisDeskModel" "cubeD" "J") (by decide +kernel)
  clear hB B
  refine lv_lload_n hx hb dX7_cubeAt_0 rfl (lv_at hl 1 rfl) ?_
  refine lv_aload_n hx hb dX7_cubeAt_1 rfl (lv_at hl 0 rfl) ?_
  obtain ⟨hs1, hwp⟩ := hwp
  refine sw_get (C := RX7) (T := TX7) (N := 25) (v := .long (L o0 20)) hx hb hts hw0 hown hK hz hs1 rfl 20 (by decide) hw1 (fun _ h9 => h9) rfl dX7_cubeAt_2 ?_
  refine lv_ladd hx hb dX7_cubeAt_5 ?_
  refine lv_lload_n hx hb dX7_cubeAt_6 rfl (lv_at hl 1 rfl) ?_
  refine lv_lmul hx hb dX7_cubeAt_7 ?_
  refine lv_aload_n hx hb dX7_cubeAt_8 rfl (lv_at hl 0 rfl) ?_
  refine sw_get (C := RX7) (T := TX7) (N := 25) (v := .long (L o0 21)) hx hb hts hw0 hown hK hz hs1 rfl 21 (by decide) hw2 (fun _ h9 => h9) rfl dX7_cubeAt_9 ?_
  refine lv_ladd hx hb dX7_cubeAt_12 ?_
  refine lv_lload_n hx hb dX7_cubeAt_13 rfl (lv_at hl 1 rfl) ?_
  refine lv_lmul hx hb dX7_cubeAt_14 ?_
  refine lv_aload_n hx hb dX7_cubeAt_15 rfl (lv_at hl 0 rfl) ?_
  refine sw_get (C := RX7) (T := TX7) (N := 25) (v := .long (L o0 22)) hx hb hts hw0 hown hK hz hs1 rfl 22 (by decide) hw3 (fun _ h9 => h9) rfl dX7_cubeAt_16 ?_
  refine lv_ladd hx hb dX7_cubeAt_19 ?_
  exact sw_lret hx hb hret hlocks hz hwp dX7_cubeAt_20

def wp_X7_root_7 (K : Cx) (j0 : Int64) (I : TI) (L : TL) (A : TA) (x2 : Int64) (x4 : Int64) (Q : Int64 → TI → TL → TA → Prop) : Prop := ∃ (Inv : Nat → TI → TL → TA → Int64 → Int64 → Prop) (μ : Nat), Inv μ I L A x2 x4 ∧ ∀ (μ : Nat) (C7 : TI → TL → TA → Int64 → Int64 → Prop), (∀ (μ' : Nat) (I : TI) (L : TL) (A : TA) (x2 : Int64) (x4 : Int64) , μ' < μ → Inv μ' I L A x2 x4 → C7 I L A x2 x4) → ∀ (I : TI) (L : TL) (A : TA) (x2 : Int64) (x4 : Int64) , Inv μ I L A x2 x4 → ((x4 ≤ x2 → Q x2 I L A) ∧ (¬ x4 ≤ x2 → ∀ v1 : Int64, v1 = (((x2 + x4) + 1) / 2) → ((j0 < (v1 * v1) → ∀ v2 : Int64, v2 = (v1 - 1) → C7 I L A x2 v2) ∧ (¬ j0 < (v1 * v1) → C7 I L A v1 x4))))
def wp_X7_root (K : Cx) (I : TI) (L : TL) (A : TA) (j0 : Int64) (Q : Int64 → TI → TL → TA → Prop) : Prop := wp_X7_root_7 K j0 I L A 0 3037000499 Q
set_option maxHeartbeats 1000000 in
set_option maxRecDepth 100000 in
theorem w_X7_root (K : Cx) (I : TI) (L : TL) (A : TA) (j0 : Int64) (Q : Int64 → TI → TL → TA → Prop) (hwp : wp_X7_root K I L A j0 Q) : ConL K yX7_root wsX7_root 0 0 I L A [.long j0] Q := by
  intro hK sz
  refine Met.ofW (cc := cX7_root) (maxL := 8) (ret := (some .long)) (by decide) rfl ?_
  intro p e s m args below meth c s₁ B hml hv
  obtain ⟨rfl, hsz, hB⟩ := hv
  have hx := B.exec
  have hb := B.bytes
  have hret := B.returns
  have hts := atoms_spec (ws := wsX7_root) B.pre
  have hown : s.vm.findClass RX7 = some m.cls := findClass_of_methodNamed B.named
  have hlocks := B.notSynchronized
  subst hsz
  have hz : SS K s I L A s.heap [] := PS.start hB
  have hl := lv_entry ([.long j0]) (n := 8) (Nat.le_of_ble_eq_true rfl)
  rw [lg_entry_eq]
  generalize (lg_sl ([.long j0]) ++ List.replicate (8 - (lg_sl ([.long j0])).length) Slot.unset).toArray = ls at hl ⊢
  have hl : lv_has ls 8 [(0, .long j0)] := hl
  have hw0 := hts (.constantLong RX7 199 (2)) (by decide +kernel)
  have hw1 := hts (.constantLong RX7 197 (3037000499)) (by decide +kernel)
  clear hB B
  have wL7 : ∀ (I : TI) (L : TL) (A : TA) (x2 : Int64) (x4 : Int64) (H : Heap) (locs : List Loc) (ls : Array Slot), wp_X7_root_7 K j0 I L A x2 x4 Q → SS K s I L A H locs → lv_has ls 8 [(0, .long j0), (2, .long x2), (4, .long x4)] → W p (cxl K) e (headSpec wsX7_root (rmF 0 0)).room s m ([.long j0] : List Value).toArray below meth c H locs 0 0 (MQ below (cxQl K Q) ([.long j0] : List Value).toArray s 0 0 (PA (cxb K))) (F0 m 7 ls []) := by
    intro I L A x2 x4 H locs ls hwp hz hl
    obtain ⟨Inv, μ, hi, hst⟩ := hwp
    have key : ∀ (μ : Nat) (I : TI) (L : TL) (A : TA) (x2 : Int64) (x4 : Int64) (H : Heap) (locs : List Loc) (ls : Array Slot), Inv μ I L A x2 x4 → SS K s I L A H locs → lv_has ls 8 [(0, .long j0), (2, .long x2), (4, .long x4)] → W p (cxl K) e (headSpec wsX7_root (rmF 0 0)).room s m ([.long j0] : List Value).toArray below meth c H locs 0 0 (MQ below (cxQl K Q) ([.long j0] : List Value).toArray s 0 0 (PA (cxb K))) (F0 m 7 ls []) := by
      clear hi hz hl
      intro μ
      induction μ using Nat.strongRecOn with | ind μ ih => ?_
      intro I L A x2 x4 H locs ls hi hz hl
      obtain ⟨C7, hCd⟩ : ∃ C : TI → TL → TA → Int64 → Int64 → Prop, C = fun I L A x2 x4 => ∃ μ', μ' < μ ∧ Inv μ' I L A x2 x4 := ⟨_, rfl⟩
      have hC7 : ∀ (I : TI) (L : TL) (A : TA) (x2 : Int64) (x4 : Int64) (H : Heap) (locs : List Loc) (ls : Array Slot), C7 I L A x2 x4 → SS K s I L A H locs → lv_has ls 8 [(0, .long j0), (2, .long x2), (4, .long x4)] → W p (cxl K) e (headSpec wsX7_root (rmF 0 0)).room s m ([.long j0] : List Value).toArray below meth c H locs 0 0 (MQ below (cxQl K Q) ([.long j0] : List Value).toArray s 0 0 (PA (cxb K))) (F0 m 7 ls []) := by
        intro I L A x2 x4 H locs ls hc hz hl
        rw [hCd] at hc
        obtain ⟨μ', hlt, hc⟩ := hc
        exact ih μ' hlt I L A x2 x4 H locs ls hc hz hl
      have hwp := hst μ C7 (fun μ' I L A x2 x4 hlt hc => by rw [hCd]; exact ⟨μ', hlt, hc⟩) I L A x2 x4 hi
      refine lv_lload_n hx hb dX7_root_7 rfl (lv_at hl 1 rfl) ?_
      refine lv_lload hx hb dX7_root_8 (lv_at hl 2 rfl) ?_
      refine W.lcmp hx hb dX7_root_10 ?_
      refine W.eq (g2 := F0 m 11 ls [.int (lg_cmp x2 x4)]) rfl ?_
      refine lv_if_ge (tgt := 51) hx hb dX7_root_11 (by decide) (fun q => ?_) (fun q => ?_)
      · have hwp := hwp.1 ((lg_cmp_ge _ _).mp q)
        refine lv_lload_n hx hb dX7_root_51 rfl (lv_at hl 1 rfl) ?_
        exact sw_lret hx hb hret hlocks hz hwp dX7_root_52
      · have hwp := hwp.2 (fun h => q ((lg_cmp_ge _ _).mpr h))
        refine lv_lload_n hx hb dX7_root_14 rfl (lv_at hl 1 rfl) ?_
        refine lv_lload hx hb dX7_root_15 (lv_at hl 2 rfl) ?_
        refine lv_ladd hx hb dX7_root_17 ?_
        refine lv_lconst (v := 1) hx hb dX7_root_18 (by decide) ?_
        refine lv_ladd hx hb dX7_root_19 ?_
        refine lv_ldc2 hx hb hown hw0 dX7_root_20 ?_
        refine lv_ldiv hx hb dX7_root_23 (by decide) ?_
        refine lv_topl (fun v1 q_v1 => ?_)
        have hwp := hwp v1 q_v1
        refine lv_lstore (lv' := [(6, .long v1), (0, .long j0), (2, .long x2), (4, .long x4)]) hx hb dX7_root_24 hl (by decide) rfl (fun ls hl => ?_)
        refine lv_lload hx hb dX7_root_26 (lv_at hl 0 rfl) ?_
        refine lv_lload hx hb dX7_root_28 (lv_at hl 0 rfl) ?_
        refine lv_lmul hx hb dX7_root_30 ?_
        refine lv_lload_n hx hb dX7_root_31 rfl (lv_at hl 1 rfl) ?_
        refine W.lcmp hx hb dX7_root_32 ?_
        refine W.eq (g2 := F0 m 33 ls [.int (lg_cmp (v1 * v1) j0)]) rfl ?_
        refine lv_if_gt (tgt := 42) hx hb dX7_root_33 (by decide) (fun q => ?_) (fun q => ?_)
        · have hwp := hwp.1 ((lg_cmp_gt _ _).mp q)
          refine lv_lload hx hb dX7_root_42 (lv_at hl 0 rfl) ?_
          refine lv_lconst (v := 1) hx hb dX7_root_44 (by decide) ?_
          refine lv_lsub hx hb dX7_root_45 ?_
          refine lv_topl (fun v2 q_v2 => ?_)
          have hwp := hwp v2 q_v2
          refine lv_lstore (lv' := [(4, .long v2), (6, .long v1), (0, .long j0), (2, .long x2)]) hx hb dX7_root_46 hl (by decide) rfl (fun ls hl => ?_)
          refine lv_goto (tgt := 7) hx hb dX7_root_48 (by decide) ?_
          exact hC7 _ _ _ _ _ _ _ _ hwp hz (lv_sub hl [2, 3, 0] rfl)
        · have hwp := hwp.2 (fun h => q ((lg_cmp_gt _ _).mpr h))
          refine lv_lload hx hb dX7_root_36 (lv_at hl 0 rfl) ?_
          refine lv_lstore_n (lv' := [(2, .long v1), (6, .long v1), (0, .long j0), (4, .long x4)]) hx hb dX7_root_38 rfl hl (by decide) rfl (fun ls hl => ?_)
          refine lv_goto (tgt := 48) hx hb dX7_root_39 (by decide) ?_
          refine lv_goto (tgt := 7) hx hb dX7_root_48 (by decide) ?_
          exact hC7 _ _ _ _ _ _ _ _ hwp hz (lv_sub hl [2, 0, 3] rfl)
    exact key μ I L A x2 x4 H locs ls hi hz hl
  refine lv_lconst (v := 0) hx hb dX7_root_0 (by decide) ?_
  refine lv_lstore_n (lv' := [(2, .long 0), (0, .long j0)]) hx hb dX7_root_1 rfl hl (by decide) rfl (fun ls hl => ?_)
  refine lv_ldc2 hx hb hown hw1 dX7_root_2 ?_
  refine lv_lstore (lv' := [(4, .long 3037000499), (2, .long 0), (0, .long j0)]) hx hb dX7_root_5 hl (by decide) rfl (fun ls hl => ?_)
  exact wL7 _ _ _ _ _ _ _ _ hwp hz (lv_sub hl [2, 1, 0] rfl)

def wp_X7_isSquare (K : Cx) (I : TI) (L : TL) (A : TA) (j0 : Int64) (Q : Int32 → TI → TL → TA → Prop) : Prop := ((j0 < 0 → Q 0 I L A) ∧ (¬ j0 < 0 → ∃ P1 : Int64 → TI → TL → TA → Prop, ConL K yX7_root wsX7_root 0 0 I L A [.long j0] P1 ∧ ∀ (r6 : Int64) (I3 : TI) (L4 : TL) (A5 : TA), P1 r6 I3 L4 A5 → ∃ P7 : Int64 → TI → TL → TA → Prop, ConL K yX7_root wsX7_root 0 0 I3 L4 A5 [.long j0] P7 ∧ ∀ (r12 : Int64) (I9 : TI) (L10 : TL) (A11 : TA), P7 r12 I9 L10 A11 → (((r6 * r12) = j0 → Q 1 I9 L10 A11) ∧ (¬ (r6 * r12) = j0 → Q 0 I9 L10 A11))))
set_option maxHeartbeats 1000000 in
set_option maxRecDepth 100000 in
theorem w_X7_isSquare (K : Cx) (I : TI) (L : TL) (A : TA) (j0 : Int64) (Q : Int32 → TI → TL → TA → Prop) (hwp : wp_X7_isSquare K I L A j0 Q) : ConI K yX7_isSquare wsX7_isSquare 1 27 I L A [.long j0] Q := by
  intro hK sz
  refine Met.ofW (cc := cX7_isSquare) (maxL := 2) (ret := (some .boolean)) (by decide) rfl ?_
  intro p e s m args below meth c s₁ B hml hv
  obtain ⟨rfl, hsz, hB⟩ := hv
  have hx := B.exec
  have hb := B.bytes
  have hret := B.returns
  have hts := atoms_spec (ws := wsX7_isSquare) B.pre
  have hown : s.vm.findClass RX7 = some m.cls := findClass_of_methodNamed B.named
  have hlocks := B.notSynchronized
  subst hsz
  have hz : SS K s I L A s.heap [] := PS.start hB
  have hl := lv_entry ([.long j0]) (n := 2) (Nat.le_of_ble_eq_true rfl)
  rw [lg_entry_eq]
  generalize (lg_sl ([.long j0]) ++ List.replicate (2 - (lg_sl ([.long j0])).length) Slot.unset).toArray = ls at hl ⊢
  have hl : lv_has ls 2 [(0, .long j0)] := hl
  clear hB B
  refine lv_lload_n hx hb dX7_isSquare_0 rfl (lv_at hl 0 rfl) ?_
  refine lv_lconst (v := 0) hx hb dX7_isSquare_1 (by decide) ?_
  refine W.lcmp hx hb dX7_isSquare_2 ?_
  refine W.eq (g2 := F0 m 3 ls [.int (lg_cmp j0 0)]) rfl ?_
  refine lv_if_lt (tgt := 24) hx hb dX7_isSquare_3 (by decide) (fun q => ?_) (fun q => ?_)
  · have hwp := hwp.1 ((lg_cmp_lt _ _).mp q)
    refine lv_iconst (v := 0) hx hb dX7_isSquare_24 (by decide) ?_
    exact sw_zret hx hb hret hlocks hz (Or.inl rfl) hwp dX7_isSquare_25
  · have hwp := hwp.2 (fun h => q ((lg_cmp_lt _ _).mpr h))
    refine lv_lload_n hx hb dX7_isSquare_6 rfl (lv_at hl 0 rfl) ?_
    obtain ⟨P1, hc2, hwp⟩ := hwp
    refine sw_calll hz (va_runS (As := [.long j0]) (rest := []) ⟨hx, hb, hml, hown, hts⟩ (hc2 hK _) (va_cwS 1 hts gX7_isSquare_X7_root rfl rfl rfl (by decide +kernel) ⟨Nat.le_of_ble_eq_true rfl, Nat.le_of_ble_eq_true rfl⟩) hz.preS rfl rfl hl.1 rfl (lv_room (Nat.le_of_ble_eq_true rfl)) dX7_isSquare_7 ⟨Nat.le_of_ble_eq_true rfl, Nat.le_of_ble_eq_true rfl⟩) (fun r6 I3 L4 A5 H locs hp hz => ?_)
    have hwp := hwp r6 I3 L4 A5 hp
    refine lv_lload_n hx hb dX7_isSquare_10 rfl (lv_at hl 0 rfl) ?_
    obtain ⟨P7, hc8, hwp⟩ := hwp
    refine sw_calll hz (va_runS (As := [.long j0]) (rest := [.long r6]) ⟨hx, hb, hml, hown, hts⟩ (hc8 hK _) (va_cwS 1 hts gX7_isSquare_X7_root rfl rfl rfl (by decide +kernel) ⟨Nat.le_of_ble_eq_true rfl, Nat.le_of_ble_eq_true rfl⟩) hz.preS rfl rfl hl.1 rfl (lv_room (Nat.le_of_ble_eq_true rfl)) dX7_isSquare_11 ⟨Nat.le_of_ble_eq_true rfl, Nat.le_of_ble_eq_true rfl⟩) (fun r12 I9 L10 A11 H locs hp hz => ?_)
    have hwp := hwp r12 I9 L10 A11 hp
    refine lv_lmul hx hb dX7_isSquare_14 ?_
    refine lv_lload_n hx hb dX7_isSquare_15 rfl (lv_at hl 0 rfl) ?_
    refine W.lcmp hx hb dX7_isSquare_16 ?_
    refine W.eq (g2 := F0 m 17 ls [.int (lg_cmp (r6 * r12) j0)]) rfl ?_
    refine lv_if_ne (tgt := 24) hx hb dX7_isSquare_17 (by decide) (fun q => ?_) (fun q => ?_)
    · have hwp := hwp.2 (fun h => q ((lg_cmp_eq _ _).mpr h))
      refine lv_iconst (v := 0) hx hb dX7_isSquare_24 (by decide) ?_
      exact sw_zret hx hb hret hlocks hz (Or.inl rfl) hwp dX7_isSquare_25
    · have hwp := hwp.1 ((lg_cmp_eq _ _).mp q)
      refine lv_iconst (v := 1) hx hb dX7_isSquare_20 (by decide) ?_
      refine lv_goto (tgt := 25) hx hb dX7_isSquare_21 (by decide) ?_
      exact sw_zret hx hb hret hlocks hz (Or.inr rfl) hwp dX7_isSquare_25

def wp_X7_cubic (K : Cx) (I : TI) (L : TL) (A : TA) (o0 : Nat) (j1 : Int64) (j3 : Int64) (j5 : Int64) (j7 : Int64) (Q : Int32 → TI → TL → TA → Prop) : Prop := ∀ v1 : Int64, v1 = ((((((((18 * j1) * j3) * j5) * j7) - ((((4 * j3) * j3) * j3) * j7)) + (((j3 * j3) * j5) * j5)) - ((((4 * j1) * j5) * j5) * j5)) - ((((27 * j1) * j1) * j7) * j7)) → ∃ P2 : Int32 → TI → TL → TA → Prop, ConI K yX7_isSquare wsX7_isSquare 1 27 I L A [.long v1] P2 ∧ ∀ (r7 : Int32) (I4 : TI) (L5 : TL) (A6 : TA), P2 r7 I4 L5 A6 → ((r7 = 0 → Q 4 I4 L5 A6) ∧ (¬ r7 = 0 → Q 3 I4 L5 A6))
set_option maxHeartbeats 1000000 in
set_option maxRecDepth 100000 in
theorem w_X7_cubic (K : Cx) (I : TI) (L : TL) (A : TA) (o0 : Nat) (j1 : Int64) (j3 : Int64) (j5 : Int64) (j7 : Int64) (Q : Int32 → TI → TL → TA → Prop) (hwp : wp_X7_cubic K I L A o0 j1 j3 j5 j7 Q) : ConI K yX7_cubic wsX7_cubic 2 48 I L A [.ref o0, .long j1, .long j3, .long j5, .long j7] Q := by
  intro hK sz
  refine Met.ofW (cc := cX7_cubic) (maxL := 11) (ret := (some .int)) (by decide) rfl ?_
  intro p e s m args below meth c s₁ B hml hv
  obtain ⟨rfl, hsz, hB⟩ := hv
  have hx := B.exec
  have hb := B.bytes
  have hret := B.returns
  have hts := atoms_spec (ws := wsX7_cubic) B.pre
  have hown : s.vm.findClass RX7 = some m.cls := findClass_of_methodNamed B.named
  have hlocks := B.notSynchronized
  subst hsz
  have hz : SS K s I L A s.heap [] := PS.start hB
  have hl := lv_entry ([.ref o0, .long j1, .long j3, .long j5, .long j7]) (n := 11) (Nat.le_of_ble_eq_true rfl)
  rw [lg_entry_eq]
  generalize (lg_sl ([.ref o0, .long j1, .long j3, .long j5, .long j7]) ++ List.replicate (11 - (lg_sl ([.ref o0, .long j1, .long j3, .long j5, .long j7])).length) Slot.unset).toArray = ls at hl ⊢
  have hl : lv_has ls 11 [(0, .ref o0), (1, .long j1), (3, .long j3), (5, .long j5), (7, .long j7)] := hl
  have hw0 := hts (.constantLong RX7 239 (18)) (by decide +kernel)
  have hw1 := hts (.constantLong RX7 241 (4)) (by decide +kernel)
  have hw2 := hts (.constantLong RX7 243 (27)) (by decide +kernel)
  clear hB B
  refine lv_ldc2 hx hb hown hw0 dX7_cubic_0 ?_
  refine lv_lload_n hx hb dX7_cubic_3 rfl (lv_at hl 1 rfl) ?_
  refine lv_lmul hx hb dX7_cubic_4 ?_
  refine lv_lload_n hx hb dX7_cubic_5 rfl (lv_at hl 2 rfl) ?_
  refine lv_lmul hx hb dX7_cubic_6 ?_
  refine lv_lload hx hb dX7_cubic_7 (lv_at hl 3 rfl) ?_
  refine lv_lmul hx hb dX7_cubic_9 ?_
  refine lv_lload hx hb dX7_cubic_10 (lv_at hl 4 rfl) ?_
  refine lv_lmul hx hb dX7_cubic_12 ?_
  refine lv_ldc2 hx hb hown hw1 dX7_cubic_13 ?_
  refine lv_lload_n hx hb dX7_cubic_16 rfl (lv_at hl 2 rfl) ?_
  refine lv_lmul hx hb dX7_cubic_17 ?_
  refine lv_lload_n hx hb dX7_cubic_18 rfl (lv_at hl 2 rfl) ?_
  refine lv_lmul hx hb dX7_cubic_19 ?_
  refine lv_lload_n hx hb dX7_cubic_20 rfl (lv_at hl 2 rfl) ?_
  refine lv_lmul hx hb dX7_cubic_21 ?_
  refine lv_lload hx hb dX7_cubic_22 (lv_at hl 4 rfl) ?_
  refine lv_lmul hx hb dX7_cubic_24 ?_
  refine lv_lsub hx hb dX7_cubic_25 ?_
  refine lv_lload_n hx hb dX7_cubic_26 rfl (lv_at hl 2 rfl) ?_
  refine lv_lload_n hx hb dX7_cubic_27 rfl (lv_at hl 2 rfl) ?_
  refine lv_lmul hx hb dX7_cubic_28 ?_
  refine lv_lload hx hb dX7_cubic_29 (lv_at hl 3 rfl) ?_
  refine lv_lmul hx hb dX7_cubic_31 ?_
  refine lv_lload hx hb dX7_cubic_32 (lv_at hl 3 rfl) ?_
  refine lv_lmul hx hb dX7_cubic_34 ?_
  refine lv_ladd hx hb dX7_cubic_35 ?_
  refine lv_ldc2 hx hb hown hw1 dX7_cubic_36 ?_
  refine lv_lload_n hx hb dX7_cubic_39 rfl (lv_at hl 1 rfl) ?_
  refine lv_lmul hx hb dX7_cubic_40 ?_
  refine lv_lload hx hb dX7_cubic_41 (lv_at hl 3 rfl) ?_
  refine lv_lmul hx hb dX7_cubic_43 ?_
  refine lv_lload hx hb dX7_cubic_44 (lv_at hl 3 rfl) ?_
  refine lv_lmul hx hb dX7_cubic_46 ?_
  refine lv_lload hx hb dX7_cubic_47 (lv_at hl 3 rfl) ?_
  refine lv_lmul hx hb dX7_cubic_49 ?_
  refine lv_lsub hx hb dX7_cubic_50 ?_
  refine lv_ldc2 hx hb hown hw2 dX7_cubic_51 ?_
  refine lv_lload_n hx hb dX7_cubic_54 rfl (lv_at hl 1 rfl) ?_
  refine lv_lmul hx hb dX7_cubic_55 ?_
  refine lv_lload_n hx hb dX7_cubic_56 rfl (lv_at hl 1 rfl) ?_
  refine lv_lmul hx hb dX7_cubic_57 ?_
  refine lv_lload hx hb dX7_cubic_58 (lv_at hl 4 rfl) ?_
  refine lv_lmul hx hb dX7_cubic_60 ?_
  refine lv_lload hx hb dX7_cubic_61 (lv_at hl 4 rfl) ?_
  refine lv_lmul hx hb dX7_cubic_63 ?_
  refine lv_lsub hx hb dX7_cubic_64 ?_
  refine lv_topl (fun v1 q_v1 => ?_)
  have hwp := hwp v1 q_v1
  refine lv_lstore (lv' := [(9, .long v1), (0, .ref o0), (1, .long j1), (3, .long j3), (5, .long j5), (7, .long j7)]) hx hb dX7_cubic_65 hl (by decide) rfl (fun ls hl => ?_)
  refine lv_lload hx hb dX7_cubic_67 (lv_at hl 0 rfl) ?_
  obtain ⟨P2, hc3, hwp⟩ := hwp
  refine sw_calli hz (va_runS (As := [.long v1]) (rest := []) ⟨hx, hb, hml, hown, hts⟩ (hc3 hK _) (va_cwS 1 hts gX7_cubic_X7_isSquare rfl rfl rfl (by decide +kernel) ⟨Nat.le_of_ble_eq_true rfl, Nat.le_of_ble_eq_true rfl⟩) hz.preS rfl rfl hl.1 rfl (lv_room (Nat.le_of_ble_eq_true rfl)) dX7_cubic_69 ⟨Nat.le_of_ble_eq_true rfl, Nat.le_of_ble_eq_true rfl⟩) (fun r7 I4 L5 A6 H locs hp hz => ?_)
  have hwp := hwp r7 I4 L5 A6 hp
  refine lv_if_eq (tgt := 79) hx hb dX7_cubic_72 (by decide) (fun q => ?_) (fun q => ?_)
  · have hwp := hwp.1 q
    refine lv_iconst (v := 4) hx hb dX7_cubic_79 (by decide) ?_
    exact sw_iret hx hb hret hlocks hz hwp dX7_cubic_80
  · have hwp := hwp.2 q
    refine lv_iconst (v := 3) hx hb dX7_cubic_75 (by decide) ?_
    refine lv_goto (tgt := 80) hx hb dX7_cubic_76 (by decide) ?_
    exact sw_iret hx hb hret hlocks hz hwp dX7_cubic_80

def wp_X7_degree (K : Cx) (I : TI) (L : TL) (A : TA) (o0 : Nat) (i1 : Int32) (Q : Int32 → TI → TL → TA → Prop) : Prop := cxS K o0 = shX7 o0 ∧ ∀ I2 : TI, I2 = u2 I o0 0 0 → ∃ P3 : Int32 → TI → TL → TA → Prop, ConI K yX7_isIn wsX7_isIn 0 0 I2 L A [.int i1, .int 0, .int ((I2 o0 11) - 1)] P3 ∧ ∀ (r8 : Int32) (I5 : TI) (L6 : TL) (A7 : TA), P3 r8 I5 L6 A7 → ((r8 = 0 → Q 0 I5 L6 A7) ∧ (¬ r8 = 0 → aok (cxS K) (o0 + 6) 0 i1 ∧ Q (I5 (o0 + 6) (ix i1)) I5 L6 A7))
set_option maxHeartbeats 1000000 in
set_option maxRecDepth 100000 in
theorem w_X7_degree (K : Cx) (I : TI) (L : TL) (A : TA) (o0 : Nat) (i1 : Int32) (Q : Int32 → TI → TL → TA → Prop) (hwp : wp_X7_degree K I L A o0 i1 Q) : ConI K yX7_degree wsX7_degree 1 22 I L A [.ref o0, .int i1] Q := by
  intro hK sz
  refine Met.ofW (cc := cX7_degree) (maxL := 2) (ret := (some .int)) (by decide) rfl ?_
  intro p e s m args below meth c s₁ B hml hv
  obtain ⟨rfl, hsz, hB⟩ := hv
  have hx := B.exec
  have hb := B.bytes
  have hret := B.returns
  have hts := atoms_spec (ws := wsX7_degree) B.pre
  have hown : s.vm.findClass RX7 = some m.cls := findClass_of_methodNamed B.named
  have hlocks := B.notSynchronized
  subst hsz
  have hz : SS K s I L A s.heap [] := PS.start hB
  have hl := lv_entry ([.ref o0, .int i1]) (n := 2) (Nat.le_of_ble_eq_true rfl)
  rw [lg_entry_eq]
  generalize (lg_sl ([.ref o0, .int i1]) ++ List.replicate (2 - (lg_sl ([.ref o0, .int i1])).length) Slot.unset).toArray = ls at hl ⊢
  have hl : lv_has ls 2 [(0, .ref o0), (1, .int i1)] := hl
  have hw0 : ∀ w ∈ u_ws RX7 TX7 25, w ∈ wsX7_degree := by decide +kernel
  have hw1 := hts (.fieldLink RX7 35 "GaloisDeskModel" "refusal" "I") (by decide +kernel)
  have hw2 := hts (.fieldLink RX7 188 "GaloisDeskModel" "degrees" "I") (by decide +kernel)
  have hw3 := hts (.fieldLink RX7 26 "GaloisDeskModel" "pattern" "[I") (by decide +kernel)
  clear hB B
  refine lv_aload_n hx hb dX7_degree_0 rfl (lv_at hl 0 rfl) ?_
  refine lv_iconst (v := 0) hx hb dX7_degree_1 (by decide) ?_
  obtain ⟨hs1, hwp⟩ := hwp
  refine sw_putI (C := RX7) (T := TX7) (N := 25) hx hb hts hw0 tyX7 tyX7_ok nmX7 hown hK hz hs1 rfl 0 (by decide) hw1 (fun _ h9 => h9) rfl (by decide +kernel) rfl dX7_degree_2 (fun H locs I2 e_I2 hz => ?_)
  have hwp := hwp I2 e_I2
  refine lv_iload_n hx hb dX7_degree_5 rfl (lv_at hl 1 rfl) ?_
  refine lv_iconst (v := 0) hx hb dX7_degree_6 (by decide) ?_
  refine lv_aload_n hx hb dX7_degree_7 rfl (lv_at hl 0 rfl) ?_
  refine sw_get (C := RX7) (T := TX7) (N := 25) (v := .int (I2 o0 11)) hx hb hts hw0 hown hK hz hs1 rfl 11 (by decide) hw2 (fun _ h9 => h9) rfl dX7_degree_8 ?_
  refine lv_iconst (v := 1) hx hb dX7_degree_11 (by decide) ?_
  refine lv_isub hx hb dX7_degree_12 ?_
  obtain ⟨P3, hc4, hwp⟩ := hwp
  refine sw_calli hz (va_runS (As := [.int i1, .int 0, .int ((I2 o0 11) - 1)]) (rest := []) ⟨hx, hb, hml, hown, hts⟩ (hc4 hK _) (va_cwS 3 hts gX7_degree_X7_isIn rfl rfl rfl (by decide +kernel) ⟨Nat.le_of_ble_eq_true rfl, Nat.le_of_ble_eq_true rfl⟩) hz.preS rfl rfl hl.1 rfl (lv_room (Nat.le_of_ble_eq_true rfl)) dX7_degree_13 ⟨Nat.le_of_ble_eq_true rfl, Nat.le_of_ble_eq_true rfl⟩) (fun r8 I5 L6 A7 H locs hp hz => ?_)
  have hwp := hwp r8 I5 L6 A7 hp
  refine lv_if_eq (tgt := 28) hx hb dX7_degree_16 (by decide) (fun q => ?_) (fun q => ?_)
  · have hwp := hwp.1 q
    refine lv_iconst (v := 0) hx hb dX7_degree_28 (by decide) ?_
    exact sw_iret hx hb hret hlocks hz hwp dX7_degree_29
  · have hwp := hwp.2 q
    refine lv_aload_n hx hb dX7_degree_19 rfl (lv_at hl 0 rfl) ?_
    refine sw_get (C := RX7) (T := TX7) (N := 25) (v := .ref (o0 + 6)) hx hb hts hw0 hown hK hz hs1 rfl 12 (by decide) hw3 (fun _ h9 => h9) rfl dX7_degree_20 ?_
    refine lv_iload_n hx hb dX7_degree_23 rfl (lv_at hl 1 rfl) ?_
    obtain ⟨ho9, hwp⟩ := hwp
    refine sw_iald hx hb hK hz ho9 dX7_degree_24 ?_
    refine lv_goto (tgt := 29) hx hb dX7_degree_25 (by decide) ?_
    exact sw_iret hx hb hret hlocks hz hwp dX7_degree_29

def wp_X7_derive_36 (K : Cx) (o0 : Nat) (i1 : Int32) (i2 : Int32) (I : TI) (L : TL) (A : TA) (x3 : Int32) (Q : Int32 → TI → TL → TA → Prop) : Prop := ∃ (Inv : Nat → TI → TL → TA → Int32 → Prop) (μ : Nat), Inv μ I L A x3 ∧ ∀ (μ : Nat) (C36 : TI → TL → TA → Int32 → Prop), (∀ (μ' : Nat) (I : TI) (L : TL) (A : TA) (x3 : Int32) , μ' < μ → Inv μ' I L A x3 → C36 I L A x3) → ∀ (I : TI) (L : TL) (A : TA) (x3 : Int32) , Inv μ I L A x3 → ((7 ≤ x3 → cxS K o0 = shX7 o0 ∧ ∃ P2 : Int32 → TI → TL → TA → Prop, ConI K yX7_finish wsX7_finish 1 23 I L A [.ref o0, .int i1] P2 ∧ ∀ (r7 : Int32) (I4 : TI) (L5 : TL) (A6 : TA), P2 r7 I4 L5 A6 → Q r7 I4 L5 A6) ∧ (¬ 7 ≤ x3 → cxS K o0 = shX7 o0 ∧ aok (cxS K) (o0 + 1) 1 ((8 * i2) + x3) ∧ aok (cxS K) (o0 + 1) 1 ((64 + x3) - 1) ∧ ∀ L11 : TL, L11 = u2 L (o0 + 1) (ix ((64 + x3) - 1)) ((Int32.toInt64 x3) * (L (o0 + 1) (ix ((8 * i2) + x3)))) → ∀ v12 : Int32, v12 = x3 + 1 → C36 I L11 A v12))
def wp_X7_derive_20 (K : Cx) (o0 : Nat) (i1 : Int32) (i2 : Int32) (I : TI) (L : TL) (A : TA) (y0 : Int32) (y1 : Nat) (Q : Int32 → TI → TL → TA → Prop) : Prop := cxS K y1 = shX7 y1 ∧ ∃ P14 : Int32 → TI → TL → TA → Prop, ConI K yX7_refused wsX7_refused 0 0 I L A [.ref y1, .int y0] P14 ∧ ∀ (r19 : Int32) (I16 : TI) (L17 : TL) (A18 : TA), P14 r19 I16 L17 A18 → ((r19 = 0 → cxS K o0 = shX7 o0 ∧ ∃ P21 : TI → TL → TA → Prop, ConV K yX7_clear wsX7_clear 0 0 I16 L17 A18 [.ref o0, .int 8] P21 ∧ ∀ (I23 : TI) (L24 : TL) (A25 : TA), P21 I23 L24 A25 → wp_X7_derive_36 K o0 i1 i2 I23 L24 A25 1 Q) ∧ (¬ r19 = 0 → Q 0 I16 L17 A18))
def wp_X7_derive_19 (K : Cx) (o0 : Nat) (i1 : Int32) (i2 : Int32) (I : TI) (L : TL) (A : TA) (y0 : Nat) (Q : Int32 → TI → TL → TA → Prop) : Prop := wp_X7_derive_20 K o0 i1 i2 I L A 1 y0 Q
def wp_X7_derive (K : Cx) (I : TI) (L : TL) (A : TA) (o0 : Nat) (i1 : Int32) (i2 : Int32) (Q : Int32 → TI → TL → TA → Prop) : Prop := ∃ P26 : Int32 → TI → TL → TA → Prop, ConI K yX7_isSlot wsX7_isSlot 0 0 I L A [.int i1] P26 ∧ ∀ (r31 : Int32) (I28 : TI) (L29 : TL) (A30 : TA), P26 r31 I28 L29 A30 → ((r31 = 0 → wp_X7_derive_19 K o0 i1 i2 I28 L29 A30 o0 Q) ∧ (¬ r31 = 0 → ∃ P32 : Int32 → TI → TL → TA → Prop, ConI K yX7_isSlot wsX7_isSlot 0 0 I28 L29 A30 [.int i2] P32 ∧ ∀ (r37 : Int32) (I34 : TI) (L35 : TL) (A36 : TA), P32 r37 I34 L35 A36 → ((r37 = 0 → wp_X7_derive_19 K o0 i1 i2 I34 L35 A36 o0 Q) ∧ (¬ r37 = 0 → wp_X7_derive_20 K o0 i1 i2 I34 L35 A36 0 o0 Q))))
set_option maxHeartbeats 1000000 in
set_option maxRecDepth 100000 in
theorem w_X7_derive (K : Cx) (I : TI) (L : TL) (A : TA) (o0 : Nat) (i1 : Int32) (i2 : Int32) (Q : Int32 → TI → TL → TA → Prop) (hwp : wp_X7_derive K I L A o0 i1 i2 Q) : ConI K yX7_derive wsX7_derive 2 46 I L A [.ref o0, .int i1, .int i2] Q := by
  intro hK sz
  refine Met.ofW (cc := cX7_derive) (maxL := 4) (ret := (some .int)) (by decide) rfl ?_
  intro p e s m args below meth c s₁ B hml hv
  obtain ⟨rfl, hsz, hB⟩ := hv
  have hx := B.exec
  have hb := B.bytes
  have hret := B.returns
  have hts := atoms_spec (ws := wsX7_derive) B.pre
  have hown : s.vm.findClass RX7 = some m.cls := findClass_of_methodNamed B.named
  have hlocks := B.notSynchronized
  subst hsz
  have hz : SS K s I L A s.heap [] := PS.start hB
  have hl := lv_entry ([.ref o0, .int i1, .int i2]) (n := 4) (Nat.le_of_ble_eq_true rfl)
  rw [lg_entry_eq]
  generalize (lg_sl ([.ref o0, .int i1, .int i2]) ++ List.replicate (4 - (lg_sl ([.ref o0, .int i1, .int i2])).length) Slot.unset).toArray = ls at hl ⊢
  have hl : lv_has ls 4 [(0, .ref o0), (1, .int i1), (2, .int i2)] := hl
  have hw0 : ∀ w ∈ u_ws RX7 TX7 25, w ∈ wsX7_derive := by decide +kernel
  have hw1 := hts (.fieldLink RX7 7 "GaloisDeskModel" "row" "[J") (by decide +kernel)
  clear hB B
  have wL36 : ∀ (I : TI) (L : TL) (A : TA) (x3 : Int32) (H : Heap) (locs : List Loc) (ls : Array Slot), wp_X7_derive_36 K o0 i1 i2 I L A x3 Q → SS K s I L A H locs → lv_has ls 4 [(0, .ref o0), (1, .int i1), (2, .int i2), (3, .int x3)] → W p (cxl K) e (headSpec wsX7_derive (rmF 2 46)).room s m ([.ref o0, .int i1, .int i2] : List Value).toArray below meth c H locs 0 0 (MQ below (cxQi K Q) ([.ref o0, .int i1, .int i2] : List Value).toArray s 0 0 (PA (cxb K))) (F0 m 36 ls []) := by
    intro I L A x3 H locs ls hwp hz hl
    obtain ⟨Inv, μ, hi, hst⟩ := hwp
    have key : ∀ (μ : Nat) (I : TI) (L : TL) (A : TA) (x3 : Int32) (H : Heap) (locs : List Loc) (ls : Array Slot), Inv μ I L A x3 → SS K s I L A H locs → lv_has ls 4 [(0, .ref o0), (1, .int i1), (2, .int i2), (3, .int x3)] → W p (cxl K) e (headSpec wsX7_derive (rmF 2 46)).room s m ([.ref o0, .int i1, .int i2] : List Value).toArray below meth c H locs 0 0 (MQ below (cxQi K Q) ([.ref o0, .int i1, .int i2] : List Value).toArray s 0 0 (PA (cxb K))) (F0 m 36 ls []) := by
      clear hi hz hl
      intro μ
      induction μ using Nat.strongRecOn with | ind μ ih => ?_
      intro I L A x3 H locs ls hi hz hl
      obtain ⟨C36, hCd⟩ : ∃ C : TI → TL → TA → Int32 → Prop, C = fun I L A x3 => ∃ μ', μ' < μ ∧ Inv μ' I L A x3 := ⟨_, rfl⟩
      have hC36 : ∀ (I : TI) (L : TL) (A : TA) (x3 : Int32) (H : Heap) (locs : List Loc) (ls : Array Slot), C36 I L A x3 → SS K s I L A H locs → lv_has ls 4 [(0, .ref o0), (1, .int i1), (2, .int i2), (3, .int x3)] → W p (cxl K) e (headSpec wsX7_derive (rmF 2 46)).room s m ([.ref o0, .int i1, .int i2] : List Value).toArray below meth c H locs 0 0 (MQ below (cxQi K Q) ([.ref o0, .int i1, .int i2] : List Value).toArray s 0 0 (PA (cxb K))) (F0 m 36 ls []) := by
        intro I L A x3 H locs ls hc hz hl
        rw [hCd] at hc
        obtain ⟨μ', hlt, hc⟩ := hc
        exact ih μ' hlt I L A x3 H locs ls hc hz hl
      have hwp := hst μ C36 (fun μ' I L A x3 hlt hc => by rw [hCd]; exact ⟨μ', hlt, hc⟩) I L A x3 hi
      refine lv_iload_n hx hb dX7_derive_36 rfl (lv_at hl 3 rfl) ?_
      refine lv_bipush (v := 7) hx hb dX7_derive_37 (by decide) ?_
      refine lv_icmp_ge (tgt := 73) hx hb dX7_derive_39 (by decide) (fun q => ?_) (fun q => ?_)
      · have hwp := hwp.1 q
        refine lv_aload_n hx hb dX7_derive_73 rfl (lv_at hl 0 rfl) ?_
        refine lv_iload_n hx hb dX7_derive_74 rfl (lv_at hl 1 rfl) ?_
        obtain ⟨hs1, hwp⟩ := hwp
        obtain ⟨P2, hc3, hwp⟩ := hwp
        refine sw_calli hz (va_runV (As := [.int i1]) (rest := []) ⟨hx, hb, hml, hown, hts⟩ (hc3 hK _) (cwV 1 hts gX7_derive_X7_finish rfl rfl rfl (by decide +kernel) ⟨Nat.le_of_ble_eq_true rfl, Nat.le_of_ble_eq_true rfl⟩) (hz.preV hK hs1 rfl) rfl rfl hl.1 rfl (lv_room (Nat.le_of_ble_eq_true rfl)) dX7_derive_75 ⟨Nat.le_of_ble_eq_true rfl, Nat.le_of_ble_eq_true rfl⟩) (fun r7 I4 L5 A6 H locs hp hz => ?_)
        have hwp := hwp r7 I4 L5 A6 hp
        exact sw_iret hx hb hret hlocks hz hwp dX7_derive_78
      · have hwp := hwp.2 q
        refine lv_aload_n hx hb dX7_derive_42 rfl (lv_at hl 0 rfl) ?_
        obtain ⟨hs8, hwp⟩ := hwp
        refine sw_get (C := RX7) (T := TX7) (N := 25) (v := .ref (o0 + 1)) hx hb hts hw0 hown hK hz hs8 rfl 1 (by decide) hw1 (fun _ h9 => h9) rfl dX7_derive_43 ?_
        refine lv_bipush (v := 64) hx hb dX7_derive_46 (by decide) ?_
        refine lv_iload_n hx hb dX7_derive_48 rfl (lv_at hl 3 rfl) ?_
        refine lv_iadd hx hb dX7_derive_49 ?_
        refine lv_iconst (v := 1) hx hb dX7_derive_50 (by decide) ?_
        refine lv_isub hx hb dX7_derive_51 ?_
        refine lv_iload_n hx hb dX7_derive_52 rfl (lv_at hl 3 rfl) ?_
        refine lv_i2l hx hb dX7_derive_53 rfl ?_
        refine lv_aload_n hx hb dX7_derive_54 rfl (lv_at hl 0 rfl) ?_
        refine sw_get (C := RX7) (T := TX7) (N := 25) (v := .ref (o0 + 1)) hx hb hts hw0 hown hK hz hs8 rfl 1 (by decide) hw1 (fun _ h9 => h9) rfl dX7_derive_55 ?_
        refine lv_bipush (v := 8) hx hb dX7_derive_58 (by decide) ?_
        refine lv_iload_n hx hb dX7_derive_60 rfl (lv_at hl 2 rfl) ?_
        refine lv_imul hx hb dX7_derive_61 ?_
        refine lv_iload_n hx hb dX7_derive_62 rfl (lv_at hl 3 rfl) ?_
        refine lv_iadd hx hb dX7_derive_63 ?_
        obtain ⟨ho9, hwp⟩ := hwp
        refine sw_lald hx hb hK hz ho9 dX7_derive_64 ?_
        refine lv_lmul hx hb dX7_derive_65 ?_
        obtain ⟨ho10, hwp⟩ := hwp
        refine sw_last hx hb hK hz ho10 dX7_derive_66 (fun H locs L11 e_L11 hz => ?_)
        have hwp := hwp L11 e_L11
        obtain ⟨v12, q_v12⟩ : ∃ y : Int32, y = x3 + 1 := ⟨_, rfl⟩
        have hwp := hwp v12 q_v12
        refine lv_iinc (v := v12) (lv' := [(3, .int v12), (0, .ref o0), (1, .int i1), (2, .int i2)]) hx hb dX7_derive_67 hl (k := 3) rfl (by rw [q_v12]; rfl) (by decide) rfl (fun ls hl => ?_)
        refine lv_goto (tgt := 36) hx hb dX7_derive_70 (by decide) ?_
        exact hC36 _ _ _ _ _ _ _ hwp hz (lv_sub hl [1, 2, 3, 0] rfl)
    exact key μ I L A x3 H locs ls hi hz hl
  have wL20 : ∀ (I : TI) (L : TL) (A : TA) (y0 : Int32) (y1 : Nat) (H : Heap) (locs : List Loc) (ls : Array Slot), wp_X7_derive_20 K o0 i1 i2 I L A y0 y1 Q → SS K s I L A H locs → lv_has ls 4 [(0, .ref o0), (1, .int i1), (2, .int i2)] → W p (cxl K) e (headSpec wsX7_derive (rmF 2 46)).room s m ([.ref o0, .int i1, .int i2] : List Value).toArray below meth c H locs 0 0 (MQ below (cxQi K Q) ([.ref o0, .int i1, .int i2] : List Value).toArray s 0 0 (PA (cxb K))) (F0 m 20 ls [.int y0, .ref y1]) := by
    intro I L A y0 y1 H locs ls hwp hz hl
    obtain ⟨hs13, hwp⟩ := hwp
    obtain ⟨P14, hc15, hwp⟩ := hwp
    refine sw_calli hz (va_runV (As := [.int y0]) (rest := []) ⟨hx, hb, hml, hown, hts⟩ (hc15 hK _) (cwV 1 hts gX7_derive_X7_refused rfl rfl rfl (by decide +kernel) ⟨Nat.le_of_ble_eq_true rfl, Nat.le_of_ble_eq_true rfl⟩) (hz.preV hK hs13 rfl) rfl rfl hl.1 rfl (lv_room (Nat.le_of_ble_eq_true rfl)) dX7_derive_20 ⟨Nat.le_of_ble_eq_true rfl, Nat.le_of_ble_eq_true rfl⟩) (fun r19 I16 L17 A18 H locs hp hz => ?_)
    have hwp := hwp r19 I16 L17 A18 hp
    refine lv_if_eq (tgt := 28) hx hb dX7_derive_23 (by decide) (fun q => ?_) (fun q => ?_)
    · have hwp := hwp.1 q
      refine lv_aload_n hx hb dX7_derive_28 rfl (lv_at hl 0 rfl) ?_
      refine lv_bipush (v := 8) hx hb dX7_derive_29 (by decide) ?_
      obtain ⟨hs20, hwp⟩ := hwp
      obtain ⟨P21, hc22, hwp⟩ := hwp
      refine sw_callv hz (va_runV (As := [.int 8]) (rest := []) ⟨hx, hb, hml, hown, hts⟩ (hc22 hK _) (cwV 1 hts gX7_derive_X7_clear rfl rfl rfl (by decide +kernel) ⟨Nat.le_of_ble_eq_true rfl, Nat.le_of_ble_eq_true rfl⟩) (hz.preV hK hs20 rfl) rfl rfl hl.1 rfl (lv_room (Nat.le_of_ble_eq_true rfl)) dX7_derive_31 ⟨Nat.le_of_ble_eq_true rfl, Nat.le_of_ble_eq_true rfl⟩) (fun I23 L24 A25 H locs hp hz => ?_)
      have hwp := hwp I23 L24 A25 hp
      refine lv_iconst (v := 1) hx hb dX7_derive_34 (by decide) ?_
      refine lv_istore_n (lv' := [(3, .int 1), (0, .ref o0), (1, .int i1), (2, .int i2)]) hx hb dX7_derive_35 rfl hl (by decide) rfl (fun ls hl => ?_)
      exact wL36 _ _ _ _ _ _ _ hwp hz (lv_sub hl [1, 2, 3, 0] rfl)
    · have hwp := hwp.2 q
      refine lv_iconst (v := 0) hx hb dX7_derive_26 (by decide) ?_
      exact sw_iret hx hb hret hlocks hz hwp dX7_derive_27
  have wL19 : ∀ (I : TI) (L : TL) (A : TA) (y0 : Nat) (H : Heap) (locs : List Loc) (ls : Array Slot), wp_X7_derive_19 K o0 i1 i2 I L A y0 Q → SS K s I L A H locs → lv_has ls 4 [(0, .ref o0), (1, .int i1), (2, .int i2)] → W p (cxl K) e (headSpec wsX7_derive (rmF 2 46)).room s m ([.ref o0, .int i1, .int i2] : List Value).toArray below meth c H locs 0 0 (MQ below (cxQi K Q) ([.ref o0, .int i1, .int i2] : List Value).toArray s 0 0 (PA (cxb K))) (F0 m 19 ls [.ref y0]) := by
    intro I L A y0 H locs ls hwp hz hl
    refine lv_iconst (v := 1) hx hb dX7_derive_19 (by decide) ?_
    exact wL20 _ _ _ _ _ _ _ _ hwp hz (lv_sub hl [0, 1, 2] rfl)
  refine lv_aload_n hx hb dX7_derive_0 rfl (lv_at hl 0 rfl) ?_
  refine lv_iload_n hx hb dX7_derive_1 rfl (lv_at hl 1 rfl) ?_
  obtain ⟨P26, hc27, hwp⟩ := hwp
  refine sw_calli hz (va_runS (As := [.int i1]) (rest := [.ref o0]) ⟨hx, hb, hml, hown, hts⟩ (hc27 hK _) (va_cwS 1 hts gX7_derive_X7_isSlot rfl rfl rfl (by decide +kernel) ⟨Nat.le_of_ble_eq_true rfl, Nat.le_of_ble_eq_true rfl⟩) hz.preS rfl rfl hl.1 rfl (lv_room (Nat.le_of_ble_eq_true rfl)) dX7_derive_2 ⟨Nat.le_of_ble_eq_true rfl, Nat.le_of_ble_eq_true rfl⟩) (fun r31 I28 L29 A30 H locs hp hz => ?_)
  have hwp := hwp r31 I28 L29 A30 hp
  refine lv_if_eq (tgt := 19) hx hb dX7_derive_5 (by decide) (fun q => ?_) (fun q => ?_)
  · have hwp := hwp.1 q
    exact wL19 _ _ _ _ _ _ _ hwp hz (lv_sub hl [0, 1, 2] rfl)
  · have hwp := hwp.2 q
    refine lv_iload_n hx hb dX7_derive_8 rfl (lv_at hl 2 rfl) ?_
    obtain ⟨P32, hc33, hwp⟩ := hwp
    refine sw_calli hz (va_runS (As := [.int i2]) (rest := [.ref o0]) ⟨hx, hb, hml, hown, hts⟩ (hc33 hK _) (va_cwS 1 hts gX7_derive_X7_isSlot rfl rfl rfl (by decide +kernel) ⟨Nat.le_of_ble_eq_true rfl, Nat.le_of_ble_eq_true rfl⟩) hz.preS rfl rfl hl.1 rfl (lv_room (Nat.le_of_ble_eq_true rfl)) dX7_derive_9 ⟨Nat.le_of_ble_eq_true rfl, Nat.le_of_ble_eq_true rfl⟩) (fun r37 I34 L35 A36 H locs hp hz => ?_)
    have hwp := hwp r37 I34 L35 A36 hp
    refine lv_if_eq (tgt := 19) hx hb dX7_derive_12 (by decide) (fun q => ?_) (fun q => ?_)
    · have hwp := hwp.1 q
      exact wL19 _ _ _ _ _ _ _ hwp hz (lv_sub hl [0, 1, 2] rfl)
    · have hwp := hwp.2 q
      refine lv_iconst (v := 0) hx hb dX7_derive_15 (by decide) ?_
      refine lv_goto (tgt := 20) hx hb dX7_derive_16 (by decide) ?_
      exact wL20 _ _ _ _ _ _ _ _ hwp hz (lv_sub hl [0, 1, 2] rfl)

def wp_X7_divide_27 (K : Cx) (o0 : Nat) (i1 : Int32) (i2 : Int32) (i3 : Int32) (I : TI) (L : TL) (A : TA) (y0 : Int32) (y1 : Nat) (Q : Int32 → TI → TL → TA → Prop) : Prop := cxS K y1 = shX7 y1 ∧ ∃ P2 : Int32 → TI → TL → TA → Prop, ConI K yX7_refused wsX7_refused 0 0 I L A [.ref y1, .int y0] P2 ∧ ∀ (r7 : Int32) (I4 : TI) (L5 : TL) (A6 : TA), P2 r7 I4 L5 A6 → ((r7 = 0 → cxS K o0 = shX7 o0 ∧ ∃ P9 : Int32 → TI → TL → TA → Prop, ConI K yX7_isZero wsX7_isZero 1 22 I4 L5 A6 [.ref o0, .int i3] P9 ∧ ∀ (r14 : Int32) (I11 : TI) (L12 : TL) (A13 : TA), P9 r14 I11 L12 A13 → ((r14 = 0 → ∃ P15 : Int32 → TI → TL → TA → Prop, ConI K yX7_divides wsX7_divides 2 43 I11 L12 A13 [.ref o0, .int i3, .int i2] P15 ∧ ∀ (r20 : Int32) (I17 : TI) (L18 : TL) (A19 : TA), P15 r20 I17 L18 A19 → ((r20 = 0 → Q (-1) I17 L18 A19) ∧ (¬ r20 = 0 → ∃ P21 : TI → TL → TA → Prop, ConV K yX7_copy wsX7_copy 0 0 I17 L18 A19 [.ref o0, .int 8, .int 11] P21 ∧ ∀ (I23 : TI) (L24 : TL) (A25 : TA), P21 I23 L24 A25 → ∃ P26 : Int32 → TI → TL → TA → Prop, ConI K yX7_finish wsX7_finish 1 23 I23 L24 A25 [.ref o0, .int i1] P26 ∧ ∀ (r31 : Int32) (I28 : TI) (L29 : TL) (A30 : TA), P26 r31 I28 L29 A30 → Q r31 I28 L29 A30))) ∧ (¬ r14 = 0 → Q (-3) I11 L12 A13))) ∧ (¬ r7 = 0 → Q 0 I4 L5 A6))
def wp_X7_divide_26 (K : Cx) (o0 : Nat) (i1 : Int32) (i2 : Int32) (i3 : Int32) (I : TI) (L : TL) (A : TA) (y0 : Nat) (Q : Int32 → TI → TL → TA → Prop) : Prop := wp_X7_divide_27 K o0 i1 i2 i3 I L A 1 y0 Q
def wp_X7_divide (K : Cx) (I : TI) (L : TL) (A : TA) (o0 : Nat) (i1 : Int32) (i2 : Int32) (i3 : Int32) (Q : Int32 → TI → TL → TA → Prop) : Prop := ∃ P32 : Int32 → TI → TL → TA → Prop, ConI K yX7_isSlot wsX7_isSlot 0 0 I L A [.int i1] P32 ∧ ∀ (r37 : Int32) (I34 : TI) (L35 : TL) (A36 : TA), P32 r37 I34 L35 A36 → ((r37 = 0 → wp_X7_divide_26 K o0 i1 i2 i3 I34 L35 A36 o0 Q) ∧ (¬ r37 = 0 → ∃ P38 : Int32 → TI → TL → TA → Prop, ConI K yX7_isSlot wsX7_isSlot 0 0 I34 L35 A36 [.int i2] P38 ∧ ∀ (r43 : Int32) (I40 : TI) (L41 : TL) (A42 : TA), P38 r43 I40 L41 A42 → ((r43 = 0 → wp_X7_divide_26 K o0 i1 i2 i3 I40 L41 A42 o0 Q) ∧ (¬ r43 = 0 → ∃ P44 : Int32 → TI → TL → TA → Prop, ConI K yX7_isSlot wsX7_isSlot 0 0 I40 L41 A42 [.int i3] P44 ∧ ∀ (r49 : Int32) (I46 : TI) (L47 : TL) (A48 : TA), P44 r49 I46 L47 A48 → ((r49 = 0 → wp_X7_divide_26 K o0 i1 i2 i3 I46 L47 A48 o0 Q) ∧ (¬ r49 = 0 → wp_X7_divide_27 K o0 i1 i2 i3 I46 L47 A48 0 o0 Q))))))
set_option maxHeartbeats 1000000 in
set_option maxRecDepth 100000 in
theorem w_X7_divide (K : Cx) (I : TI) (L : TL) (A : TA) (o0 : Nat) (i1 : Int32) (i2 : Int32) (i3 : Int32) (Q : Int32 → TI → TL → TA → Prop) (hwp : wp_X7_divide K I L A o0 i1 i2 i3 Q) : ConI K yX7_divide wsX7_divide 3 74 I L A [.ref o0, .int i1, .int i2, .int i3] Q := by
  intro hK sz
  refine Met.ofW (cc := cX7_divide) (maxL := 4) (ret := (some .int)) (by decide) rfl ?_
  intro p e s m args below meth c s₁ B hml hv
  obtain ⟨rfl, hsz, hB⟩ := hv
  have hx := B.exec
  have hb := B.bytes
  have hret := B.returns
  have hts := atoms_spec (ws := wsX7_divide) B.pre
  have hown : s.vm.findClass RX7 = some m.cls := findClass_of_methodNamed B.named
  have hlocks := B.notSynchronized
  subst hsz
  have hz : SS K s I L A s.heap [] := PS.start hB
  have hl := lv_entry ([.ref o0, .int i1, .int i2, .int i3]) (n := 4) (Nat.le_of_ble_eq_true rfl)
  rw [lg_entry_eq]
  generalize (lg_sl ([.ref o0, .int i1, .int i2, .int i3]) ++ List.replicate (4 - (lg_sl ([.ref o0, .int i1, .int i2, .int i3])).length) Slot.unset).toArray = ls at hl ⊢
  have hl : lv_has ls 4 [(0, .ref o0), (1, .int i1), (2, .int i2), (3, .int i3)] := hl
  clear hB B
  have wL27 : ∀ (I : TI) (L : TL) (A : TA) (y0 : Int32) (y1 : Nat) (H : Heap) (locs : List Loc) (ls : Array Slot), wp_X7_divide_27 K o0 i1 i2 i3 I L A y0 y1 Q → SS K s I L A H locs → lv_has ls 4 [(0, .ref o0), (1, .int i1), (2, .int i2), (3, .int i3)] → W p (cxl K) e (headSpec wsX7_divide (rmF 3 74)).room s m ([.ref o0, .int i1, .int i2, .int i3] : List Value).toArray below meth c H locs 0 0 (MQ below (cxQi K Q) ([.ref o0, .int i1, .int i2, .int i3] : List Value).toArray s 0 0 (PA (cxb K))) (F0 m 27 ls [.int y0, .ref y1]) := by
    intro I L A y0 y1 H locs ls hwp hz hl
    obtain ⟨hs1, hwp⟩ := hwp
    obtain ⟨P2, hc3, hwp⟩ := hwp
    refine sw_calli hz (va_runV (As := [.int y0]) (rest := []) ⟨hx, hb, hml, hown, hts⟩ (hc3 hK _) (cwV 1 hts gX7_divide_X7_refused rfl rfl rfl (by decide +kernel) ⟨Nat.le_of_ble_eq_true rfl, Nat.le_of_ble_eq_true rfl⟩) (hz.preV hK hs1 rfl) rfl rfl hl.1 rfl (lv_room (Nat.le_of_ble_eq_true rfl)) dX7_divide_27 ⟨Nat.le_of_ble_eq_true rfl, Nat.le_of_ble_eq_true rfl⟩) (fun r7 I4 L5 A6 H locs hp hz => ?_)
    have hwp := hwp r7 I4 L5 A6 hp
    refine lv_if_eq (tgt := 35) hx hb dX7_divide_30 (by decide) (fun q => ?_) (fun q => ?_)
    · have hwp := hwp.1 q
      refine lv_aload_n hx hb dX7_divide_35 rfl (lv_at hl 0 rfl) ?_
      refine lv_iload_n hx hb dX7_divide_36 rfl (lv_at hl 3 rfl) ?_
      obtain ⟨hs8, hwp⟩ := hwp
      obtain ⟨P9, hc10, hwp⟩ := hwp
      refine sw_calli hz (va_runV (As := [.int i3]) (rest := []) ⟨hx, hb, hml, hown, hts⟩ (hc10 hK _) (cwV 1 hts gX7_divide_X7_isZero rfl rfl rfl (by decide +kernel) ⟨Nat.le_of_ble_eq_true rfl, Nat.le_of_ble_eq_true rfl⟩) (hz.preV hK hs8 rfl) rfl rfl hl.1 rfl (lv_room (Nat.le_of_ble_eq_true rfl)) dX7_divide_37 ⟨Nat.le_of_ble_eq_true rfl, Nat.le_of_ble_eq_true rfl⟩) (fun r14 I11 L12 A13 H locs hp hz => ?_)
      have hwp := hwp r14 I11 L12 A13 hp
      refine lv_if_eq (tgt := 46) hx hb dX7_divide_40 (by decide) (fun q => ?_) (fun q => ?_)
      · have hwp := hwp.1 q
        refine lv_aload_n hx hb dX7_divide_46 rfl (lv_at hl 0 rfl) ?_
        refine lv_iload_n hx hb dX7_divide_47 rfl (lv_at hl 3 rfl) ?_
        refine lv_iload_n hx hb dX7_divide_48 rfl (lv_at hl 2 rfl) ?_
        obtain ⟨P15, hc16, hwp⟩ := hwp
        refine sw_calli hz (va_runV (As := [.int i3, .int i2]) (rest := []) ⟨hx, hb, hml, hown, hts⟩ (hc16 hK _) (cwV 2 hts gX7_divide_X7_divides rfl rfl rfl (by decide +kernel) ⟨Nat.le_of_ble_eq_true rfl, Nat.le_of_ble_eq_true rfl⟩) (hz.preV hK hs8 rfl) rfl rfl hl.1 rfl (lv_room (Nat.le_of_ble_eq_true rfl)) dX7_divide_49 ⟨Nat.le_of_ble_eq_true rfl, Nat.le_of_ble_eq_true rfl⟩) (fun r20 I17 L18 A19 H locs hp hz => ?_)
        have hwp := hwp r20 I17 L18 A19 hp
        refine lv_if_ne (tgt := 57) hx hb dX7_divide_52 (by decide) (fun q => ?_) (fun q => ?_)
        · have hwp := hwp.2 q
          refine lv_aload_n hx hb dX7_divide_57 rfl (lv_at hl 0 rfl) ?_
          refine lv_bipush (v := 8) hx hb dX7_divide_58 (by decide) ?_
          refine lv_bipush (v := 11) hx hb dX7_divide_60 (by decide) ?_
          obtain ⟨P21, hc22, hwp⟩ := hwp
          refine sw_callv hz (va_runV (As := [.int 8, .int 11]) (rest := []) ⟨hx, hb, hml, hown, hts⟩ (hc22 hK _) (cwV 2 hts gX7_divide_X7_copy rfl rfl rfl (by decide +kernel) ⟨Nat.le_of_ble_eq_true rfl, Nat.le_of_ble_eq_true rfl⟩) (hz.preV hK hs8 rfl) rfl rfl hl.1 rfl (lv_room (Nat.le_of_ble_eq_true rfl)) dX7_divide_62 ⟨Nat.le_of_ble_eq_true rfl, Nat.le_of_ble_eq_true rfl⟩) (fun I23 L24 A25 H locs hp hz => ?_)
          have hwp := hwp I23 L24 A25 hp
          refine lv_aload_n hx hb dX7_divide_65 rfl (lv_at hl 0 rfl) ?_
          refine lv_iload_n hx hb dX7_divide_66 rfl (lv_at hl 1 rfl) ?_
          obtain ⟨P26, hc27, hwp⟩ := hwp
          refine sw_calli hz (va_runV (As := [.int i1]) (rest := []) ⟨hx, hb, hml, hown, hts⟩ (hc27 hK _) (cwV 1 hts gX7_divide_X7_finish rfl rfl rfl (by decide +kernel) ⟨Nat.le_of_ble_eq_true rfl, Nat.le_of_ble_eq_true rfl⟩) (hz.preV hK hs8 rfl) rfl rfl hl.1 rfl (lv_room (Nat.le_of_ble_eq_true rfl)) dX7_divide_67 ⟨Nat.le_of_ble_eq_true rfl, Nat.le_of_ble_eq_true rfl⟩) (fun r31 I28 L29 A30 H locs hp hz => ?_)
          have hwp := hwp r31 I28 L29 A30 hp
          exact sw_iret hx hb hret hlocks hz hwp dX7_divide_70
        · have hwp := hwp.1 q
          refine lv_iconst (v := (-1)) hx hb dX7_divide_55 (by decide) ?_
          exact sw_iret hx hb hret hlocks hz hwp dX7_divide_56
      · have hwp := hwp.2 q
        refine lv_bipush (v := (-3)) hx hb dX7_divide_43 (by decide) ?_
        exact sw_iret hx hb hret hlocks hz hwp dX7_divide_45
    · have hwp := hwp.2 q
      refine lv_iconst (v := 0) hx hb dX7_divide_33 (by decide) ?_
      exact sw_iret hx hb hret hlocks hz hwp dX7_divide_34
  have wL26 : ∀ (I : TI) (L : TL) (A : TA) (y0 : Nat) (H : Heap) (locs : List Loc) (ls : Array Slot), wp_X7_divide_26 K o0 i1 i2 i3 I L A y0 Q → SS K s I L A H locs → lv_has ls 4 [(0, .ref o0), (1, .int i1), (2, .int i2), (3, .int i3)] → W p (cxl K) e (headSpec wsX7_divide (rmF 3 74)).room s m ([.ref o0, .int i1, .int i2, .int i3] : List Value).toArray below meth c H locs 0 0 (MQ below (cxQi K Q) ([.ref o0, .int i1, .int i2, .int i3] : List Value).toArray s 0 0 (PA (cxb K))) (F0 m 26 ls [.ref y0]) := by
    intro I L A y0 H locs ls hwp hz hl
    refine lv_iconst (v := 1) hx hb dX7_divide_26 (by decide) ?_
    exact wL27 _ _ _ _ _ _ _ _ hwp hz (lv_sub hl [0, 1, 2, 3] rfl)
  refine lv_aload_n hx hb dX7_divide_0 rfl (lv_at hl 0 rfl) ?_
  refine lv_iload_n hx hb dX7_divide_1 rfl (lv_at hl 1 rfl) ?_
  obtain ⟨P32, hc33, hwp⟩ := hwp
  refine sw_calli hz (va_runS (As := [.int i1]) (rest := [.ref o0]) ⟨hx, hb, hml, hown, hts⟩ (hc33 hK _) (va_cwS 1 hts gX7_divide_X7_isSlot rfl rfl rfl (by decide +kernel) ⟨Nat.le_of_ble_eq_true rfl, Nat.le_of_ble_eq_true rfl⟩) hz.preS rfl rfl hl.1 rfl (lv_room (Nat.le_of_ble_eq_true rfl)) dX7_divide_2 ⟨Nat.le_of_ble_eq_true rfl, Nat.le_of_ble_eq_true rfl⟩) (fun r37 I34 L35 A36 H locs hp hz => ?_)
  have hwp := hwp r37 I34 L35 A36 hp
  refine lv_if_eq (tgt := 26) hx hb dX7_divide_5 (by decide) (fun q => ?_) (fun q => ?_)
  · have hwp := hwp.1 q
    exact wL26 _ _ _ _ _ _ _ hwp hz (lv_sub hl [0, 1, 2, 3] rfl)
  · have hwp := hwp.2 q
    refine lv_iload_n hx hb dX7_divide_8 rfl (lv_at hl 2 rfl) ?_
    obtain ⟨P38, hc39, hwp⟩ := hwp
    refine sw_calli hz (va_runS (As := [.int i2]) (rest := [.ref o0]) ⟨hx, hb, hml, hown, hts⟩ (hc39 hK _) (va_cwS 1 hts gX7_divide_X7_isSlot rfl rfl rfl (by decide +kernel) ⟨Nat.le_of_ble_eq_true rfl, Nat.le_of_ble_eq_true rfl⟩) hz.preS rfl rfl hl.1 rfl (lv_room (Nat.le_of_ble_eq_true rfl)) dX7_divide_9 ⟨Nat.le_of_ble_eq_true rfl, Nat.le_of_ble_eq_true rfl⟩) (fun r43 I40 L41 A42 H locs hp hz => ?_)
    have hwp := hwp r43 I40 L41 A42 hp
    refine lv_if_eq (tgt := 26) hx hb dX7_divide_12 (by decide) (fun q => ?_) (fun q => ?_)
    · have hwp := hwp.1 q
      exact wL26 _ _ _ _ _ _ _ hwp hz (lv_sub hl [0, 1, 2, 3] rfl)
    · have hwp := hwp.2 q
      refine lv_iload_n hx hb dX7_divide_15 rfl (lv_at hl 3 rfl) ?_
      obtain ⟨P44, hc45, hwp⟩ := hwp
      refine sw_calli hz (va_runS (As := [.int i3]) (rest := [.ref o0]) ⟨hx, hb, hml, hown, hts⟩ (hc45 hK _) (va_cwS 1 hts gX7_divide_X7_isSlot rfl rfl rfl (by decide +kernel) ⟨Nat.le_of_ble_eq_true rfl, Nat.le_of_ble_eq_true rfl⟩) hz.preS rfl rfl hl.1 rfl (lv_room (Nat.le_of_ble_eq_true rfl)) dX7_divide_16 ⟨Nat.le_of_ble_eq_true rfl, Nat.le_of_ble_eq_true rfl⟩) (fun r49 I46 L47 A48 H locs hp hz => ?_)
      have hwp := hwp r49 I46 L47 A48 hp
      refine lv_if_eq (tgt := 26) hx hb dX7_divide_19 (by decide) (fun q => ?_) (fun q => ?_)
      · have hwp := hwp.1 q
        exact wL26 _ _ _ _ _ _ _ hwp hz (lv_sub hl [0, 1, 2, 3] rfl)
      · have hwp := hwp.2 q
        refine lv_iconst (v := 0) hx hb dX7_divide_22 (by decide) ?_
        refine lv_goto (tgt := 27) hx hb dX7_divide_23 (by decide) ?_
        exact wL27 _ _ _ _ _ _ _ _ hwp hz (lv_sub hl [0, 1, 2, 3] rfl)

def wp_X7_look_104 (K : Cx) (o0 : Nat) (j1 : Int64) (j3 : Int64) (i5 : Int32) (I : TI) (L : TL) (A : TA) (x6 : Int64) (Q : TI → TL → TA → Prop) : Prop := cxS K o0 = shX7 o0 ∧ ∀ I2 : TI, I2 = u2 I o0 23 ((I o0 23) + 1) → ∀ L3 : TL, L3 = u2 L o0 24 x6 → Q I2 L3 A
def wp_X7_look_13 (K : Cx) (o0 : Nat) (j1 : Int64) (j3 : Int64) (i5 : Int32) (I : TI) (L : TL) (A : TA) (x6 : Int64) (x8 : Int64) (Q : TI → TL → TA → Prop) : Prop := ∃ (Inv : Nat → TI → TL → TA → Int64 → Int64 → Prop) (μ : Nat), Inv μ I L A x6 x8 ∧ ∀ (μ : Nat) (C13 : TI → TL → TA → Int64 → Int64 → Prop), (∀ (μ' : Nat) (I : TI) (L : TL) (A : TA) (x6 : Int64) (x8 : Int64) , μ' < μ → Inv μ' I L A x6 x8 → C13 I L A x6 x8) → ∀ (I : TI) (L : TL) (A : TA) (x6 : Int64) (x8 : Int64) , Inv μ I L A x6 x8 → ((x8 ≤ x6 → cxS K o0 = shX7 o0 ∧ ∃ P5 : Int64 → TI → TL → TA → Prop, ConL K yX7_cubeAt wsX7_cubeAt 0 0 I L A [.ref o0, .long x6] P5 ∧ ∀ (r10 : Int64) (I7 : TI) (L8 : TL) (A9 : TA), P5 r10 I7 L8 A9 → ((r10 = 0 → (((I7 o0 23) = 0 → wp_X7_look_104 K o0 j1 j3 i5 I7 L8 A9 x6 Q) ∧ (¬ (I7 o0 23) = 0 → (((L8 o0 24) = x6 → Q I7 L8 A9) ∧ (¬ (L8 o0 24) = x6 → wp_X7_look_104 K o0 j1 j3 i5 I7 L8 A9 x6 Q))))) ∧ (¬ r10 = 0 → Q I7 L8 A9))) ∧ (¬ x8 ≤ x6 → ∀ v11 : Int64, v11 = ((x6 + x8) >>> (Int32.toInt64 1 &&& 63)) → cxS K o0 = shX7 o0 ∧ ∃ P13 : Int64 → TI → TL → TA → Prop, ConL K yX7_cubeAt wsX7_cubeAt 0 0 I L A [.ref o0, .long v11] P13 ∧ ∀ (r18 : Int64) (I15 : TI) (L16 : TL) (A17 : TA), P13 r18 I15 L16 A17 → ((i5 = 0 → ((0 < r18 → ∀ v19 : Int64, v19 = (v11 + 1) → C13 I15 L16 A17 v19 x8) ∧ (¬ 0 < r18 → C13 I15 L16 A17 x6 v11))) ∧ (¬ i5 = 0 → ((r18 < 0 → ∀ v20 : Int64, v20 = (v11 + 1) → C13 I15 L16 A17 v20 x8) ∧ (¬ r18 < 0 → C13 I15 L16 A17 x6 v11))))))
def wp_X7_look (K : Cx) (I : TI) (L : TL) (A : TA) (o0 : Nat) (j1 : Int64) (j3 : Int64) (i5 : Int32) (Q : TI → TL → TA → Prop) : Prop := ((j1 ≤ j3 → wp_X7_look_13 K o0 j1 j3 i5 I L A j1 j3 Q) ∧ (¬ j1 ≤ j3 → Q I L A))
set_option maxHeartbeats 1000000 in
set_option maxRecDepth 100000 in
theorem w_X7_look (K : Cx) (I : TI) (L : TL) (A : TA) (o0 : Nat) (j1 : Int64) (j3 : Int64) (i5 : Int32) (Q : TI → TL → TA → Prop) (hwp : wp_X7_look K I L A o0 j1 j3 i5 Q) : ConV K yX7_look wsX7_look 1 22 I L A [.ref o0, .long j1, .long j3, .int i5] Q := by
  intro hK sz
  refine Met.ofW (cc := cX7_look) (maxL := 14) (ret := none) (by decide) rfl ?_
  intro p e s m args below meth c s₁ B hml hv
  obtain ⟨rfl, hsz, hB⟩ := hv
  have hx := B.exec
  have hb := B.bytes
  have hret := B.returns
  have hts := atoms_spec (ws := wsX7_look) B.pre
  have hown : s.vm.findClass RX7 = some m.cls := findClass_of_methodNamed B.named
  have hlocks := B.notSynchronized
  subst hsz
  have hz : SS K s I L A s.heap [] := PS.start hB
  have hl := lv_entry ([.ref o0, .long j1, .long j3, .int i5]) (n := 14) (Nat.le_of_ble_eq_true rfl)
  rw [lg_entry_eq]
  generalize (lg_sl ([.ref o0, .long j1, .long j3, .int i5]) ++ List.replicate (14 - (lg_sl ([.ref o0, .long j1, .long j3, .int i5])).length) Slot.unset).toArray = ls at hl ⊢
  have hl : lv_has ls 14 [(0, .ref o0), (1, .long j1), (3, .long j3), (5, .int i5)] := hl
  have hw0 : ∀ w ∈ u_ws RX7 TX7 25, w ∈ wsX7_look := by decide +kernel
  have hw1 := hts (.fieldLink RX7 222 "GaloisDeskModel" "roots" "I") (by decide +kernel)
  have hw2 := hts (.fieldLink RX7 225 "GaloisDeskModel" "lastRoot" "J") (by decide +kernel)
  clear hB B
  have wL104 : ∀ (I : TI) (L : TL) (A : TA) (x6 : Int64) (H : Heap) (locs : List Loc) (ls : Array Slot), wp_X7_look_104 K o0 j1 j3 i5 I L A x6 Q → SS K s I L A H locs → lv_has ls 14 [(0, .ref o0), (6, .long x6)] → W p (cxl K) e (headSpec wsX7_look (rmF 1 22)).room s m ([.ref o0, .long j1, .long j3, .int i5] : List Value).toArray below meth c H locs 0 0 (MQ below (cxQv K Q) ([.ref o0, .long j1, .long j3, .int i5] : List Value).toArray s 0 0 (PA (cxb K))) (F0 m 104 ls []) := by
    intro I L A x6 H locs ls hwp hz hl
    refine lv_aload_n hx hb dX7_look_104 rfl (lv_at hl 0 rfl) ?_
    refine lv_dup hx hb dX7_look_105 rfl ?_
    obtain ⟨hs1, hwp⟩ := hwp
    refine sw_get (C := RX7) (T := TX7) (N := 25) (v := .int (I o0 23)) hx hb hts hw0 hown hK hz hs1 rfl 23 (by decide) hw1 (fun _ h9 => h9) rfl dX7_look_106 ?_
    refine lv_iconst (v := 1) hx hb dX7_look_109 (by decide) ?_
    refine lv_iadd hx hb dX7_look_110 ?_
    refine sw_putI (C := RX7) (T := TX7) (N := 25) hx hb hts hw0 tyX7 tyX7_ok nmX7 hown hK hz hs1 rfl 23 (by decide) hw1 (fun _ h9 => h9) rfl (by decide +kernel) rfl dX7_look_111 (fun H locs I2 e_I2 hz => ?_)
    have hwp := hwp I2 e_I2
    refine lv_aload_n hx hb dX7_look_114 rfl (lv_at hl 0 rfl) ?_
    refine lv_lload hx hb dX7_look_115 (lv_at hl 1 rfl) ?_
    refine sw_putL (C := RX7) (T := TX7) (N := 25) hx hb hts hw0 tyX7 tyX7_ok nmX7 hown hK hz hs1 rfl 24 (by decide) hw2 (fun _ h9 => h9) rfl (by decide +kernel) rfl dX7_look_117 (fun H locs L3 e_L3 hz => ?_)
    have hwp := hwp L3 e_L3
    exact sw_vret hx hb hret hlocks hz hwp dX7_look_120
  have wL13 : ∀ (I : TI) (L : TL) (A : TA) (x6 : Int64) (x8 : Int64) (H : Heap) (locs : List Loc) (ls : Array Slot), wp_X7_look_13 K o0 j1 j3 i5 I L A x6 x8 Q → SS K s I L A H locs → lv_has ls 14 [(0, .ref o0), (5, .int i5), (6, .long x6), (8, .long x8)] → W p (cxl K) e (headSpec wsX7_look (rmF 1 22)).room s m ([.ref o0, .long j1, .long j3, .int i5] : List Value).toArray below meth c H locs 0 0 (MQ below (cxQv K Q) ([.ref o0, .long j1, .long j3, .int i5] : List Value).toArray s 0 0 (PA (cxb K))) (F0 m 13 ls []) := by
    intro I L A x6 x8 H locs ls hwp hz hl
    obtain ⟨Inv, μ, hi, hst⟩ := hwp
    have key : ∀ (μ : Nat) (I : TI) (L : TL) (A : TA) (x6 : Int64) (x8 : Int64) (H : Heap) (locs : List Loc) (ls : Array Slot), Inv μ I L A x6 x8 → SS K s I L A H locs → lv_has ls 14 [(0, .ref o0), (5, .int i5), (6, .long x6), (8, .long x8)] → W p (cxl K) e (headSpec wsX7_look (rmF 1 22)).room s m ([.ref o0, .long j1, .long j3, .int i5] : List Value).toArray below meth c H locs 0 0 (MQ below (cxQv K Q) ([.ref o0, .long j1, .long j3, .int i5] : List Value).toArray s 0 0 (PA (cxb K))) (F0 m 13 ls []) := by
      clear hi hz hl
      intro μ
      induction μ using Nat.strongRecOn with | ind μ ih => ?_
      intro I L A x6 x8 H locs ls hi hz hl
      obtain ⟨C13, hCd⟩ : ∃ C : TI → TL → TA → Int64 → Int64 → Prop, C = fun I L A x6 x8 => ∃ μ', μ' < μ ∧ Inv μ' I L A x6 x8 := ⟨_, rfl⟩
      have hC13 : ∀ (I : TI) (L : TL) (A : TA) (x6 : Int64) (x8 : Int64) (H : Heap) (locs : List Loc) (ls : Array Slot), C13 I L A x6 x8 → SS K s I L A H locs → lv_has ls 14 [(0, .ref o0), (5, .int i5), (6, .long x6), (8, .long x8)] → W p (cxl K) e (headSpec wsX7_look (rmF 1 22)).room s m ([.ref o0, .long j1, .long j3, .int i5] : List Value).toArray below meth c H locs 0 0 (MQ below (cxQv K Q) ([.ref o0, .long j1, .long j3, .int i5] : List Value).toArray s 0 0 (PA (cxb K))) (F0 m 13 ls []) := by
        intro I L A x6 x8 H locs ls hc hz hl
        rw [hCd] at hc
        obtain ⟨μ', hlt, hc⟩ := hc
        exact ih μ' hlt I L A x6 x8 H locs ls hc hz hl
      have hwp := hst μ C13 (fun μ' I L A x6 x8 hlt hc => by rw [hCd]; exact ⟨μ', hlt, hc⟩) I L A x6 x8 hi
      refine lv_lload hx hb dX7_look_13 (lv_at hl 2 rfl) ?_
      refine lv_lload hx hb dX7_look_15 (lv_at hl 3 rfl) ?_
      refine W.lcmp hx hb dX7_look_17 ?_
      refine W.eq (g2 := F0 m 18 ls [.int (lg_cmp x6 x8)]) rfl ?_
      refine lv_if_ge (tgt := 76) hx hb dX7_look_18 (by decide) (fun q => ?_) (fun q => ?_)
      · have hwp := hwp.1 ((lg_cmp_ge _ _).mp q)
        refine lv_aload_n hx hb dX7_look_76 rfl (lv_at hl 0 rfl) ?_
        refine lv_lload hx hb dX7_look_77 (lv_at hl 2 rfl) ?_
        obtain ⟨hs4, hwp⟩ := hwp
        obtain ⟨P5, hc6, hwp⟩ := hwp
        refine sw_calll hz (va_runV (As := [.long x6]) (rest := []) ⟨hx, hb, hml, hown, hts⟩ (hc6 hK _) (cwV 1 hts gX7_look_X7_cubeAt rfl rfl rfl (by decide +kernel) ⟨Nat.le_of_ble_eq_true rfl, Nat.le_of_ble_eq_true rfl⟩) (hz.preV hK hs4 rfl) rfl rfl hl.1 rfl (lv_room (Nat.le_of_ble_eq_true rfl)) dX7_look_79 ⟨Nat.le_of_ble_eq_true rfl, Nat.le_of_ble_eq_true rfl⟩) (fun r10 I7 L8 A9 H locs hp hz => ?_)
        have hwp := hwp r10 I7 L8 A9 hp
        refine lv_lconst (v := 0) hx hb dX7_look_82 (by decide) ?_
        refine W.lcmp hx hb dX7_look_83 ?_
        refine W.eq (g2 := F0 m 84 ls [.int (lg_cmp r10 0)]) rfl ?_
        refine lv_if_ne (tgt := 120) hx hb dX7_look_84 (by decide) (fun q => ?_) (fun q => ?_)
        · have hwp := hwp.2 (fun h => q ((lg_cmp_eq _ _).mpr h))
          exact sw_vret hx hb hret hlocks hz hwp dX7_look_120
        · have hwp := hwp.1 ((lg_cmp_eq _ _).mp q)
          refine lv_aload_n hx hb dX7_look_87 rfl (lv_at hl 0 rfl) ?_
          refine sw_get (C := RX7) (T := TX7) (N := 25) (v := .int (I7 o0 23)) hx hb hts hw0 hown hK hz hs4 rfl 23 (by decide) hw1 (fun _ h9 => h9) rfl dX7_look_88 ?_
          refine lv_if_eq (tgt := 104) hx hb dX7_look_91 (by decide) (fun q => ?_) (fun q => ?_)
          · have hwp := hwp.1 q
            exact wL104 _ _ _ _ _ _ _ hwp hz (lv_sub hl [0, 2] rfl)
          · have hwp := hwp.2 q
            refine lv_aload_n hx hb dX7_look_94 rfl (lv_at hl 0 rfl) ?_
            refine sw_get (C := RX7) (T := TX7) (N := 25) (v := .long (L8 o0 24)) hx hb hts hw0 hown hK hz hs4 rfl 24 (by decide) hw2 (fun _ h9 => h9) rfl dX7_look_95 ?_
            refine lv_lload hx hb dX7_look_98 (lv_at hl 2 rfl) ?_
            refine W.lcmp hx hb dX7_look_100 ?_
            refine W.eq (g2 := F0 m 101 ls [.int (lg_cmp (L8 o0 24) x6)]) rfl ?_
            refine lv_if_eq (tgt := 120) hx hb dX7_look_101 (by decide) (fun q => ?_) (fun q => ?_)
            · have hwp := hwp.1 ((lg_cmp_eq _ _).mp q)
              exact sw_vret hx hb hret hlocks hz hwp dX7_look_120
            · have hwp := hwp.2 (fun h => q ((lg_cmp_eq _ _).mpr h))
              exact wL104 _ _ _ _ _ _ _ hwp hz (lv_sub hl [0, 2] rfl)
      · have hwp := hwp.2 (fun h => q ((lg_cmp_ge _ _).mpr h))
        refine lv_lload hx hb dX7_look_21 (lv_at hl 2 rfl) ?_
        refine lv_lload hx hb dX7_look_23 (lv_at hl 3 rfl) ?_
        refine lv_ladd hx hb dX7_look_25 ?_
        refine lv_iconst (v := 1) hx hb dX7_look_26 (by decide) ?_
        refine lv_lshr hx hb dX7_look_27 rfl ?_
        refine lv_topl (fun v11 q_v11 => ?_)
        have hwp := hwp v11 q_v11
        refine lv_lstore (lv' := [(10, .long v11), (0, .ref o0), (5, .int i5), (6, .long x6), (8, .long x8)]) hx hb dX7_look_28 hl (by decide) rfl (fun ls hl => ?_)
        refine lv_aload_n hx hb dX7_look_30 rfl (lv_at hl 1 rfl) ?_
        refine lv_lload hx hb dX7_look_31 (lv_at hl 0 rfl) ?_
        obtain ⟨hs12, hwp⟩ := hwp
        obtain ⟨P13, hc14, hwp⟩ := hwp
        refine sw_calll hz (va_runV (As := [.long v11]) (rest := []) ⟨hx, hb, hml, hown, hts⟩ (hc14 hK _) (cwV 1 hts gX7_look_X7_cubeAt rfl rfl rfl (by decide +kernel) ⟨Nat.le_of_ble_eq_true rfl, Nat.le_of_ble_eq_true rfl⟩) (hz.preV hK hs12 rfl) rfl rfl hl.1 rfl (lv_room (Nat.le_of_ble_eq_true rfl)) dX7_look_33 ⟨Nat.le_of_ble_eq_true rfl, Nat.le_of_ble_eq_true rfl⟩) (fun r18 I15 L16 A17 H locs hp hz => ?_)
        have hwp := hwp r18 I15 L16 A17 hp
        refine lv_lstore (lv' := [(12, .long r18), (10, .long v11), (0, .ref o0), (5, .int i5), (6, .long x6), (8, .long x8)]) hx hb dX7_look_36 hl (by decide) rfl (fun ls hl => ?_)
        refine lv_iload hx hb dX7_look_38 (lv_at hl 3 rfl) ?_
        refine lv_if_eq (tgt := 53) hx hb dX7_look_40 (by decide) (fun q => ?_) (fun q => ?_)
        · have hwp := hwp.1 q
          refine lv_lload hx hb dX7_look_53 (lv_at hl 0 rfl) ?_
          refine lv_lconst (v := 0) hx hb dX7_look_55 (by decide) ?_
          refine W.lcmp hx hb dX7_look_56 ?_
          refine W.eq (g2 := F0 m 57 ls [.int (lg_cmp r18 0)]) rfl ?_
          refine lv_if_gt (tgt := 67) hx hb dX7_look_57 (by decide) (fun q => ?_) (fun q => ?_)
          · have hwp := hwp.1 ((lg_cmp_gt _ _).mp q)
            refine lv_lload hx hb dX7_look_67 (lv_at hl 1 rfl) ?_
            refine lv_lconst (v := 1) hx hb dX7_look_69 (by decide) ?_
            refine lv_ladd hx hb dX7_look_70 ?_
            refine lv_topl (fun v19 q_v19 => ?_)
            have hwp := hwp v19 q_v19
            refine lv_lstore (lv' := [(6, .long v19), (12, .long r18), (10, .long v11), (0, .ref o0), (5, .int i5), (8, .long x8)]) hx hb dX7_look_71 hl (by decide) rfl (fun ls hl => ?_)
            refine lv_goto (tgt := 13) hx hb dX7_look_73 (by decide) ?_
            exact hC13 _ _ _ _ _ _ _ _ hwp hz (lv_sub hl [3, 4, 0, 5] rfl)
          · have hwp := hwp.2 (fun h => q ((lg_cmp_gt _ _).mpr h))
            refine lv_lload hx hb dX7_look_60 (lv_at hl 1 rfl) ?_
            refine lv_lstore (lv' := [(8, .long v11), (12, .long r18), (10, .long v11), (0, .ref o0), (5, .int i5), (6, .long x6)]) hx hb dX7_look_62 hl (by decide) rfl (fun ls hl => ?_)
            refine lv_goto (tgt := 73) hx hb dX7_look_64 (by decide) ?_
            refine lv_goto (tgt := 13) hx hb dX7_look_73 (by decide) ?_
            exact hC13 _ _ _ _ _ _ _ _ hwp hz (lv_sub hl [3, 4, 5, 0] rfl)
        · have hwp := hwp.2 q
          refine lv_lload hx hb dX7_look_43 (lv_at hl 0 rfl) ?_
          refine lv_lconst (v := 0) hx hb dX7_look_45 (by decide) ?_
          refine W.lcmp hx hb dX7_look_46 ?_
          refine W.eq (g2 := F0 m 47 ls [.int (lg_cmp r18 0)]) rfl ?_
          refine lv_if_lt (tgt := 67) hx hb dX7_look_47 (by decide) (fun q => ?_) (fun q => ?_)
          · have hwp := hwp.1 ((lg_cmp_lt _ _).mp q)
            refine lv_lload hx hb dX7_look_67 (lv_at hl 1 rfl) ?_
            refine lv_lconst (v := 1) hx hb dX7_look_69 (by decide) ?_
            refine lv_ladd hx hb dX7_look_70 ?_
            refine lv_topl (fun v20 q_v20 => ?_)
            have hwp := hwp v20 q_v20
            refine lv_lstore (lv' := [(6, .long v20), (12, .long r18), (10, .long v11), (0, .ref o0), (5, .int i5), (8, .long x8)]) hx hb dX7_look_71 hl (by decide) rfl (fun ls hl => ?_)
            refine lv_goto (tgt := 13) hx hb dX7_look_73 (by decide) ?_
            exact hC13 _ _ _ _ _ _ _ _ hwp hz (lv_sub hl [3, 4, 0, 5] rfl)
          · have hwp := hwp.2 (fun h => q ((lg_cmp_lt _ _).mpr h))
            refine lv_goto (tgt := 60) hx hb dX7_look_50 (by decide) ?_
            refine lv_lload hx hb dX7_look_60 (lv_at hl 1 rfl) ?_
            refine lv_lstore (lv' := [(8, .long v11), (12, .long r18), (10, .long v11), (0, .ref o0), (5, .int i5), (6, .long x6)]) hx hb dX7_look_62 hl (by decide) rfl (fun ls hl => ?_)
            refine lv_goto (tgt := 73) hx hb dX7_look_64 (by decide) ?_
            refine lv_goto (tgt := 13) hx hb dX7_look_73 (by decide) ?_
            exact hC13 _ _ _ _ _ _ _ _ hwp hz (lv_sub hl [3, 4, 5, 0] rfl)
    exact key μ I L A x6 x8 H locs ls hi hz hl
  refine lv_lload_n hx hb dX7_look_0 rfl (lv_at hl 1 rfl) ?_
  refine lv_lload_n hx hb dX7_look_1 rfl (lv_at hl 2 rfl) ?_
  refine W.lcmp hx hb dX7_look_2 ?_
  refine W.eq (g2 := F0 m 3 ls [.int (lg_cmp j1 j3)]) rfl ?_
  refine lv_if_le (tgt := 7) hx hb dX7_look_3 (by decide) (fun q => ?_) (fun q => ?_)
  · have hwp := hwp.1 ((lg_cmp_le _ _).mp q)
    refine lv_lload_n hx hb dX7_look_7 rfl (lv_at hl 1 rfl) ?_
    refine lv_lstore (lv' := [(6, .long j1), (0, .ref o0), (1, .long j1), (3, .long j3), (5, .int i5)]) hx hb dX7_look_8 hl (by decide) rfl (fun ls hl => ?_)
    refine lv_lload_n hx hb dX7_look_10 rfl (lv_at hl 3 rfl) ?_
    refine lv_lstore (lv' := [(8, .long j3), (6, .long j1), (0, .ref o0), (1, .long j1), (3, .long j3), (5, .int i5)]) hx hb dX7_look_11 hl (by decide) rfl (fun ls hl => ?_)
    exact wL13 _ _ _ _ _ _ _ _ hwp hz (lv_sub hl [2, 5, 1, 0] rfl)
  · have hwp := hwp.2 (fun h => q ((lg_cmp_le _ _).mpr h))
    exact sw_vret hx hb hret hlocks hz hwp dX7_look_6

def wp_X7_findRoots_234 (K : Cx) (o0 : Nat) (I : TI) (L : TL) (A : TA) (x1 : Int64) (y0 : Int64) (y1 : Nat) (Q : TI → TL → TA → Prop) : Prop := cxS K y1 = shX7 y1 ∧ ∃ P2 : TI → TL → TA → Prop, ConV K yX7_look wsX7_look 1 22 I L A [.ref y1, .long y0, .long x1, .int 1] P2 ∧ ∀ (I4 : TI) (L5 : TL) (A6 : TA), P2 I4 L5 A6 → Q I4 L5 A6
def wp_X7_findRoots_182 (K : Cx) (o0 : Nat) (I : TI) (L : TL) (A : TA) (x1 : Int64) (x7 : Int64) (x9 : Int64) (x11 : Int64) (Q : TI → TL → TA → Prop) : Prop := ∃ (Inv : Nat → TI → TL → TA → Int64 → Int64 → Int64 → Int64 → Prop) (μ : Nat), Inv μ I L A x1 x7 x9 x11 ∧ ∀ (μ : Nat) (C182 : TI → TL → TA → Int64 → Int64 → Int64 → Int64 → Prop), (∀ (μ' : Nat) (I : TI) (L : TL) (A : TA) (x1 : Int64) (x7 : Int64) (x9 : Int64) (x11 : Int64) , μ' < μ → Inv μ' I L A x1 x7 x9 x11 → C182 I L A x1 x7 x9 x11) → ∀ (I : TI) (L : TL) (A : TA) (x1 : Int64) (x7 : Int64) (x9 : Int64) (x11 : Int64) , Inv μ I L A x1 x7 x9 x11 → ((x9 < x11 → ((x9 ≤ (x7 + 2) → wp_X7_findRoots_234 K o0 I L A x1 (x7 + 3) o0 Q) ∧ (¬ x9 ≤ (x7 + 2) → wp_X7_findRoots_234 K o0 I L A x1 (x9 + 1) o0 Q))) ∧ (¬ x9 < x11 → cxS K o0 = shX7 o0 ∧ ∃ P8 : TI → TL → TA → Prop, ConV K yX7_look wsX7_look 1 22 I L A [.ref o0, .long x11, .long x11, .int 1] P8 ∧ ∀ (I10 : TI) (L11 : TL) (A12 : TA), P8 I10 L11 A12 → ∀ v13 : Int64, v13 = (x11 + 1) → C182 I10 L11 A12 x1 x7 x9 v13))
def wp_X7_findRoots_102 (K : Cx) (o0 : Nat) (I : TI) (L : TL) (A : TA) (x1 : Int64) (x7 : Int64) (x9 : Int64) (x11 : Int64) (Q : TI → TL → TA → Prop) : Prop := ∃ (Inv : Nat → TI → TL → TA → Int64 → Int64 → Int64 → Int64 → Prop) (μ : Nat), Inv μ I L A x1 x7 x9 x11 ∧ ∀ (μ : Nat) (C102 : TI → TL → TA → Int64 → Int64 → Int64 → Int64 → Prop), (∀ (μ' : Nat) (I : TI) (L : TL) (A : TA) (x1 : Int64) (x7 : Int64) (x9 : Int64) (x11 : Int64) , μ' < μ → Inv μ' I L A x1 x7 x9 x11 → C102 I L A x1 x7 x9 x11) → ∀ (I : TI) (L : TL) (A : TA) (x1 : Int64) (x7 : Int64) (x9 : Int64) (x11 : Int64) , Inv μ I L A x1 x7 x9 x11 → (((x7 + 2) < x11 → cxS K o0 = shX7 o0 ∧ ∃ P15 : TI → TL → TA → Prop, ConV K yX7_look wsX7_look 1 22 I L A [.ref o0, .long (x7 + 3), .long (x9 - 3), .int 0] P15 ∧ ∀ (I17 : TI) (L18 : TL) (A19 : TA), P15 I17 L18 A19 → (((x9 - 2) ≤ (x7 + 2) → ∀ v20 : Int64, v20 = (x7 + 3) → wp_X7_findRoots_182 K o0 I17 L18 A19 x1 x7 x9 v20 Q) ∧ (¬ (x9 - 2) ≤ (x7 + 2) → ∀ v21 : Int64, v21 = (x9 - 2) → wp_X7_findRoots_182 K o0 I17 L18 A19 x1 x7 x9 v21 Q))) ∧ (¬ (x7 + 2) < x11 → cxS K o0 = shX7 o0 ∧ ∃ P23 : TI → TL → TA → Prop, ConV K yX7_look wsX7_look 1 22 I L A [.ref o0, .long x11, .long x11, .int 1] P23 ∧ ∀ (I25 : TI) (L26 : TL) (A27 : TA), P23 I25 L26 A27 → ∀ v28 : Int64, v28 = (x11 + 1) → C102 I25 L26 A27 x1 x7 x9 v28))
def wp_X7_findRoots (K : Cx) (I : TI) (L : TL) (A : TA) (o0 : Nat) (Q : TI → TL → TA → Prop) : Prop := cxS K o0 = shX7 o0 ∧ ∀ I30 : TI, I30 = u2 I o0 23 0 → ∀ v31 : Int64, v31 = (((L o0 20) * (L o0 20)) - (3 * (L o0 21))) → ((0 < v31 → ∃ P32 : Int64 → TI → TL → TA → Prop, ConL K yX7_root wsX7_root 0 0 I30 L A [.long v31] P32 ∧ ∀ (r37 : Int64) (I34 : TI) (L35 : TL) (A36 : TA), P32 r37 I34 L35 A36 → ∃ P38 : Int64 → TI → TL → TA → Prop, ConL K yX7_below wsX7_below 0 0 I34 L35 A36 [.long (((-(L35 o0 20)) - r37) - 1), .long 3] P38 ∧ ∀ (r43 : Int64) (I40 : TI) (L41 : TL) (A42 : TA), P38 r43 I40 L41 A42 → ∃ P44 : Int64 → TI → TL → TA → Prop, ConL K yX7_below wsX7_below 0 0 I40 L41 A42 [.long (((-(L41 o0 20)) + r37) + 1), .long 3] P44 ∧ ∀ (r49 : Int64) (I46 : TI) (L47 : TL) (A48 : TA), P44 r49 I46 L47 A48 → ∀ v50 : Int64, v50 = (r49 + 1) → ∃ P51 : TI → TL → TA → Prop, ConV K yX7_look wsX7_look 1 22 I46 L47 A48 [.ref o0, .long (-600000), .long (r43 - 1), .int 1] P51 ∧ ∀ (I53 : TI) (L54 : TL) (A55 : TA), P51 I53 L54 A55 → wp_X7_findRoots_102 K o0 I53 L54 A55 600000 r43 v50 r43 Q) ∧ (¬ 0 < v31 → ∃ P56 : TI → TL → TA → Prop, ConV K yX7_look wsX7_look 1 22 I30 L A [.ref o0, .long (-600000), .long 600000, .int 1] P56 ∧ ∀ (I58 : TI) (L59 : TL) (A60 : TA), P56 I58 L59 A60 → Q I58 L59 A60))
set_option maxHeartbeats 1000000 in
set_option maxRecDepth 100000 in
theorem w_X7_findRoots (K : Cx) (I : TI) (L : TL) (A : TA) (o0 : Nat) (Q : TI → TL → TA → Prop) (hwp : wp_X7_findRoots K I L A o0 Q) : ConV K yX7_findRoots wsX7_findRoots 2 55 I L A [.ref o0] Q := by
  intro hK sz
  refine Met.ofW (cc := cX7_findRoots) (maxL := 13) (ret := none) (by decide) rfl ?_
  intro p e s m args below meth c s₁ B hml hv
  obtain ⟨rfl, hsz, hB⟩ := hv
  have hx := B.exec
  have hb := B.bytes
  have hret := B.returns
  have hts := atoms_spec (ws := wsX7_findRoots) B.pre
  have hown : s.vm.findClass RX7 = some m.cls := findClass_of_methodNamed B.named
  have hlocks := B.notSynchronized
  subst hsz
  have hz : SS K s I L A s.heap [] := PS.start hB
  have hl := lv_entry ([.ref o0]) (n := 13) (Nat.le_of_ble_eq_true rfl)
  rw [lg_entry_eq]
  generalize (lg_sl ([.ref o0]) ++ List.replicate (13 - (lg_sl ([.ref o0])).length) Slot.unset).toArray = ls at hl ⊢
  have hl : lv_has ls 13 [(0, .ref o0)] := hl
  have hw0 := hts (.constantLong RX7 199 (2)) (by decide +kernel)
  have hw1 := hts (.constantLong RX7 230 (3)) (by decide +kernel)
  have hw2 : ∀ w ∈ u_ws RX7 TX7 25, w ∈ wsX7_findRoots := by decide +kernel
  have hw3 := hts (.fieldLink RX7 222 "GaloisDeskModel" "roots" "I") (by decide +kernel)
  have hw4 := hts (.constantLong RX7 228 (600000)) (by decide +kernel)
  have hw5 := hts (.fieldLink RX7 209 "GaloisDeskModel" "cubeB" "J") (by decide +kernel)
  have hw6 := hts (.fieldLink RX7 213 "GaloisDeskModel" "cubeC" "J") (by decide +kernel)
  clear hB B
  have wL234 : ∀ (I : TI) (L : TL) (A : TA) (x1 : Int64) (y0 : Int64) (y1 : Nat) (H : Heap) (locs : List Loc) (ls : Array Slot), wp_X7_findRoots_234 K o0 I L A x1 y0 y1 Q → SS K s I L A H locs → lv_has ls 13 [(1, .long x1)] → W p (cxl K) e (headSpec wsX7_findRoots (rmF 2 55)).room s m ([.ref o0] : List Value).toArray below meth c H locs 0 0 (MQ below (cxQv K Q) ([.ref o0] : List Value).toArray s 0 0 (PA (cxb K))) (F0 m 234 ls [.long y0, .ref y1]) := by
    intro I L A x1 y0 y1 H locs ls hwp hz hl
    refine lv_lload_n hx hb dX7_findRoots_234 rfl (lv_at hl 0 rfl) ?_
    refine lv_iconst (v := 1) hx hb dX7_findRoots_235 (by decide) ?_
    obtain ⟨hs1, hwp⟩ := hwp
    obtain ⟨P2, hc3, hwp⟩ := hwp
    refine sw_callv hz (va_runV (As := [.long y0, .long x1, .int 1]) (rest := []) ⟨hx, hb, hml, hown, hts⟩ (hc3 hK _) (cwV 3 hts gX7_findRoots_X7_look rfl rfl rfl (by decide +kernel) ⟨Nat.le_of_ble_eq_true rfl, Nat.le_of_ble_eq_true rfl⟩) (hz.preV hK hs1 rfl) rfl rfl hl.1 rfl (lv_room (Nat.le_of_ble_eq_true rfl)) dX7_findRoots_236 ⟨Nat.le_of_ble_eq_true rfl, Nat.le_of_ble_eq_true rfl⟩) (fun I4 L5 A6 H locs hp hz => ?_)
    have hwp := hwp I4 L5 A6 hp
    exact sw_vret hx hb hret hlocks hz hwp dX7_findRoots_239
  have wL182 : ∀ (I : TI) (L : TL) (A : TA) (x1 : Int64) (x7 : Int64) (x9 : Int64) (x11 : Int64) (H : Heap) (locs : List Loc) (ls : Array Slot), wp_X7_findRoots_182 K o0 I L A x1 x7 x9 x11 Q → SS K s I L A H locs → lv_has ls 13 [(0, .ref o0), (1, .long x1), (7, .long x7), (9, .long x9), (11, .long x11)] → W p (cxl K) e (headSpec wsX7_findRoots (rmF 2 55)).room s m ([.ref o0] : List Value).toArray below meth c H locs 0 0 (MQ below (cxQv K Q) ([.ref o0] : List Value).toArray s 0 0 (PA (cxb K))) (F0 m 182 ls []) := by
    intro I L A x1 x7 x9 x11 H locs ls hwp hz hl
    obtain ⟨Inv, μ, hi, hst⟩ := hwp
    have key : ∀ (μ : Nat) (I : TI) (L : TL) (A : TA) (x1 : Int64) (x7 : Int64) (x9 : Int64) (x11 : Int64) (H : Heap) (locs : List Loc) (ls : Array Slot), Inv μ I L A x1 x7 x9 x11 → SS K s I L A H locs → lv_has ls 13 [(0, .ref o0), (1, .long x1), (7, .long x7), (9, .long x9), (11, .long x11)] → W p (cxl K) e (headSpec wsX7_findRoots (rmF 2 55)).room s m ([.ref o0] : List Value).toArray below meth c H locs 0 0 (MQ below (cxQv K Q) ([.ref o0] : List Value).toArray s 0 0 (PA (cxb K))) (F0 m 182 ls []) := by
      clear hi hz hl
      intro μ
      induction μ using Nat.strongRecOn with | ind μ ih => ?_
      intro I L A x1 x7 x9 x11 H locs ls hi hz hl
      obtain ⟨C182, hCd⟩ : ∃ C : TI → TL → TA → Int64 → Int64 → Int64 → Int64 → Prop, C = fun I L A x1 x7 x9 x11 => ∃ μ', μ' < μ ∧ Inv μ' I L A x1 x7 x9 x11 := ⟨_, rfl⟩
      have hC182 : ∀ (I : TI) (L : TL) (A : TA) (x1 : Int64) (x7 : Int64) (x9 : Int64) (x11 : Int64) (H : Heap) (locs : List Loc) (ls : Array Slot), C182 I L A x1 x7 x9 x11 → SS K s I L A H locs → lv_has ls 13 [(0, .ref o0), (1, .long x1), (7, .long x7), (9, .long x9), (11, .long x11)] → W p (cxl K) e (headSpec wsX7_findRoots (rmF 2 55)).room s m ([.ref o0] : List Value).toArray below meth c H locs 0 0 (MQ below (cxQv K Q) ([.ref o0] : List Value).toArray s 0 0 (PA (cxb K))) (F0 m 182 ls []) := by
        intro I L A x1 x7 x9 x11 H locs ls hc hz hl
        rw [hCd] at hc
        obtain ⟨μ', hlt, hc⟩ := hc
        exact ih μ' hlt I L A x1 x7 x9 x11 H locs ls hc hz hl
      have hwp := hst μ C182 (fun μ' I L A x1 x7 x9 x11 hlt hc => by rw [hCd]; exact ⟨μ', hlt, hc⟩) I L A x1 x7 x9 x11 hi
      refine lv_lload hx hb dX7_findRoots_182 (lv_at hl 4 rfl) ?_
      refine lv_lload hx hb dX7_findRoots_184 (lv_at hl 3 rfl) ?_
      refine W.lcmp hx hb dX7_findRoots_186 ?_
      refine W.eq (g2 := F0 m 187 ls [.int (lg_cmp x11 x9)]) rfl ?_
      refine lv_if_gt (tgt := 208) hx hb dX7_findRoots_187 (by decide) (fun q => ?_) (fun q => ?_)
      · have hwp := hwp.1 ((lg_cmp_gt _ _).mp q)
        refine lv_aload_n hx hb dX7_findRoots_208 rfl (lv_at hl 0 rfl) ?_
        refine lv_lload hx hb dX7_findRoots_209 (lv_at hl 3 rfl) ?_
        refine lv_lload hx hb dX7_findRoots_211 (lv_at hl 2 rfl) ?_
        refine lv_ldc2 hx hb hown hw0 dX7_findRoots_213 ?_
        refine lv_ladd hx hb dX7_findRoots_216 ?_
        refine W.lcmp hx hb dX7_findRoots_217 ?_
        refine W.eq (g2 := F0 m 218 ls [.int (lg_cmp x9 (x7 + 2)), .ref o0]) rfl ?_
        refine lv_if_le (tgt := 228) hx hb dX7_findRoots_218 (by decide) (fun q => ?_) (fun q => ?_)
        · have hwp := hwp.1 ((lg_cmp_le _ _).mp q)
          refine lv_lload hx hb dX7_findRoots_228 (lv_at hl 2 rfl) ?_
          refine lv_ldc2 hx hb hown hw1 dX7_findRoots_230 ?_
          refine lv_ladd hx hb dX7_findRoots_233 ?_
          exact wL234 _ _ _ _ _ _ _ _ _ hwp hz (lv_sub hl [1] rfl)
        · have hwp := hwp.2 (fun h => q ((lg_cmp_le _ _).mpr h))
          refine lv_lload hx hb dX7_findRoots_221 (lv_at hl 3 rfl) ?_
          refine lv_lconst (v := 1) hx hb dX7_findRoots_223 (by decide) ?_
          refine lv_ladd hx hb dX7_findRoots_224 ?_
          refine lv_goto (tgt := 234) hx hb dX7_findRoots_225 (by decide) ?_
          exact wL234 _ _ _ _ _ _ _ _ _ hwp hz (lv_sub hl [1] rfl)
      · have hwp := hwp.2 (fun h => q ((lg_cmp_gt _ _).mpr h))
        refine lv_aload_n hx hb dX7_findRoots_190 rfl (lv_at hl 0 rfl) ?_
        refine lv_lload hx hb dX7_findRoots_191 (lv_at hl 4 rfl) ?_
        refine lv_lload hx hb dX7_findRoots_193 (lv_at hl 4 rfl) ?_
        refine lv_iconst (v := 1) hx hb dX7_findRoots_195 (by decide) ?_
        obtain ⟨hs7, hwp⟩ := hwp
        obtain ⟨P8, hc9, hwp⟩ := hwp
        refine sw_callv hz (va_runV (As := [.long x11, .long x11, .int 1]) (rest := []) ⟨hx, hb, hml, hown, hts⟩ (hc9 hK _) (cwV 3 hts gX7_findRoots_X7_look rfl rfl rfl (by decide +kernel) ⟨Nat.le_of_ble_eq_true rfl, Nat.le_of_ble_eq_true rfl⟩) (hz.preV hK hs7 rfl) rfl rfl hl.1 rfl (lv_room (Nat.le_of_ble_eq_true rfl)) dX7_findRoots_196 ⟨Nat.le_of_ble_eq_true rfl, Nat.le_of_ble_eq_true rfl⟩) (fun I10 L11 A12 H locs hp hz => ?_)
        have hwp := hwp I10 L11 A12 hp
        refine lv_lload hx hb dX7_findRoots_199 (lv_at hl 4 rfl) ?_
        refine lv_lconst (v := 1) hx hb dX7_findRoots_201 (by decide) ?_
        refine lv_ladd hx hb dX7_findRoots_202 ?_
        refine lv_topl (fun v13 q_v13 => ?_)
        have hwp := hwp v13 q_v13
        refine lv_lstore (lv' := [(11, .long v13), (0, .ref o0), (1, .long x1), (7, .long x7), (9, .long x9)]) hx hb dX7_findRoots_203 hl (by decide) rfl (fun ls hl => ?_)
        refine lv_goto (tgt := 182) hx hb dX7_findRoots_205 (by decide) ?_
        exact hC182 _ _ _ _ _ _ _ _ _ _ hwp hz (lv_sub hl [1, 2, 3, 4, 0] rfl)
    exact key μ I L A x1 x7 x9 x11 H locs ls hi hz hl
  have wL102 : ∀ (I : TI) (L : TL) (A : TA) (x1 : Int64) (x7 : Int64) (x9 : Int64) (x11 : Int64) (H : Heap) (locs : List Loc) (ls : Array Slot), wp_X7_findRoots_102 K o0 I L A x1 x7 x9 x11 Q → SS K s I L A H locs → lv_has ls 13 [(0, .ref o0), (1, .long x1), (7, .long x7), (9, .long x9), (11, .long x11)] → W p (cxl K) e (headSpec wsX7_findRoots (rmF 2 55)).room s m ([.ref o0] : List Value).toArray below meth c H locs 0 0 (MQ below (cxQv K Q) ([.ref o0] : List Value).toArray s 0 0 (PA (cxb K))) (F0 m 102 ls []) := by
    intro I L A x1 x7 x9 x11 H locs ls hwp hz hl
    obtain ⟨Inv, μ, hi, hst⟩ := hwp
    have key : ∀ (μ : Nat) (I : TI) (L : TL) (A : TA) (x1 : Int64) (x7 : Int64) (x9 : Int64) (x11 : Int64) (H : Heap) (locs : List Loc) (ls : Array Slot), Inv μ I L A x1 x7 x9 x11 → SS K s I L A H locs → lv_has ls 13 [(0, .ref o0), (1, .long x1), (7, .long x7), (9, .long x9), (11, .long x11)] → W p (cxl K) e (headSpec wsX7_findRoots (rmF 2 55)).room s m ([.ref o0] : List Value).toArray below meth c H locs 0 0 (MQ below (cxQv K Q) ([.ref o0] : List Value).toArray s 0 0 (PA (cxb K))) (F0 m 102 ls []) := by
      clear hi hz hl
      intro μ
      induction μ using Nat.strongRecOn with | ind μ ih => ?_
      intro I L A x1 x7 x9 x11 H locs ls hi hz hl
      obtain ⟨C102, hCd⟩ : ∃ C : TI → TL → TA → Int64 → Int64 → Int64 → Int64 → Prop, C = fun I L A x1 x7 x9 x11 => ∃ μ', μ' < μ ∧ Inv μ' I L A x1 x7 x9 x11 := ⟨_, rfl⟩
      have hC102 : ∀ (I : TI) (L : TL) (A : TA) (x1 : Int64) (x7 : Int64) (x9 : Int64) (x11 : Int64) (H : Heap) (locs : List Loc) (ls : Array Slot), C102 I L A x1 x7 x9 x11 → SS K s I L A H locs → lv_has ls 13 [(0, .ref o0), (1, .long x1), (7, .long x7), (9, .long x9), (11, .long x11)] → W p (cxl K) e (headSpec wsX7_findRoots (rmF 2 55)).room s m ([.ref o0] : List Value).toArray below meth c H locs 0 0 (MQ below (cxQv K Q) ([.ref o0] : List Value).toArray s 0 0 (PA (cxb K))) (F0 m 102 ls []) := by
        intro I L A x1 x7 x9 x11 H locs ls hc hz hl
        rw [hCd] at hc
        obtain ⟨μ', hlt, hc⟩ := hc
        exact ih μ' hlt I L A x1 x7 x9 x11 H locs ls hc hz hl
      have hwp := hst μ C102 (fun μ' I L A x1 x7 x9 x11 hlt hc => by rw [hCd]; exact ⟨μ', hlt, hc⟩) I L A x1 x7 x9 x11 hi
      refine lv_lload hx hb dX7_findRoots_102 (lv_at hl 4 rfl) ?_
      refine lv_lload hx hb dX7_findRoots_104 (lv_at hl 2 rfl) ?_
      refine lv_ldc2 hx hb hown hw0 dX7_findRoots_106 ?_
      refine lv_ladd hx hb dX7_findRoots_109 ?_
      refine W.lcmp hx hb dX7_findRoots_110 ?_
      refine W.eq (g2 := F0 m 111 ls [.int (lg_cmp x11 (x7 + 2))]) rfl ?_
      refine lv_if_gt (tgt := 132) hx hb dX7_findRoots_111 (by decide) (fun q => ?_) (fun q => ?_)
      · have hwp := hwp.1 ((lg_cmp_gt _ _).mp q)
        refine lv_aload_n hx hb dX7_findRoots_132 rfl (lv_at hl 0 rfl) ?_
        refine lv_lload hx hb dX7_findRoots_133 (lv_at hl 2 rfl) ?_
        refine lv_ldc2 hx hb hown hw1 dX7_findRoots_135 ?_
        refine lv_ladd hx hb dX7_findRoots_138 ?_
        refine lv_lload hx hb dX7_findRoots_139 (lv_at hl 3 rfl) ?_
        refine lv_ldc2 hx hb hown hw1 dX7_findRoots_141 ?_
        refine lv_lsub hx hb dX7_findRoots_144 ?_
        refine lv_iconst (v := 0) hx hb dX7_findRoots_145 (by decide) ?_
        obtain ⟨hs14, hwp⟩ := hwp
        obtain ⟨P15, hc16, hwp⟩ := hwp
        refine sw_callv hz (va_runV (As := [.long (x7 + 3), .long (x9 - 3), .int 0]) (rest := []) ⟨hx, hb, hml, hown, hts⟩ (hc16 hK _) (cwV 3 hts gX7_findRoots_X7_look rfl rfl rfl (by decide +kernel) ⟨Nat.le_of_ble_eq_true rfl, Nat.le_of_ble_eq_true rfl⟩) (hz.preV hK hs14 rfl) rfl rfl hl.1 rfl (lv_room (Nat.le_of_ble_eq_true rfl)) dX7_findRoots_146 ⟨Nat.le_of_ble_eq_true rfl, Nat.le_of_ble_eq_true rfl⟩) (fun I17 L18 A19 H locs hp hz => ?_)
        have hwp := hwp I17 L18 A19 hp
        refine lv_lload hx hb dX7_findRoots_149 (lv_at hl 3 rfl) ?_
        refine lv_ldc2 hx hb hown hw0 dX7_findRoots_151 ?_
        refine lv_lsub hx hb dX7_findRoots_154 ?_
        refine lv_lload hx hb dX7_findRoots_155 (lv_at hl 2 rfl) ?_
        refine lv_ldc2 hx hb hown hw0 dX7_findRoots_157 ?_
        refine lv_ladd hx hb dX7_findRoots_160 ?_
        refine W.lcmp hx hb dX7_findRoots_161 ?_
        refine W.eq (g2 := F0 m 162 ls [.int (lg_cmp (x9 - 2) (x7 + 2))]) rfl ?_
        refine lv_if_le (tgt := 174) hx hb dX7_findRoots_162 (by decide) (fun q => ?_) (fun q => ?_)
        · have hwp := hwp.1 ((lg_cmp_le _ _).mp q)
          refine lv_lload hx hb dX7_findRoots_174 (lv_at hl 2 rfl) ?_
          refine lv_ldc2 hx hb hown hw1 dX7_findRoots_176 ?_
          refine lv_ladd hx hb dX7_findRoots_179 ?_
          refine lv_topl (fun v20 q_v20 => ?_)
          have hwp := hwp v20 q_v20
          refine lv_lstore (lv' := [(11, .long v20), (0, .ref o0), (1, .long x1), (7, .long x7), (9, .long x9)]) hx hb dX7_findRoots_180 hl (by decide) rfl (fun ls hl => ?_)
          exact wL182 _ _ _ _ _ _ _ _ _ _ hwp hz (lv_sub hl [1, 2, 3, 4, 0] rfl)
        · have hwp := hwp.2 (fun h => q ((lg_cmp_le _ _).mpr h))
          refine lv_lload hx hb dX7_findRoots_165 (lv_at hl 3 rfl) ?_
          refine lv_ldc2 hx hb hown hw0 dX7_findRoots_167 ?_
          refine lv_lsub hx hb dX7_findRoots_170 ?_
          refine lv_goto (tgt := 180) hx hb dX7_findRoots_171 (by decide) ?_
          refine lv_topl (fun v21 q_v21 => ?_)
          have hwp := hwp v21 q_v21
          refine lv_lstore (lv' := [(11, .long v21), (0, .ref o0), (1, .long x1), (7, .long x7), (9, .long x9)]) hx hb dX7_findRoots_180 hl (by decide) rfl (fun ls hl => ?_)
          exact wL182 _ _ _ _ _ _ _ _ _ _ hwp hz (lv_sub hl [1, 2, 3, 4, 0] rfl)
      · have hwp := hwp.2 (fun h => q ((lg_cmp_gt _ _).mpr h))
        refine lv_aload_n hx hb dX7_findRoots_114 rfl (lv_at hl 0 rfl) ?_
        refine lv_lload hx hb dX7_findRoots_115 (lv_at hl 4 rfl) ?_
        refine lv_lload hx hb dX7_findRoots_117 (lv_at hl 4 rfl) ?_
        refine lv_iconst (v := 1) hx hb dX7_findRoots_119 (by decide) ?_
        obtain ⟨hs22, hwp⟩ := hwp
        obtain ⟨P23, hc24, hwp⟩ := hwp
        refine sw_callv hz (va_runV (As := [.long x11, .long x11, .int 1]) (rest := []) ⟨hx, hb, hml, hown, hts⟩ (hc24 hK _) (cwV 3 hts gX7_findRoots_X7_look rfl rfl rfl (by decide +kernel) ⟨Nat.le_of_ble_eq_true rfl, Nat.le_of_ble_eq_true rfl⟩) (hz.preV hK hs22 rfl) rfl rfl hl.1 rfl (lv_room (Nat.le_of_ble_eq_true rfl)) dX7_findRoots_120 ⟨Nat.le_of_ble_eq_true rfl, Nat.le_of_ble_eq_true rfl⟩) (fun I25 L26 A27 H locs hp hz => ?_)
        have hwp := hwp I25 L26 A27 hp
        refine lv_lload hx hb dX7_findRoots_123 (lv_at hl 4 rfl) ?_
        refine lv_lconst (v := 1) hx hb dX7_findRoots_125 (by decide) ?_
        refine lv_ladd hx hb dX7_findRoots_126 ?_
        refine lv_topl (fun v28 q_v28 => ?_)
        have hwp := hwp v28 q_v28
        refine lv_lstore (lv' := [(11, .long v28), (0, .ref o0), (1, .long x1), (7, .long x7), (9, .long x9)]) hx hb dX7_findRoots_127 hl (by decide) rfl (fun ls hl => ?_)
        refine lv_goto (tgt := 102) hx hb dX7_findRoots_129 (by decide) ?_
        exact hC102 _ _ _ _ _ _ _ _ _ _ hwp hz (lv_sub hl [1, 2, 3, 4, 0] rfl)
    exact key μ I L A x1 x7 x9 x11 H locs ls hi hz hl
  refine lv_aload_n hx hb dX7_findRoots_0 rfl (lv_at hl 0 rfl) ?_
  refine lv_iconst (v := 0) hx hb dX7_findRoots_1 (by decide) ?_
  obtain ⟨hs29, hwp⟩ := hwp
  refine sw_putI (C := RX7) (T := TX7) (N := 25) hx hb hts hw2 tyX7 tyX7_ok nmX7 hown hK hz hs29 rfl 23 (by decide) hw3 (fun _ h9 => h9) rfl (by decide +kernel) rfl dX7_findRoots_2 (fun H locs I30 e_I30 hz => ?_)
  have hwp := hwp I30 e_I30
  refine lv_ldc2 hx hb hown hw4 dX7_findRoots_5 ?_
  refine lv_lstore_n (lv' := [(1, .long 600000), (0, .ref o0)]) hx hb dX7_findRoots_8 rfl hl (by decide) rfl (fun ls hl => ?_)
  refine lv_aload_n hx hb dX7_findRoots_9 rfl (lv_at hl 1 rfl) ?_
  refine sw_get (C := RX7) (T := TX7) (N := 25) (v := .long (L o0 20)) hx hb hts hw2 hown hK hz hs29 rfl 20 (by decide) hw5 (fun _ h9 => h9) rfl dX7_findRoots_10 ?_
  refine lv_aload_n hx hb dX7_findRoots_13 rfl (lv_at hl 1 rfl) ?_
  refine sw_get (C := RX7) (T := TX7) (N := 25) (v := .long (L o0 20)) hx hb hts hw2 hown hK hz hs29 rfl 20 (by decide) hw5 (fun _ h9 => h9) rfl dX7_findRoots_14 ?_
  refine lv_lmul hx hb dX7_findRoots_17 ?_
  refine lv_ldc2 hx hb hown hw1 dX7_findRoots_18 ?_
  refine lv_aload_n hx hb dX7_findRoots_21 rfl (lv_at hl 1 rfl) ?_
  refine sw_get (C := RX7) (T := TX7) (N := 25) (v := .long (L o0 21)) hx hb hts hw2 hown hK hz hs29 rfl 21 (by decide) hw6 (fun _ h9 => h9) rfl dX7_findRoots_22 ?_
  refine lv_lmul hx hb dX7_findRoots_25 ?_
  refine lv_lsub hx hb dX7_findRoots_26 ?_
  refine lv_topl (fun v31 q_v31 => ?_)
  have hwp := hwp v31 q_v31
  refine lv_lstore_n (lv' := [(3, .long v31), (1, .long 600000), (0, .ref o0)]) hx hb dX7_findRoots_27 rfl hl (by decide) rfl (fun ls hl => ?_)
  refine lv_lload_n hx hb dX7_findRoots_28 rfl (lv_at hl 0 rfl) ?_
  refine lv_lconst (v := 0) hx hb dX7_findRoots_29 (by decide) ?_
  refine W.lcmp hx hb dX7_findRoots_30 ?_
  refine W.eq (g2 := F0 m 31 ls [.int (lg_cmp v31 0)]) rfl ?_
  refine lv_if_gt (tgt := 43) hx hb dX7_findRoots_31 (by decide) (fun q => ?_) (fun q => ?_)
  · have hwp := hwp.1 ((lg_cmp_gt _ _).mp q)
    refine lv_lload_n hx hb dX7_findRoots_43 rfl (lv_at hl 0 rfl) ?_
    obtain ⟨P32, hc33, hwp⟩ := hwp
    refine sw_calll hz (va_runS (As := [.long v31]) (rest := []) ⟨hx, hb, hml, hown, hts⟩ (hc33 hK _) (va_cwS 1 hts gX7_findRoots_X7_root rfl rfl rfl (by decide +kernel) ⟨Nat.le_of_ble_eq_true rfl, Nat.le_of_ble_eq_true rfl⟩) hz.preS rfl rfl hl.1 rfl (lv_room (Nat.le_of_ble_eq_true rfl)) dX7_findRoots_44 ⟨Nat.le_of_ble_eq_true rfl, Nat.le_of_ble_eq_true rfl⟩) (fun r37 I34 L35 A36 H locs hp hz => ?_)
    have hwp := hwp r37 I34 L35 A36 hp
    refine lv_lstore (lv' := [(5, .long r37), (3, .long v31), (1, .long 600000), (0, .ref o0)]) hx hb dX7_findRoots_47 hl (by decide) rfl (fun ls hl => ?_)
    refine lv_aload_n hx hb dX7_findRoots_49 rfl (lv_at hl 3 rfl) ?_
    refine sw_get (C := RX7) (T := TX7) (N := 25) (v := .long (L35 o0 20)) hx hb hts hw2 hown hK hz hs29 rfl 20 (by decide) hw5 (fun _ h9 => h9) rfl dX7_findRoots_50 ?_
    refine lv_lneg hx hb dX7_findRoots_53 ?_
    refine lv_lload hx hb dX7_findRoots_54 (lv_at hl 0 rfl) ?_
    refine lv_lsub hx hb dX7_findRoots_56 ?_
    refine lv_lconst (v := 1) hx hb dX7_findRoots_57 (by decide) ?_
    refine lv_lsub hx hb dX7_findRoots_58 ?_
    refine lv_ldc2 hx hb hown hw1 dX7_findRoots_59 ?_
    obtain ⟨P38, hc39, hwp⟩ := hwp
    refine sw_calll hz (va_runS (As := [.long (((-(L35 o0 20)) - r37) - 1), .long 3]) (rest := []) ⟨hx, hb, hml, hown, hts⟩ (hc39 hK _) (va_cwS 2 hts gX7_findRoots_X7_below rfl rfl rfl (by decide +kernel) ⟨Nat.le_of_ble_eq_true rfl, Nat.le_of_ble_eq_true rfl⟩) hz.preS rfl rfl hl.1 rfl (lv_room (Nat.le_of_ble_eq_true rfl)) dX7_findRoots_62 ⟨Nat.le_of_ble_eq_true rfl, Nat.le_of_ble_eq_true rfl⟩) (fun r43 I40 L41 A42 H locs hp hz => ?_)
    have hwp := hwp r43 I40 L41 A42 hp
    refine lv_lstore (lv' := [(7, .long r43), (5, .long r37), (3, .long v31), (1, .long 600000), (0, .ref o0)]) hx hb dX7_findRoots_65 hl (by decide) rfl (fun ls hl => ?_)
    refine lv_aload_n hx hb dX7_findRoots_67 rfl (lv_at hl 4 rfl) ?_
    refine sw_get (C := RX7) (T := TX7) (N := 25) (v := .long (L41 o0 20)) hx hb hts hw2 hown hK hz hs29 rfl 20 (by decide) hw5 (fun _ h9 => h9) rfl dX7_findRoots_68 ?_
    refine lv_lneg hx hb dX7_findRoots_71 ?_
    refine lv_lload hx hb dX7_findRoots_72 (lv_at hl 1 rfl) ?_
    refine lv_ladd hx hb dX7_findRoots_74 ?_
    refine lv_lconst (v := 1) hx hb dX7_findRoots_75 (by decide) ?_
    refine lv_ladd hx hb dX7_findRoots_76 ?_
    refine lv_ldc2 hx hb hown hw1 dX7_findRoots_77 ?_
    obtain ⟨P44, hc45, hwp⟩ := hwp
    refine sw_calll hz (va_runS (As := [.long (((-(L41 o0 20)) + r37) + 1), .long 3]) (rest := []) ⟨hx, hb, hml, hown, hts⟩ (hc45 hK _) (va_cwS 2 hts gX7_findRoots_X7_below rfl rfl rfl (by decide +kernel) ⟨Nat.le_of_ble_eq_true rfl, Nat.le_of_ble_eq_true rfl⟩) hz.preS rfl rfl hl.1 rfl (lv_room (Nat.le_of_ble_eq_true rfl)) dX7_findRoots_80 ⟨Nat.le_of_ble_eq_true rfl, Nat.le_of_ble_eq_true rfl⟩) (fun r49 I46 L47 A48 H locs hp hz => ?_)
    have hwp := hwp r49 I46 L47 A48 hp
    refine lv_lconst (v := 1) hx hb dX7_findRoots_83 (by decide) ?_
    refine lv_ladd hx hb dX7_findRoots_84 ?_
    refine lv_topl (fun v50 q_v50 => ?_)
    have hwp := hwp v50 q_v50
    refine lv_lstore (lv' := [(9, .long v50), (7, .long r43), (5, .long r37), (3, .long v31), (1, .long 600000), (0, .ref o0)]) hx hb dX7_findRoots_85 hl (by decide) rfl (fun ls hl => ?_)
    refine lv_aload_n hx hb dX7_findRoots_87 rfl (lv_at hl 5 rfl) ?_
    refine lv_lload_n hx hb dX7_findRoots_88 rfl (lv_at hl 4 rfl) ?_
    refine lv_lneg hx hb dX7_findRoots_89 ?_
    refine lv_lload hx hb dX7_findRoots_90 (lv_at hl 1 rfl) ?_
    refine lv_lconst (v := 1) hx hb dX7_findRoots_92 (by decide) ?_
    refine lv_lsub hx hb dX7_findRoots_93 ?_
    refine lv_iconst (v := 1) hx hb dX7_findRoots_94 (by decide) ?_
    obtain ⟨P51, hc52, hwp⟩ := hwp
    refine sw_callv hz (va_runV (As := [.long (-600000), .long (r43 - 1), .int 1]) (rest := []) ⟨hx, hb, hml, hown, hts⟩ (hc52 hK _) (cwV 3 hts gX7_findRoots_X7_look rfl rfl rfl (by decide +kernel) ⟨Nat.le_of_ble_eq_true rfl, Nat.le_of_ble_eq_true rfl⟩) (hz.preV hK hs29 rfl) rfl rfl hl.1 rfl (lv_room (Nat.le_of_ble_eq_true rfl)) dX7_findRoots_95 ⟨Nat.le_of_ble_eq_true rfl, Nat.le_of_ble_eq_true rfl⟩) (fun I53 L54 A55 H locs hp hz => ?_)
    have hwp := hwp I53 L54 A55 hp
    refine lv_lload hx hb dX7_findRoots_98 (lv_at hl 1 rfl) ?_
    refine lv_lstore (lv' := [(11, .long r43), (9, .long v50), (7, .long r43), (5, .long r37), (3, .long v31), (1, .long 600000), (0, .ref o0)]) hx hb dX7_findRoots_100 hl (by decide) rfl (fun ls hl => ?_)
    exact wL102 _ _ _ _ _ _ _ _ _ _ hwp hz (lv_sub hl [6, 5, 2, 1, 0] rfl)
  · have hwp := hwp.2 (fun h => q ((lg_cmp_gt _ _).mpr h))
    refine lv_aload_n hx hb dX7_findRoots_34 rfl (lv_at hl 2 rfl) ?_
    refine lv_lload_n hx hb dX7_findRoots_35 rfl (lv_at hl 1 rfl) ?_
    refine lv_lneg hx hb dX7_findRoots_36 ?_
    refine lv_lload_n hx hb dX7_findRoots_37 rfl (lv_at hl 1 rfl) ?_
    refine lv_iconst (v := 1) hx hb dX7_findRoots_38 (by decide) ?_
    obtain ⟨P56, hc57, hwp⟩ := hwp
    refine sw_callv hz (va_runV (As := [.long (-600000), .long 600000, .int 1]) (rest := []) ⟨hx, hb, hml, hown, hts⟩ (hc57 hK _) (cwV 3 hts gX7_findRoots_X7_look rfl rfl rfl (by decide +kernel) ⟨Nat.le_of_ble_eq_true rfl, Nat.le_of_ble_eq_true rfl⟩) (hz.preV hK hs29 rfl) rfl rfl hl.1 rfl (lv_room (Nat.le_of_ble_eq_true rfl)) dX7_findRoots_39 ⟨Nat.le_of_ble_eq_true rfl, Nat.le_of_ble_eq_true rfl⟩) (fun I58 L59 A60 H locs hp hz => ?_)
    have hwp := hwp I58 L59 A60 hp
    exact sw_vret hx hb hret hlocks hz hwp dX7_findRoots_42

def wp_X7_isSquareBeside_80 (K : Cx) (j0 : Int64) (j2 : Int64) (I : TI) (L : TL) (A : TA) (x4 : Int64) (y0 : Int64) (Q : Int32 → TI → TL → TA → Prop) : Prop := ¬ x4 = 0 ∧ ∃ P2 : Int32 → TI → TL → TA → Prop, ConI K yX7_isSquare wsX7_isSquare 1 27 I L A [.long (y0 / x4)] P2 ∧ ∀ (r7 : Int32) (I4 : TI) (L5 : TL) (A6 : TA), P2 r7 I4 L5 A6 → ((r7 = 0 → Q 0 I4 L5 A6) ∧ (¬ r7 = 0 → Q 1 I4 L5 A6))
def wp_X7_isSquareBeside_59 (K : Cx) (j0 : Int64) (j2 : Int64) (I : TI) (L : TL) (A : TA) (x4 : Int64) (y0 : Int64) (Q : Int32 → TI → TL → TA → Prop) : Prop := ¬ x4 = 0 ∧ ∃ P9 : Int32 → TI → TL → TA → Prop, ConI K yX7_isSquare wsX7_isSquare 1 27 I L A [.long (y0 / x4)] P9 ∧ ∀ (r14 : Int32) (I11 : TI) (L12 : TL) (A13 : TA), P9 r14 I11 L12 A13 → ((r14 = 0 → Q 0 I11 L12 A13) ∧ (¬ r14 = 0 → ((0 ≤ j2 → wp_X7_isSquareBeside_80 K j0 j2 I11 L12 A13 x4 j2 Q) ∧ (¬ 0 ≤ j2 → wp_X7_isSquareBeside_80 K j0 j2 I11 L12 A13 x4 (-j2) Q))))
def wp_X7_isSquareBeside_44 (K : Cx) (j0 : Int64) (j2 : Int64) (I : TI) (L : TL) (A : TA) (x4 : Int64) (y0 : Int32) (y1 : Int32) (Q : Int32 → TI → TL → TA → Prop) : Prop := ((y1 = y0 → ((0 ≤ j0 → wp_X7_isSquareBeside_59 K j0 j2 I L A x4 j0 Q) ∧ (¬ 0 ≤ j0 → wp_X7_isSquareBeside_59 K j0 j2 I L A x4 (-j0) Q))) ∧ (¬ y1 = y0 → Q 0 I L A))
def wp_X7_isSquareBeside_33 (K : Cx) (j0 : Int64) (j2 : Int64) (I : TI) (L : TL) (A : TA) (x4 : Int64) (y0 : Int32) (Q : Int32 → TI → TL → TA → Prop) : Prop := ((0 ≤ j2 → wp_X7_isSquareBeside_44 K j0 j2 I L A x4 0 y0 Q) ∧ (¬ 0 ≤ j2 → wp_X7_isSquareBeside_44 K j0 j2 I L A x4 1 y0 Q))
def wp_X7_isSquareBeside (K : Cx) (I : TI) (L : TL) (A : TA) (j0 : Int64) (j2 : Int64) (Q : Int32 → TI → TL → TA → Prop) : Prop := ((j0 = 0 → Q 1 I L A) ∧ (¬ j0 = 0 → ∃ P15 : Int32 → TI → TL → TA → Prop, ConI K yX7_isSquare wsX7_isSquare 1 27 I L A [.long j0] P15 ∧ ∀ (r20 : Int32) (I17 : TI) (L18 : TL) (A19 : TA), P15 r20 I17 L18 A19 → ((r20 = 0 → ∃ P21 : Int64 → TI → TL → TA → Prop, ConL K yX7_gcd wsX7_gcd 0 0 I17 L18 A19 [.long j0, .long j2] P21 ∧ ∀ (r26 : Int64) (I23 : TI) (L24 : TL) (A25 : TA), P21 r26 I23 L24 A25 → ((0 ≤ j0 → wp_X7_isSquareBeside_33 K j0 j2 I23 L24 A25 r26 0 Q) ∧ (¬ 0 ≤ j0 → wp_X7_isSquareBeside_33 K j0 j2 I23 L24 A25 r26 1 Q))) ∧ (¬ r20 = 0 → Q 1 I17 L18 A19))))
set_option maxHeartbeats 1000000 in
set_option maxRecDepth 100000 in
theorem w_X7_isSquareBeside (K : Cx) (I : TI) (L : TL) (A : TA) (j0 : Int64) (j2 : Int64) (Q : Int32 → TI → TL → TA → Prop) (hwp : wp_X7_isSquareBeside K I L A j0 j2 Q) : ConI K yX7_isSquareBeside wsX7_isSquareBeside 2 48 I L A [.long j0, .long j2] Q := by
  intro hK sz
  refine Met.ofW (cc := cX7_isSquareBeside) (maxL := 6) (ret := (some .boolean)) (by decide) rfl ?_
  intro p e s m args below meth c s₁ B hml hv
  obtain ⟨rfl, hsz, hB⟩ := hv
  have hx := B.exec
  have hb := B.bytes
  have hret := B.returns
  have hts := atoms_spec (ws := wsX7_isSquareBeside) B.pre
  have hown : s.vm.findClass RX7 = some m.cls := findClass_of_methodNamed B.named
  have hlocks := B.notSynchronized
  subst hsz
  have hz : SS K s I L A s.heap [] := PS.start hB
  have hl := lv_entry ([.long j0, .long j2]) (n := 6) (Nat.le_of_ble_eq_true rfl)
  rw [lg_entry_eq]
  generalize (lg_sl ([.long j0, .long j2]) ++ List.replicate (6 - (lg_sl ([.long j0, .long j2])).length) Slot.unset).toArray = ls at hl ⊢
  have hl : lv_has ls 6 [(0, .long j0), (2, .long j2)] := hl
  clear hB B
  have wL80 : ∀ (I : TI) (L : TL) (A : TA) (x4 : Int64) (y0 : Int64) (H : Heap) (locs : List Loc) (ls : Array Slot), wp_X7_isSquareBeside_80 K j0 j2 I L A x4 y0 Q → SS K s I L A H locs → lv_has ls 6 [(4, .long x4)] → W p (cxl K) e (headSpec wsX7_isSquareBeside (rmF 2 48)).room s m ([.long j0, .long j2] : List Value).toArray below meth c H locs 0 0 (MQ below (cxQi K Q) ([.long j0, .long j2] : List Value).toArray s 0 0 (PA (cxb K))) (F0 m 80 ls [.long y0]) := by
    intro I L A x4 y0 H locs ls hwp hz hl
    refine lv_lload hx hb dX7_isSquareBeside_80 (lv_at hl 0 rfl) ?_
    obtain ⟨hn1, hwp⟩ := hwp
    refine lv_ldiv hx hb dX7_isSquareBeside_82 hn1 ?_
    obtain ⟨P2, hc3, hwp⟩ := hwp
    refine sw_calli hz (va_runS (As := [.long (y0 / x4)]) (rest := []) ⟨hx, hb, hml, hown, hts⟩ (hc3 hK _) (va_cwS 1 hts gX7_isSquareBeside_X7_isSquare rfl rfl rfl (by decide +kernel) ⟨Nat.le_of_ble_eq_true rfl, Nat.le_of_ble_eq_true rfl⟩) hz.preS rfl rfl hl.1 rfl (lv_room (Nat.le_of_ble_eq_true rfl)) dX7_isSquareBeside_83 ⟨Nat.le_of_ble_eq_true rfl, Nat.le_of_ble_eq_true rfl⟩) (fun r7 I4 L5 A6 H locs hp hz => ?_)
    have hwp := hwp r7 I4 L5 A6 hp
    refine lv_if_eq (tgt := 93) hx hb dX7_isSquareBeside_86 (by decide) (fun q => ?_) (fun q => ?_)
    · have hwp := hwp.1 q
      refine lv_iconst (v := 0) hx hb dX7_isSquareBeside_93 (by decide) ?_
      exact sw_zret hx hb hret hlocks hz (Or.inl rfl) hwp dX7_isSquareBeside_94
    · have hwp := hwp.2 q
      refine lv_iconst (v := 1) hx hb dX7_isSquareBeside_89 (by decide) ?_
      refine lv_goto (tgt := 94) hx hb dX7_isSquareBeside_90 (by decide) ?_
      exact sw_zret hx hb hret hlocks hz (Or.inr rfl) hwp dX7_isSquareBeside_94
  have wL59 : ∀ (I : TI) (L : TL) (A : TA) (x4 : Int64) (y0 : Int64) (H : Heap) (locs : List Loc) (ls : Array Slot), wp_X7_isSquareBeside_59 K j0 j2 I L A x4 y0 Q → SS K s I L A H locs → lv_has ls 6 [(2, .long j2), (4, .long x4)] → W p (cxl K) e (headSpec wsX7_isSquareBeside (rmF 2 48)).room s m ([.long j0, .long j2] : List Value).toArray below meth c H locs 0 0 (MQ below (cxQi K Q) ([.long j0, .long j2] : List Value).toArray s 0 0 (PA (cxb K))) (F0 m 59 ls [.long y0]) := by
    intro I L A x4 y0 H locs ls hwp hz hl
    refine lv_lload hx hb dX7_isSquareBeside_59 (lv_at hl 1 rfl) ?_
    obtain ⟨hn8, hwp⟩ := hwp
    refine lv_ldiv hx hb dX7_isSquareBeside_61 hn8 ?_
    obtain ⟨P9, hc10, hwp⟩ := hwp
    refine sw_calli hz (va_runS (As := [.long (y0 / x4)]) (rest := []) ⟨hx, hb, hml, hown, hts⟩ (hc10 hK _) (va_cwS 1 hts gX7_isSquareBeside_X7_isSquare rfl rfl rfl (by decide +kernel) ⟨Nat.le_of_ble_eq_true rfl, Nat.le_of_ble_eq_true rfl⟩) hz.preS rfl rfl hl.1 rfl (lv_room (Nat.le_of_ble_eq_true rfl)) dX7_isSquareBeside_62 ⟨Nat.le_of_ble_eq_true rfl, Nat.le_of_ble_eq_true rfl⟩) (fun r14 I11 L12 A13 H locs hp hz => ?_)
    have hwp := hwp r14 I11 L12 A13 hp
    refine lv_if_eq (tgt := 93) hx hb dX7_isSquareBeside_65 (by decide) (fun q => ?_) (fun q => ?_)
    · have hwp := hwp.1 q
      refine lv_iconst (v := 0) hx hb dX7_isSquareBeside_93 (by decide) ?_
      exact sw_zret hx hb hret hlocks hz (Or.inl rfl) hwp dX7_isSquareBeside_94
    · have hwp := hwp.2 q
      refine lv_lload_n hx hb dX7_isSquareBeside_68 rfl (lv_at hl 0 rfl) ?_
      refine lv_lconst (v := 0) hx hb dX7_isSquareBeside_69 (by decide) ?_
      refine W.lcmp hx hb dX7_isSquareBeside_70 ?_
      refine W.eq (g2 := F0 m 71 ls [.int (lg_cmp j2 0)]) rfl ?_
      refine lv_if_ge (tgt := 79) hx hb dX7_isSquareBeside_71 (by decide) (fun q => ?_) (fun q => ?_)
      · have hwp := hwp.1 ((lg_cmp_ge _ _).mp q)
        refine lv_lload_n hx hb dX7_isSquareBeside_79 rfl (lv_at hl 0 rfl) ?_
        exact wL80 _ _ _ _ _ _ _ _ hwp hz (lv_sub hl [1] rfl)
      · have hwp := hwp.2 (fun h => q ((lg_cmp_ge _ _).mpr h))
        refine lv_lload_n hx hb dX7_isSquareBeside_74 rfl (lv_at hl 0 rfl) ?_
        refine lv_lneg hx hb dX7_isSquareBeside_75 ?_
        refine lv_goto (tgt := 80) hx hb dX7_isSquareBeside_76 (by decide) ?_
        exact wL80 _ _ _ _ _ _ _ _ hwp hz (lv_sub hl [1] rfl)
  have wL44 : ∀ (I : TI) (L : TL) (A : TA) (x4 : Int64) (y0 : Int32) (y1 : Int32) (H : Heap) (locs : List Loc) (ls : Array Slot), wp_X7_isSquareBeside_44 K j0 j2 I L A x4 y0 y1 Q → SS K s I L A H locs → lv_has ls 6 [(0, .long j0), (2, .long j2), (4, .long x4)] → W p (cxl K) e (headSpec wsX7_isSquareBeside (rmF 2 48)).room s m ([.long j0, .long j2] : List Value).toArray below meth c H locs 0 0 (MQ below (cxQi K Q) ([.long j0, .long j2] : List Value).toArray s 0 0 (PA (cxb K))) (F0 m 44 ls [.int y0, .int y1]) := by
    intro I L A x4 y0 y1 H locs ls hwp hz hl
    refine lv_icmp_ne (tgt := 93) hx hb dX7_isSquareBeside_44 (by decide) (fun q => ?_) (fun q => ?_)
    · have hwp := hwp.2 q
      refine lv_iconst (v := 0) hx hb dX7_isSquareBeside_93 (by decide) ?_
      exact sw_zret hx hb hret hlocks hz (Or.inl rfl) hwp dX7_isSquareBeside_94
    · have hwp := hwp.1 q
      refine lv_lload_n hx hb dX7_isSquareBeside_47 rfl (lv_at hl 0 rfl) ?_
      refine lv_lconst (v := 0) hx hb dX7_isSquareBeside_48 (by decide) ?_
      refine W.lcmp hx hb dX7_isSquareBeside_49 ?_
      refine W.eq (g2 := F0 m 50 ls [.int (lg_cmp j0 0)]) rfl ?_
      refine lv_if_ge (tgt := 58) hx hb dX7_isSquareBeside_50 (by decide) (fun q => ?_) (fun q => ?_)
      · have hwp := hwp.1 ((lg_cmp_ge _ _).mp q)
        refine lv_lload_n hx hb dX7_isSquareBeside_58 rfl (lv_at hl 0 rfl) ?_
        exact wL59 _ _ _ _ _ _ _ _ hwp hz (lv_sub hl [1, 2] rfl)
      · have hwp := hwp.2 (fun h => q ((lg_cmp_ge _ _).mpr h))
        refine lv_lload_n hx hb dX7_isSquareBeside_53 rfl (lv_at hl 0 rfl) ?_
        refine lv_lneg hx hb dX7_isSquareBeside_54 ?_
        refine lv_goto (tgt := 59) hx hb dX7_isSquareBeside_55 (by decide) ?_
        exact wL59 _ _ _ _ _ _ _ _ hwp hz (lv_sub hl [1, 2] rfl)
  have wL33 : ∀ (I : TI) (L : TL) (A : TA) (x4 : Int64) (y0 : Int32) (H : Heap) (locs : List Loc) (ls : Array Slot), wp_X7_isSquareBeside_33 K j0 j2 I L A x4 y0 Q → SS K s I L A H locs → lv_has ls 6 [(0, .long j0), (2, .long j2), (4, .long x4)] → W p (cxl K) e (headSpec wsX7_isSquareBeside (rmF 2 48)).room s m ([.long j0, .long j2] : List Value).toArray below meth c H locs 0 0 (MQ below (cxQi K Q) ([.long j0, .long j2] : List Value).toArray s 0 0 (PA (cxb K))) (F0 m 33 ls [.int y0]) := by
    intro I L A x4 y0 H locs ls hwp hz hl
    refine lv_lload_n hx hb dX7_isSquareBeside_33 rfl (lv_at hl 1 rfl) ?_
    refine lv_lconst (v := 0) hx hb dX7_isSquareBeside_34 (by decide) ?_
    refine W.lcmp hx hb dX7_isSquareBeside_35 ?_
    refine W.eq (g2 := F0 m 36 ls [.int (lg_cmp j2 0), .int y0]) rfl ?_
    refine lv_if_ge (tgt := 43) hx hb dX7_isSquareBeside_36 (by decide) (fun q => ?_) (fun q => ?_)
    · have hwp := hwp.1 ((lg_cmp_ge _ _).mp q)
      refine lv_iconst (v := 0) hx hb dX7_isSquareBeside_43 (by decide) ?_
      exact wL44 _ _ _ _ _ _ _ _ _ hwp hz (lv_sub hl [0, 1, 2] rfl)
    · have hwp := hwp.2 (fun h => q ((lg_cmp_ge _ _).mpr h))
      refine lv_iconst (v := 1) hx hb dX7_isSquareBeside_39 (by decide) ?_
      refine lv_goto (tgt := 44) hx hb dX7_isSquareBeside_40 (by decide) ?_
      exact wL44 _ _ _ _ _ _ _ _ _ hwp hz (lv_sub hl [0, 1, 2] rfl)
  refine lv_lload_n hx hb dX7_isSquareBeside_0 rfl (lv_at hl 0 rfl) ?_
  refine lv_lconst (v := 0) hx hb dX7_isSquareBeside_1 (by decide) ?_
  refine W.lcmp hx hb dX7_isSquareBeside_2 ?_
  refine W.eq (g2 := F0 m 3 ls [.int (lg_cmp j0 0)]) rfl ?_
  refine lv_if_eq (tgt := 13) hx hb dX7_isSquareBeside_3 (by decide) (fun q => ?_) (fun q => ?_)
  · have hwp := hwp.1 ((lg_cmp_eq _ _).mp q)
    refine lv_iconst (v := 1) hx hb dX7_isSquareBeside_13 (by decide) ?_
    exact sw_zret hx hb hret hlocks hz (Or.inr rfl) hwp dX7_isSquareBeside_14
  · have hwp := hwp.2 (fun h => q ((lg_cmp_eq _ _).mpr h))
    refine lv_lload_n hx hb dX7_isSquareBeside_6 rfl (lv_at hl 0 rfl) ?_
    obtain ⟨P15, hc16, hwp⟩ := hwp
    refine sw_calli hz (va_runS (As := [.long j0]) (rest := []) ⟨hx, hb, hml, hown, hts⟩ (hc16 hK _) (va_cwS 1 hts gX7_isSquareBeside_X7_isSquare rfl rfl rfl (by decide +kernel) ⟨Nat.le_of_ble_eq_true rfl, Nat.le_of_ble_eq_true rfl⟩) hz.preS rfl rfl hl.1 rfl (lv_room (Nat.le_of_ble_eq_true rfl)) dX7_isSquareBeside_7 ⟨Nat.le_of_ble_eq_true rfl, Nat.le_of_ble_eq_true rfl⟩) (fun r20 I17 L18 A19 H locs hp hz => ?_)
    have hwp := hwp r20 I17 L18 A19 hp
    refine lv_if_eq (tgt := 15) hx hb dX7_isSquareBeside_10 (by decide) (fun q => ?_) (fun q => ?_)
    · have hwp := hwp.1 q
      refine lv_lload_n hx hb dX7_isSquareBeside_15 rfl (lv_at hl 0 rfl) ?_
      refine lv_lload_n hx hb dX7_isSquareBeside_16 rfl (lv_at hl 1 rfl) ?_
      obtain ⟨P21, hc22, hwp⟩ := hwp
      refine sw_calll hz (va_runS (As := [.long j0, .long j2]) (rest := []) ⟨hx, hb, hml, hown, hts⟩ (hc22 hK _) (va_cwS 2 hts gX7_isSquareBeside_X7_gcd rfl rfl rfl (by decide +kernel) ⟨Nat.le_of_ble_eq_true rfl, Nat.le_of_ble_eq_true rfl⟩) hz.preS rfl rfl hl.1 rfl (lv_room (Nat.le_of_ble_eq_true rfl)) dX7_isSquareBeside_17 ⟨Nat.le_of_ble_eq_true rfl, Nat.le_of_ble_eq_true rfl⟩) (fun r26 I23 L24 A25 H locs hp hz => ?_)
      have hwp := hwp r26 I23 L24 A25 hp
      refine lv_lstore (lv' := [(4, .long r26), (0, .long j0), (2, .long j2)]) hx hb dX7_isSquareBeside_20 hl (by decide) rfl (fun ls hl => ?_)
      refine lv_lload_n hx hb dX7_isSquareBeside_22 rfl (lv_at hl 1 rfl) ?_
      refine lv_lconst (v := 0) hx hb dX7_isSquareBeside_23 (by decide) ?_
      refine W.lcmp hx hb dX7_isSquareBeside_24 ?_
      refine W.eq (g2 := F0 m 25 ls [.int (lg_cmp j0 0)]) rfl ?_
      refine lv_if_ge (tgt := 32) hx hb dX7_isSquareBeside_25 (by decide) (fun q => ?_) (fun q => ?_)
      · have hwp := hwp.1 ((lg_cmp_ge _ _).mp q)
        refine lv_iconst (v := 0) hx hb dX7_isSquareBeside_32 (by decide) ?_
        exact wL33 _ _ _ _ _ _ _ _ hwp hz (lv_sub hl [1, 2, 0] rfl)
      · have hwp := hwp.2 (fun h => q ((lg_cmp_ge _ _).mpr h))
        refine lv_iconst (v := 1) hx hb dX7_isSquareBeside_28 (by decide) ?_
        refine lv_goto (tgt := 33) hx hb dX7_isSquareBeside_29 (by decide) ?_
        exact wL33 _ _ _ _ _ _ _ _ hwp hz (lv_sub hl [1, 2, 0] rfl)
    · have hwp := hwp.2 q
      refine lv_iconst (v := 1) hx hb dX7_isSquareBeside_13 (by decide) ?_
      exact sw_zret hx hb hret hlocks hz (Or.inr rfl) hwp dX7_isSquareBeside_14

