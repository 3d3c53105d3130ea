def wp_X3_useModulus (K : Cx) (I : TI) (L : TL) (A : TA) (o0 : Nat) (j1 : Int64) (Q : TI → TL → TA → Prop) : Prop := ((2 ≤ j1 → cxS K o0 = shX3 o0 ∧ ∀ L2 : TL, L2 = u2 L o0 0 j1 → Q I L2 A) ∧ (¬ 2 ≤ j1 → cxS K o0 = shX3 o0 ∧ ∀ L4 : TL, L4 = u2 L o0 0 2 → Q I L4 A))
set_option maxHeartbeats 1000000 in
set_option maxRecDepth 100000 in
theorem w_X3_useModulus (K : Cx) (I : TI) (L : TL) (A : TA) (o0 : Nat) (j1 : Int64) (Q : TI → TL → TA → Prop) (hwp : wp_X3_useModulus K I L A o0 j1 Q) : ConV K yX3_useModulus wsX3_useModulus 0 0 I L A [.ref o0, .long j1] Q := by
  intro hK sz
  refine Met.ofW (cc := cX3_useModulus) (maxL := 3) (ret := none) (by decide) rfl ?_
  intro p e s m args below meth c s₁ B hml hv
  obtain ⟨rfl, hsz, hB⟩ := hv
  have hx := B.exec
  have hb := B.bytes
  have hret := B.returns
  have hts := atoms_spec (ws := wsX3_useModulus) B.pre
  have hown : s.vm.findClass RX3 = some m.cls := findClass_of_methodNamed B.named
  have hlocks := B.notSynchronized
  subst hsz
  have hz : SS K s I L A s.heap [] := PS.start hB
  have hl := lv_entry ([.ref o0, .long j1]) (n := 3) (Nat.le_of_ble_eq_true rfl)
  rw [lg_entry_eq]
  generalize (lg_sl ([.ref o0, .long j1]) ++ List.replicate (3 - (lg_sl ([.ref o0, .long j1])).length) Slot.unset).toArray = ls at hl ⊢
  have hl : lv_has ls 3 [(0, .ref o0), (1, .long j1)] := hl
  have hw0 := hts (.constantLong RX3 9 (2)) (by decide +kernel)
  have hw1 : ∀ w ∈ u_ws RX3 TX3 4, w ∈ wsX3_useModulus := by decide +kernel
  have hw2 := hts (.fieldLink RX3 11 "GaloisDesk$Residues" "modulus" "J") (by decide +kernel)
  clear hB B
  refine lv_aload_n hx hb dX3_useModulus_0 rfl (lv_at hl 0 rfl) ?_
  refine lv_lload_n hx hb dX3_useModulus_1 rfl (lv_at hl 1 rfl) ?_
  refine lv_ldc2 hx hb hown hw0 dX3_useModulus_2 ?_
  refine W.lcmp hx hb dX3_useModulus_5 ?_
  refine W.eq (g2 := F0 m 6 ls [.int (lg_cmp j1 2), .ref o0]) rfl ?_
  refine lv_if_ge (tgt := 15) hx hb dX3_useModulus_6 (by decide) (fun q => ?_) (fun q => ?_)
  · have hwp := hwp.1 ((lg_cmp_ge _ _).mp q)
    refine lv_lload_n hx hb dX3_useModulus_15 rfl (lv_at hl 1 rfl) ?_
    obtain ⟨hs1, hwp⟩ := hwp
    refine sw_putL (C := RX3) (T := TX3) (N := 4) hx hb hts hw1 tyX3 tyX3_ok nmX3 hown hK hz hs1 rfl 0 (by decide) hw2 (fun _ h9 => h9) rfl (by decide +kernel) rfl dX3_useModulus_16 (fun H locs L2 e_L2 hz => ?_)
    have hwp := hwp L2 e_L2
    exact sw_vret hx hb hret hlocks hz hwp dX3_useModulus_19
  · have hwp := hwp.2 (fun h => q ((lg_cmp_ge _ _).mpr h))
    refine lv_ldc2 hx hb hown hw0 dX3_useModulus_9 ?_
    refine lv_goto (tgt := 16) hx hb dX3_useModulus_12 (by decide) ?_
    obtain ⟨hs3, hwp⟩ := hwp
    refine sw_putL (C := RX3) (T := TX3) (N := 4) hx hb hts hw1 tyX3 tyX3_ok nmX3 hown hK hz hs3 rfl 0 (by decide) hw2 (fun _ h9 => h9) rfl (by decide +kernel) rfl dX3_useModulus_16 (fun H locs L4 e_L4 hz => ?_)
    have hwp := hwp L4 e_L4
    exact sw_vret hx hb hret hlocks hz hwp dX3_useModulus_19

