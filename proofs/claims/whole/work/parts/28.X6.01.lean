def wp_X6_times (K : Cx) (I : TI) (L : TL) (A : TA) (o0 : Nat) (i1 : Int32) (Q : Int32 → TI → TL → TA → Prop) : Prop := cxS K o0 = shX6 o0 ∧ cxS K (o0 + 24) = shX2 (o0 + 24) ∧ ∃ P3 : Int32 → TI → TL → TA → Prop, ConI K yX2_holds wsX2_holds 0 0 I L A [.ref (o0 + 24), .int i1] P3 ∧ ∀ (r8 : Int32) (I5 : TI) (L6 : TL) (A7 : TA), P3 r8 I5 L6 A7 → ((r8 = 0 → Q 0 I5 L6 A7) ∧ (¬ r8 = 0 → aok (cxS K) ((o0 + 24) + 14) 0 i1 ∧ Q (I5 ((o0 + 24) + 14) (ix i1)) I5 L6 A7))
set_option maxHeartbeats 1000000 in
set_option maxRecDepth 100000 in
theorem w_X6_times (K : Cx) (I : TI) (L : TL) (A : TA) (o0 : Nat) (i1 : Int32) (Q : Int32 → TI → TL → TA → Prop) (hwp : wp_X6_times K I L A o0 i1 Q) : ConI K yX6_times wsX6_times 1 21 I L A [.ref o0, .int i1] Q := by
  intro hK sz
  refine Met.ofW (cc := cX6_times) (maxL := 2) (ret := (some .int)) (by decide) rfl ?_
  intro p e s m args below meth c s₁ B hml hv
  obtain ⟨rfl, hsz, hB⟩ := hv
  have hx := B.exec
  have hb := B.bytes
  have hret := B.returns
  have hts := atoms_spec (ws := wsX6_times) B.pre
  have hown : s.vm.findClass RX6 = some m.cls := findClass_of_methodNamed B.named
  have hlocks := B.notSynchronized
  subst hsz
  have hz : SS K s I L A s.heap [] := PS.start hB
  have hl := lv_entry ([.ref o0, .int i1]) (n := 2) (Nat.le_of_ble_eq_true rfl)
  rw [lg_entry_eq]
  generalize (lg_sl ([.ref o0, .int i1]) ++ List.replicate (2 - (lg_sl ([.ref o0, .int i1])).length) Slot.unset).toArray = ls at hl ⊢
  have hl : lv_has ls 2 [(0, .ref o0), (1, .int i1)] := hl
  have hw0 : ∀ w ∈ u_ws RX6 TX6 9, w ∈ wsX6_times := by decide +kernel
  have hw1 := hts (.fieldLink RX6 33 "GaloisDesk" "told" "LGaloisDesk$PartList;") (by decide +kernel)
  have hw2 : ∀ w ∈ u_ws RX2 TX2 4, w ∈ wsX6_times := by decide +kernel
  have hw3 := hts (.fieldLink RX6 135 "GaloisDesk$PartList" "often" "[I") (by decide +kernel)
  clear hB B
  refine lv_aload_n hx hb dX6_times_0 rfl (lv_at hl 0 rfl) ?_
  obtain ⟨hs1, hwp⟩ := hwp
  refine sw_get (C := RX6) (T := TX6) (N := 9) (v := .ref (o0 + 24)) hx hb hts hw0 hown hK hz hs1 rfl 4 (by decide) hw1 (fun _ h9 => h9) rfl dX6_times_1 ?_
  refine lv_iload_n hx hb dX6_times_4 rfl (lv_at hl 1 rfl) ?_
  obtain ⟨hs2, hwp⟩ := hwp
  obtain ⟨P3, hc4, hwp⟩ := hwp
  refine sw_calli hz (va_runV (As := [.int i1]) (rest := []) ⟨hx, hb, hml, hown, hts⟩ (hc4 hK _) (cwV 1 hts gX6_times_X2_holds rfl rfl rfl (by decide +kernel) ⟨Nat.le_of_ble_eq_true rfl, Nat.le_of_ble_eq_true rfl⟩) (hz.preV hK hs2 rfl) rfl rfl hl.1 rfl (lv_room (Nat.le_of_ble_eq_true rfl)) dX6_times_5 ⟨Nat.le_of_ble_eq_true rfl, Nat.le_of_ble_eq_true rfl⟩) (fun r8 I5 L6 A7 H locs hp hz => ?_)
  have hwp := hwp r8 I5 L6 A7 hp
  refine lv_if_eq (tgt := 23) hx hb dX6_times_8 (by decide) (fun q => ?_) (fun q => ?_)
  · have hwp := hwp.1 q
    refine lv_iconst (v := 0) hx hb dX6_times_23 (by decide) ?_
    exact sw_iret hx hb hret hlocks hz hwp dX6_times_24
  · have hwp := hwp.2 q
    refine lv_aload_n hx hb dX6_times_11 rfl (lv_at hl 0 rfl) ?_
    refine sw_get (C := RX6) (T := TX6) (N := 9) (v := .ref (o0 + 24)) hx hb hts hw0 hown hK hz hs1 rfl 4 (by decide) hw1 (fun _ h9 => h9) rfl dX6_times_12 ?_
    refine sw_get (C := RX2) (T := TX2) (N := 4) (v := .ref ((o0 + 24) + 14)) hx hb hts hw2 hown hK hz hs2 rfl 1 (by decide) hw3 (fun _ h9 => h9) rfl dX6_times_15 ?_
    refine lv_iload_n hx hb dX6_times_18 rfl (lv_at hl 1 rfl) ?_
    obtain ⟨ho9, hwp⟩ := hwp
    refine sw_iald hx hb hK hz ho9 dX6_times_19 ?_
    refine lv_goto (tgt := 24) hx hb dX6_times_20 (by decide) ?_
    exact sw_iret hx hb hret hlocks hz hwp dX6_times_24

