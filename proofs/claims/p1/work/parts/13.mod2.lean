set_option maxHeartbeats 400000 in
set_option maxRecDepth 100000 in
/-- gcd(0, 0) -/
theorem c_gcd_0 (l : Launch) (D : va_G) (cJ cI cR : ClassId) (b n : Nat) (E : Nat → va_E) (sz : Nat)  : Met l yX7_gcd wsX7_gcd { frames := 0, cells := 0, slots := 0, locals := 0 } (cP D vwCl (tys3 cJ cI cR) b n E sz [.long 0, .long 0]) (cQl D vwCl (tys3 cJ cI cR) b n (fun v E' => v = 0 ∧ E' = E)) 0 0 (PA b) := by
  refine Met.ofW (cc := cX7_gcd) (maxL := 10) (ret := (some .long)) (by decide) rfl ?_
  intro p e s m args below meth c s₁ B hml hv
  obtain ⟨rfl, hsz, hB⟩ := hv
  have hx := B.exec
  have hb := B.bytes
  have hret := B.returns
  have hts := atoms_spec (ws := wsX7_gcd) B.pre
  have hown : s.vm.findClass RX7 = some m.cls := findClass_of_methodNamed B.named
  have hlocks := B.notSynchronized
  subst hsz
  have hz := PS.start hB
  have hl := lv_entry ([.long 0, .long 0]) (n := 10) (Nat.le_of_ble_eq_true rfl)
  rw [lg_entry_eq]
  generalize (lg_sl ([.long 0, .long 0]) ++ List.replicate (10 - (lg_sl ([.long 0, .long 0])).length) Slot.unset).toArray = ls at hl ⊢
  have hl : lv_has ls 10 [(0, .long 0), (2, .long 0)] := hl
  refine lv_lload_n hx hb dX7_gcd_0 rfl (lv_at hl 0 rfl) ?_
  refine lv_lconst (v := 0) hx hb dX7_gcd_1 (by decide) ?_
  refine W.lcmp hx hb dX7_gcd_2 ?_
  refine lv_if_ge (tgt := 11) hx hb dX7_gcd_3 (by decide) (fun _ => ?_) (fun qw => ?_)
  rotate_left
  · exact absurd (by decide) qw
  refine lv_lload_n hx hb dX7_gcd_11 rfl (lv_at hl 0 rfl) ?_
  refine lv_lstore (lv' := [(4, .long 0), (0, .long 0), (2, .long 0)]) hx hb dX7_gcd_12 hl (by decide) rfl (fun ls hl => ?_)
  refine lv_lload_n hx hb dX7_gcd_14 rfl (lv_at hl 2 rfl) ?_
  refine lv_lconst (v := 0) hx hb dX7_gcd_15 (by decide) ?_
  refine W.lcmp hx hb dX7_gcd_16 ?_
  refine lv_if_ge (tgt := 25) hx hb dX7_gcd_17 (by decide) (fun _ => ?_) (fun qw => ?_)
  rotate_left
  · exact absurd (by decide) qw
  refine lv_lload_n hx hb dX7_gcd_25 rfl (lv_at hl 2 rfl) ?_
  refine lv_lstore (lv' := [(6, .long 0), (4, .long 0), (0, .long 0), (2, .long 0)]) hx hb dX7_gcd_26 hl (by decide) rfl (fun ls hl => ?_)
  refine lv_lload hx hb dX7_gcd_28 (lv_at hl 0 rfl) ?_
  refine lv_lconst (v := 0) hx hb dX7_gcd_30 (by decide) ?_
  refine W.lcmp hx hb dX7_gcd_31 ?_
  refine lv_if_eq (tgt := 53) hx hb dX7_gcd_32 (by decide) (fun _ => ?_) (fun qw => ?_)
  rotate_left
  · exact absurd (by decide) qw
  refine lv_lload hx hb dX7_gcd_53 (lv_at hl 1 rfl) ?_
  exact pw_lret hx hb hret hlocks hz ⟨rfl, rfl⟩ dX7_gcd_55

set_option maxHeartbeats 400000 in
set_option maxRecDepth 100000 in
/-- finish of zeros -/
theorem c_finish_0 (l : Launch) (D : va_G) (cJ cI cR : ClassId) (b n : Nat) (E : Nat → va_E) (sz : Nat) (a : Nat) (ref : Int32) (ha : b ≤ a ∧ a + 9 ≤ b + n) (hm : E a = modO a ref) (hrow : E (a + 1) = rowM cJ (fun _ => 0)) (j : Nat) (hj : j < 30) : Met l yX7_finish wsX7_finish { frames := 1, cells := 0, slots := 0, locals := 23 } (cP D vwCl (tys3 cJ cI cR) b n E sz [.ref a, .int (nI j)]) (cQi D vwCl (tys3 cJ cI cR) b n (fun v E' => v = -1 ∧ E' = E)) 0 0 (PA b) := by
  refine Met.ofW (cc := cX7_finish) (maxL := 4) (ret := (some .int)) (by decide) rfl ?_
  intro p e s m args below meth c s₁ B hml hv
  obtain ⟨rfl, hsz, hB⟩ := hv
  have hx := B.exec
  have hb := B.bytes
  have hret := B.returns
  have hts := atoms_spec (ws := wsX7_finish) B.pre
  have hown : s.vm.findClass RX7 = some m.cls := findClass_of_methodNamed B.named
  have hlocks := B.notSynchronized
  subst hsz
  have hz := PS.start hB
  have hl := lv_entry ([.ref a, .int (nI j)]) (n := 4) (Nat.le_of_ble_eq_true rfl)
  rw [lg_entry_eq]
  generalize (lg_sl ([.ref a, .int (nI j)]) ++ List.replicate (4 - (lg_sl ([.ref a, .int (nI j)])).length) Slot.unset).toArray = ls at hl ⊢
  have hl : lv_has ls 4 [(0, .ref a), (1, .int (nI j))] := hl
  have hw0 : ∀ w ∈ u_ws RX7 TX7 25, w ∈ wsX7_finish := by decide +kernel
  have hw1 := hts (.fieldLink RX7 7 "GaloisDeskModel" "row" "[J") (by decide +kernel)
  have hw2 := hts (.constantLong RX7 43 (300)) (by decide +kernel)
  have hw3 := hts (.constantLong RX7 45 (-300)) (by decide +kernel)
  refine lv_aload_n hx hb dX7_finish_0 rfl (lv_at hl 0 rfl) ?_
  refine pw_get (C := RX7) (T := TX7) (N := 25) (ci := 6) (v := .ref (a + 1)) hx hb hts hw0 hown hz (by omega) hm rfl 1 (by decide) hw1 (fun _ h9 => h9) rfl dX7_finish_1 ?_
  refine lv_bipush (v := 71) hx hb dX7_finish_4 (by decide) ?_
  refine pw_lald hx hb hz (by omega) hrow 0 rfl (by exact vp_in_nI (n := 71) (by decide) (by decide)) dX7_finish_6 ?_
  refine lv_lconst (v := 0) hx hb dX7_finish_7 (by decide) ?_
  refine W.lcmp hx hb dX7_finish_8 ?_
  refine lv_if_ne (tgt := 16) hx hb dX7_finish_9 (by decide) (fun qw => ?_) (fun _ => ?_)
  · exact absurd (by decide) qw
  refine lv_iconst (v := 1) hx hb dX7_finish_12 (by decide) ?_
  refine lv_goto (tgt := 17) hx hb dX7_finish_13 (by decide) ?_
  refine lv_istore_n (lv' := [(2, .int 1), (0, .ref a), (1, .int (nI j))]) hx hb dX7_finish_17 rfl hl (by decide) rfl (fun ls hl => ?_)
  refine lv_iconst (v := 0) hx hb dX7_finish_18 (by decide) ?_
  refine lv_istore_n (lv' := [(3, .int 0), (2, .int 1), (0, .ref a), (1, .int (nI j))]) hx hb dX7_finish_19 rfl hl (by decide) rfl (fun ls hl => ?_)
  have loop : ∀ (k i : Nat), i + k = 7 → ∀ (H : Heap) (locs : List Loc) (ls : Array Slot), PS D vwCl (tys3 cJ cI cR) b n s E H locs → lv_has ls 4 [(3, .int (nI i)), (2, .int 1), (0, .ref a), (1, .int (nI j))] → W p l e (headSpec wsX7_finish { frames := 1, cells := 0, slots := 0, locals := 23 }).room s m ([.ref a, .int (nI j)] : List Value).toArray below meth c H locs 0 0 (MQ below (cQi D vwCl (tys3 cJ cI cR) b n (fun v E' => v = -1 ∧ E' = E)) ([.ref a, .int (nI j)] : List Value).toArray s 0 0 (PA b)) (F0 m 20 ls []) := by
    clear hz hl
    intro k
    induction k with
    | zero =>
      intro i hi H locs ls hz hl
      have hi : 7 = i := by omega
      subst hi
      refine lv_iload_n hx hb dX7_finish_20 rfl (lv_at hl 0 rfl) ?_
      refine lv_bipush (v := 7) hx hb dX7_finish_21 (by decide) ?_
      refine lv_icmp_ge (tgt := 74) hx hb dX7_finish_23 (by decide) (fun _ => ?_) (fun q => ?_)
      · skip
        refine lv_iload_n hx hb dX7_finish_74 rfl (lv_at hl 1 rfl) ?_
        refine lv_if_ne (tgt := 81) hx hb dX7_finish_75 (by decide) (fun _ => ?_) (fun qw => ?_)
        rotate_left
        · exact absurd qw (by decide)
        refine lv_aload_n hx hb dX7_finish_81 rfl (lv_at hl 2 rfl) ?_
        refine lv_iload_n hx hb dX7_finish_82 rfl (lv_at hl 3 rfl) ?_
        refine lv_bipush (v := 8) hx hb dX7_finish_83 (by decide) ?_
        refine pw_callv hz (va_runV (As := [.int (nI j), .int 8]) (rest := []) ⟨hx, hb, hml, hown, hts⟩ (c_mcopy_0 l D cJ cI cR b n _ _ a ref ha hm hrow j 8 hj (by decide)) (cwV 2 hts gX7_finish_X7_copy rfl rfl rfl (by decide +kernel) ⟨Nat.le_of_ble_eq_true rfl, Nat.le_of_ble_eq_true rfl⟩) (hz.preV (by omega) hm rfl) rfl rfl hl.1 rfl (lv_room (Nat.le_of_ble_eq_true rfl)) dX7_finish_85 ⟨Nat.le_of_ble_eq_true rfl, Nat.le_of_ble_eq_true rfl⟩) (fun Ev H locs hp hz => ?_)
        rw [hp] at hz
        refine lv_aload_n hx hb dX7_finish_88 rfl (lv_at hl 2 rfl) ?_
        refine lv_iload_n hx hb dX7_finish_89 rfl (lv_at hl 3 rfl) ?_
        refine pw_calli hz (va_runV (As := [.int (nI j)]) (rest := []) ⟨hx, hb, hml, hown, hts⟩ (c_degreeOf l D cJ cI cR b n _ _ a ref ha hm (fun _ => 0) hrow j hj) (cwV 1 hts gX7_finish_X7_degreeOf rfl rfl rfl (by decide +kernel) ⟨Nat.le_of_ble_eq_true rfl, Nat.le_of_ble_eq_true rfl⟩) (hz.preV (by omega) hm rfl) rfl rfl hl.1 rfl (lv_room (Nat.le_of_ble_eq_true rfl)) dX7_finish_90 ⟨Nat.le_of_ble_eq_true rfl, Nat.le_of_ble_eq_true rfl⟩) (fun r_2 Ev H locs hp hz => ?_)
        obtain ⟨hr_2, hp⟩ := hp
        subst hr_2
        rw [hp] at hz
        exact pw_iret hx hb hret hlocks hz ⟨dg_0 8, rfl⟩ dX7_finish_93
      · skip
        exact absurd (by decide) q
    | succ k ih =>
      intro i hi H locs ls hz hl
      have hlt : i < 7 := by omega
      refine lv_iload_n hx hb dX7_finish_20 rfl (lv_at hl 0 rfl) ?_
      refine lv_bipush (v := 7) hx hb dX7_finish_21 (by decide) ?_
      refine lv_icmp_ge (tgt := 74) hx hb dX7_finish_23 (by decide) (fun q => ?_) (fun _ => ?_)
      · skip
        exact absurd q (nI_ge (b := 7) hlt (by decide))
      · skip
        refine lv_iload_n hx hb dX7_finish_26 rfl (lv_at hl 1 rfl) ?_
        refine lv_if_eq (tgt := 66) hx hb dX7_finish_27 (by decide) (fun qw => ?_) (fun _ => ?_)
        · exact absurd qw (by decide)
        refine lv_aload_n hx hb dX7_finish_30 rfl (lv_at hl 2 rfl) ?_
        refine pw_get (C := RX7) (T := TX7) (N := 25) (ci := 6) (v := .ref (a + 1)) hx hb hts hw0 hown hz (by omega) hm rfl 1 (by decide) hw1 (fun _ h9 => h9) rfl dX7_finish_31 ?_
        refine lv_bipush (v := 64) hx hb dX7_finish_34 (by decide) ?_
        refine lv_iload_n hx hb dX7_finish_36 rfl (lv_at hl 0 rfl) ?_
        refine lv_iadd hx hb dX7_finish_37 ?_
        refine pw_lald hx hb hz (by omega) hrow 0 rfl (by rw [ix64]; exact vp_in_nI (by omega) (by decide)) dX7_finish_38 ?_
        refine lv_ldc2 hx hb hown hw2 dX7_finish_39 ?_
        refine W.lcmp hx hb dX7_finish_42 ?_
        refine lv_if_gt (tgt := 66) hx hb dX7_finish_43 (by decide) (fun qw => ?_) (fun _ => ?_)
        · exact absurd qw (by decide)
        refine lv_aload_n hx hb dX7_finish_46 rfl (lv_at hl 2 rfl) ?_
        refine pw_get (C := RX7) (T := TX7) (N := 25) (ci := 6) (v := .ref (a + 1)) hx hb hts hw0 hown hz (by omega) hm rfl 1 (by decide) hw1 (fun _ h9 => h9) rfl dX7_finish_47 ?_
        refine lv_bipush (v := 64) hx hb dX7_finish_50 (by decide) ?_
        refine lv_iload_n hx hb dX7_finish_52 rfl (lv_at hl 0 rfl) ?_
        refine lv_iadd hx hb dX7_finish_53 ?_
        refine pw_lald hx hb hz (by omega) hrow 0 rfl (by rw [ix64]; exact vp_in_nI (by omega) (by decide)) dX7_finish_54 ?_
        refine lv_ldc2 hx hb hown hw3 dX7_finish_55 ?_
        refine W.lcmp hx hb dX7_finish_58 ?_
        refine lv_if_lt (tgt := 66) hx hb dX7_finish_59 (by decide) (fun qw => ?_) (fun _ => ?_)
        · exact absurd qw (by decide)
        refine lv_iconst (v := 1) hx hb dX7_finish_62 (by decide) ?_
        refine lv_goto (tgt := 67) hx hb dX7_finish_63 (by decide) ?_
        refine lv_istore_n (lv' := [(2, .int 1), (3, .int (nI i)), (0, .ref a), (1, .int (nI j))]) hx hb dX7_finish_67 rfl hl (by decide) rfl (fun ls hl => ?_)
        refine lv_iinc (v := (nI (i + 1))) (lv' := [(3, .int (nI (i + 1))), (2, .int 1), (0, .ref a), (1, .int (nI j))]) hx hb dX7_finish_68 hl (k := 1) rfl (by exact nI_1 i) (by decide) rfl (fun ls hl => ?_)
        refine lv_goto (tgt := 20) hx hb dX7_finish_71 (by decide) ?_
        exact ih (i + 1) (by omega) H locs ls hz (lv_sub hl [0, 1, 2, 3] rfl)
  exact loop 7 0 rfl _ _ ls hz (lv_sub hl [0, 1, 2, 3] rfl)

set_option maxHeartbeats 400000 in
set_option maxRecDepth 100000 in
/-- takeContent of zeros -/
theorem c_takeContent_0 (l : Launch) (D : va_G) (cJ cI cR : ClassId) (b n : Nat) (E : Nat → va_E) (sz : Nat) (a : Nat) (ref : Int32) (ha : b ≤ a ∧ a + 9 ≤ b + n) (hm : E a = modO a ref) (hrow : E (a + 1) = rowM cJ (fun _ => 0)) (j : Nat) (hj : j < 30) : Met l yX7_takeContent wsX7_takeContent { frames := 1, cells := 0, slots := 0, locals := 29 } (cP D vwCl (tys3 cJ cI cR) b n E sz [.ref a, .int (nI j)]) (cQl D vwCl (tys3 cJ cI cR) b n (fun v E' => v = 0 ∧ E' = E)) 0 0 (PA b) := by
  refine Met.ofW (cc := cX7_takeContent) (maxL := 6) (ret := (some .long)) (by decide) rfl ?_
  intro p e s m args below meth c s₁ B hml hv
  obtain ⟨rfl, hsz, hB⟩ := hv
  have hx := B.exec
  have hb := B.bytes
  have hret := B.returns
  have hts := atoms_spec (ws := wsX7_takeContent) B.pre
  have hown : s.vm.findClass RX7 = some m.cls := findClass_of_methodNamed B.named
  have hlocks := B.notSynchronized
  subst hsz
  have hz := PS.start hB
  have hl := lv_entry ([.ref a, .int (nI j)]) (n := 6) (Nat.le_of_ble_eq_true rfl)
  rw [lg_entry_eq]
  generalize (lg_sl ([.ref a, .int (nI j)]) ++ List.replicate (6 - (lg_sl ([.ref a, .int (nI j)])).length) Slot.unset).toArray = ls at hl ⊢
  have hl : lv_has ls 6 [(0, .ref a), (1, .int (nI j))] := hl
  have hw0 : ∀ w ∈ u_ws RX7 TX7 25, w ∈ wsX7_takeContent := by decide +kernel
  have hw1 := hts (.fieldLink RX7 7 "GaloisDeskModel" "row" "[J") (by decide +kernel)
  refine lv_lconst (v := 0) hx hb dX7_takeContent_0 (by decide) ?_
  refine lv_lstore_n (lv' := [(2, .long 0), (0, .ref a), (1, .int (nI j))]) hx hb dX7_takeContent_1 rfl hl (by decide) rfl (fun ls hl => ?_)
  refine lv_iconst (v := 0) hx hb dX7_takeContent_2 (by decide) ?_
  refine lv_istore (lv' := [(4, .int 0), (2, .long 0), (0, .ref a), (1, .int (nI j))]) hx hb dX7_takeContent_3 hl (by decide) rfl (fun ls hl => ?_)
  have loop : ∀ (k i : Nat), i + k = 8 → ∀ (H : Heap) (locs : List Loc) (ls : Array Slot), PS D vwCl (tys3 cJ cI cR) b n s E H locs → lv_has ls 6 [(4, .int (nI i)), (2, .long 0), (0, .ref a), (1, .int (nI j))] → W p l e (headSpec wsX7_takeContent { frames := 1, cells := 0, slots := 0, locals := 29 }).room s m ([.ref a, .int (nI j)] : List Value).toArray below meth c H locs 0 0 (MQ below (cQl D vwCl (tys3 cJ cI cR) b n (fun v E' => v = 0 ∧ E' = E)) ([.ref a, .int (nI j)] : List Value).toArray s 0 0 (PA b)) (F0 m 5 ls []) := by
    clear hz hl
    intro k
    induction k with
    | zero =>
      intro i hi H locs ls hz hl
      have hi : 8 = i := by omega
      subst hi
      refine lv_iload hx hb dX7_takeContent_5 (lv_at hl 0 rfl) ?_
      refine lv_bipush (v := 8) hx hb dX7_takeContent_7 (by decide) ?_
      refine lv_icmp_ge (tgt := 35) hx hb dX7_takeContent_9 (by decide) (fun _ => ?_) (fun q => ?_)
      · skip
        refine lv_aload_n hx hb dX7_takeContent_35 rfl (lv_at hl 2 rfl) ?_
        refine lv_iload_n hx hb dX7_takeContent_36 rfl (lv_at hl 3 rfl) ?_
        refine pw_calli hz (va_runV (As := [.int (nI j)]) (rest := []) ⟨hx, hb, hml, hown, hts⟩ (c_degreeOf l D cJ cI cR b n _ _ a ref ha hm (fun _ => 0) hrow j hj) (cwV 1 hts gX7_takeContent_X7_degreeOf rfl rfl rfl (by decide +kernel) ⟨Nat.le_of_ble_eq_true rfl, Nat.le_of_ble_eq_true rfl⟩) (hz.preV (by omega) hm rfl) rfl rfl hl.1 rfl (lv_room (Nat.le_of_ble_eq_true rfl)) dX7_takeContent_37 ⟨Nat.le_of_ble_eq_true rfl, Nat.le_of_ble_eq_true rfl⟩) (fun r_1 Ev H locs hp hz => ?_)
        obtain ⟨hr_1, hp⟩ := hp
        subst hr_1
        rw [hp] at hz
        rw [dg_0]
        refine lv_istore (lv' := [(4, .int (-1)), (2, .long 0), (0, .ref a), (1, .int (nI j))]) hx hb dX7_takeContent_40 hl (by decide) rfl (fun ls hl => ?_)
        refine lv_iload hx hb dX7_takeContent_42 (lv_at hl 0 rfl) ?_
        refine lv_if_lt (tgt := 69) hx hb dX7_takeContent_44 (by decide) (fun _ => ?_) (fun qw => ?_)
        rotate_left
        · exact absurd (by decide) qw
        refine lv_lload_n hx hb dX7_takeContent_69 rfl (lv_at hl 1 rfl) ?_
        refine lv_lstore_n (lv' := [(2, .long 0), (4, .int (-1)), (0, .ref a), (1, .int (nI j))]) hx hb dX7_takeContent_70 rfl hl (by decide) rfl (fun ls hl => ?_)
        refine lv_iconst (v := 0) hx hb dX7_takeContent_71 (by decide) ?_
        refine lv_istore (lv' := [(5, .int 0), (2, .long 0), (4, .int (-1)), (0, .ref a), (1, .int (nI j))]) hx hb dX7_takeContent_72 hl (by decide) rfl (fun ls hl => ?_)
        refine lv_iload hx hb dX7_takeContent_74 (lv_at hl 0 rfl) ?_
        refine lv_bipush (v := 8) hx hb dX7_takeContent_76 (by decide) ?_
        refine lv_icmp_ge (tgt := 119) hx hb dX7_takeContent_78 (by decide) (fun qw => ?_) (fun _ => ?_)
        · exact absurd qw (by decide)
        refine lv_lload_n hx hb dX7_takeContent_81 rfl (lv_at hl 1 rfl) ?_
        refine lv_lconst (v := 0) hx hb dX7_takeContent_82 (by decide) ?_
        refine W.lcmp hx hb dX7_takeContent_83 ?_
        refine lv_if_eq (tgt := 119) hx hb dX7_takeContent_84 (by decide) (fun _ => ?_) (fun qw => ?_)
        rotate_left
        · exact absurd (by decide) qw
        refine lv_lload_n hx hb dX7_takeContent_119 rfl (lv_at hl 1 rfl) ?_
        exact pw_lret hx hb hret hlocks hz ⟨rfl, rfl⟩ dX7_takeContent_120
      · skip
        exact absurd (by decide) q
    | succ k ih =>
      intro i hi H locs ls hz hl
      have hlt : i < 8 := by omega
      refine lv_iload hx hb dX7_takeContent_5 (lv_at hl 0 rfl) ?_
      refine lv_bipush (v := 8) hx hb dX7_takeContent_7 (by decide) ?_
      refine lv_icmp_ge (tgt := 35) hx hb dX7_takeContent_9 (by decide) (fun q => ?_) (fun _ => ?_)
      · skip
        exact absurd q (nI_ge (b := 8) hlt (by decide))
      · skip
        refine lv_lload_n hx hb dX7_takeContent_12 rfl (lv_at hl 1 rfl) ?_
        refine lv_aload_n hx hb dX7_takeContent_13 rfl (lv_at hl 2 rfl) ?_
        refine pw_get (C := RX7) (T := TX7) (N := 25) (ci := 6) (v := .ref (a + 1)) hx hb hts hw0 hown hz (by omega) hm rfl 1 (by decide) hw1 (fun _ h9 => h9) rfl dX7_takeContent_14 ?_
        refine lv_bipush (v := 8) hx hb dX7_takeContent_17 (by decide) ?_
        refine lv_iload_n hx hb dX7_takeContent_19 rfl (lv_at hl 3 rfl) ?_
        refine lv_imul hx hb dX7_takeContent_20 ?_
        refine lv_iload hx hb dX7_takeContent_21 (lv_at hl 0 rfl) ?_
        refine lv_iadd hx hb dX7_takeContent_23 ?_
        refine pw_lald hx hb hz (by omega) hrow 0 rfl (by rw [ix8]; exact vp_in_nI (by omega) (by decide)) dX7_takeContent_24 ?_
        refine pw_calll hz (va_runS (As := [.long 0, .long 0]) (rest := []) ⟨hx, hb, hml, hown, hts⟩ (c_gcd_0 l D cJ cI cR b n _ _) (va_cwS 2 hts gX7_takeContent_X7_gcd rfl rfl rfl (by decide +kernel) ⟨Nat.le_of_ble_eq_true rfl, Nat.le_of_ble_eq_true rfl⟩) hz.preS rfl rfl hl.1 rfl (lv_room (Nat.le_of_ble_eq_true rfl)) dX7_takeContent_25 ⟨Nat.le_of_ble_eq_true rfl, Nat.le_of_ble_eq_true rfl⟩) (fun r_2 Ev H locs hp hz => ?_)
        obtain ⟨hr_2, hp⟩ := hp
        subst hr_2
        rw [hp] at hz
        refine lv_lstore_n (lv' := [(2, .long 0), (4, .int (nI i)), (0, .ref a), (1, .int (nI j))]) hx hb dX7_takeContent_28 rfl hl (by decide) rfl (fun ls hl => ?_)
        refine lv_iinc (v := (nI (i + 1))) (lv' := [(4, .int (nI (i + 1))), (2, .long 0), (0, .ref a), (1, .int (nI j))]) hx hb dX7_takeContent_29 hl (k := 1) rfl (by exact nI_1 i) (by decide) rfl (fun ls hl => ?_)
        refine lv_goto (tgt := 5) hx hb dX7_takeContent_32 (by decide) ?_
        exact ih (i + 1) (by omega) H locs ls hz (lv_sub hl [0, 1, 2, 3] rfl)
  exact loop 8 0 rfl _ _ ls hz (lv_sub hl [0, 1, 2, 3] rfl)

set_option maxHeartbeats 400000 in
set_option maxRecDepth 100000 in
/-- isPrime of a prime -/
theorem c_isPrime_1 (l : Launch) (D : va_G) (cJ cI cR : ClassId) (b n : Nat) (E : Nat → va_E) (sz : Nat) (x : Int32) (h : okP x) : Met l yX7_isPrime wsX7_isPrime { frames := 0, cells := 0, slots := 0, locals := 0 } (cP D vwCl (tys3 cJ cI cR) b n E sz [.int x]) (cQi D vwCl (tys3 cJ cI cR) b n (fun v E' => v = 1 ∧ E' = E)) 0 0 (PA b) := by
  refine Met.ofW (cc := cX7_isPrime) (maxL := 3) (ret := (some .boolean)) (by decide) rfl ?_
  intro p e s m args below meth c s₁ B hml hv
  obtain ⟨rfl, hsz, hB⟩ := hv
  have hx := B.exec
  have hb := B.bytes
  have hret := B.returns
  have hts := atoms_spec (ws := wsX7_isPrime) B.pre
  have hown : s.vm.findClass RX7 = some m.cls := findClass_of_methodNamed B.named
  have hlocks := B.notSynchronized
  subst hsz
  have hz := PS.start hB
  have hl := lv_entry ([.int x]) (n := 3) (Nat.le_of_ble_eq_true rfl)
  rw [lg_entry_eq]
  generalize (lg_sl ([.int x]) ++ List.replicate (3 - (lg_sl ([.int x])).length) Slot.unset).toArray = ls at hl ⊢
  have hl : lv_has ls 3 [(0, .int x)] := hl
  obtain ⟨q, rfl, hq1, hq2, hq3⟩ := h
  refine lv_iload_n hx hb dX7_isPrime_0 rfl (lv_at hl 0 rfl) ?_
  refine lv_iconst (v := 2) hx hb dX7_isPrime_1 (by decide) ?_
  refine lv_icmp_lt (tgt := 16) hx hb dX7_isPrime_2 (by decide) (fun qw => ?_) (fun _ => ?_)
  · exact absurd qw (nI_nlt (b := 2) (by omega) (by omega))
  refine lv_iload_n hx hb dX7_isPrime_5 rfl (lv_at hl 0 rfl) ?_
  refine lv_sipush (v := 997) hx hb dX7_isPrime_6 (by decide) ?_
  refine lv_icmp_gt (tgt := 16) hx hb dX7_isPrime_9 (by decide) (fun qw => ?_) (fun _ => ?_)
  · exact absurd qw (nI_nlt (a := 997) hq2 (by decide))
  refine lv_iconst (v := 1) hx hb dX7_isPrime_12 (by decide) ?_
  refine lv_goto (tgt := 17) hx hb dX7_isPrime_13 (by decide) ?_
  refine lv_istore_n (lv' := [(1, .int 1), (0, .int (nI q))]) hx hb dX7_isPrime_17 rfl hl (by decide) rfl (fun ls hl => ?_)
  refine lv_iconst (v := 2) hx hb dX7_isPrime_18 (by decide) ?_
  refine lv_istore_n (lv' := [(2, .int 2), (1, .int 1), (0, .int (nI q))]) hx hb dX7_isPrime_19 rfl hl (by decide) rfl (fun ls hl => ?_)
  have loop : ∀ (k i : Nat), i + k = 33 → 2 ≤ i → ∀ (ls : Array Slot), lv_has ls 3 [(2, .int (nI i)), (1, .int 1), (0, .int (nI q))] → W p l e (headSpec wsX7_isPrime { frames := 0, cells := 0, slots := 0, locals := 0 }).room s m ([.int (nI q)] : List Value).toArray below meth c s.heap [] 0 0 (MQ below (cQi D vwCl (tys3 cJ cI cR) b n (fun v E' => v = 1 ∧ E' = E)) ([.int (nI q)] : List Value).toArray s 0 0 (PA b)) (F0 m 20 ls []) := by
    intro k
    induction k with
    | zero =>
      intro i hi h2 ls hl
      have hb2 : i * i ≤ 33 * 33 := Nat.mul_le_mul (by omega) (by omega)
      refine lv_iload_n hx hb dX7_isPrime_20 rfl (lv_at hl 0 rfl) ?_
      refine lv_iload_n hx hb dX7_isPrime_21 rfl (lv_at hl 0 rfl) ?_
      refine lv_imul hx hb dX7_isPrime_22 ?_
      refine lv_iload_n hx hb dX7_isPrime_23 rfl (lv_at hl 2 rfl) ?_
      refine lv_icmp_gt (tgt := 49) hx hb dX7_isPrime_24 (by decide) (fun c3 => ?_) (fun c3 => ?_)
      · skip
        refine lv_iload_n hx hb dX7_isPrime_49 rfl (lv_at hl 1 rfl) ?_
        exact pw_zret hx hb hret hlocks (Or.inr rfl) hz ⟨rfl, rfl⟩ dX7_isPrime_50
      · skip
        rw [pk_mul] at c3
        have hii : i * i ≤ q := Nat.not_lt.mp (fun h9 => c3 (nI_lt h9 (by omega)))
        have hi32 := sq_bd hii hq2
        exact absurd hi32 (by omega)
    | succ k ih =>
      intro i hi h2 ls hl
      have hb2 : i * i ≤ 33 * 33 := Nat.mul_le_mul (by omega) (by omega)
      refine lv_iload_n hx hb dX7_isPrime_20 rfl (lv_at hl 0 rfl) ?_
      refine lv_iload_n hx hb dX7_isPrime_21 rfl (lv_at hl 0 rfl) ?_
      refine lv_imul hx hb dX7_isPrime_22 ?_
      refine lv_iload_n hx hb dX7_isPrime_23 rfl (lv_at hl 2 rfl) ?_
      refine lv_icmp_gt (tgt := 49) hx hb dX7_isPrime_24 (by decide) (fun c3 => ?_) (fun c3 => ?_)
      · skip
        refine lv_iload_n hx hb dX7_isPrime_49 rfl (lv_at hl 1 rfl) ?_
        exact pw_zret hx hb hret hlocks (Or.inr rfl) hz ⟨rfl, rfl⟩ dX7_isPrime_50
      · skip
        rw [pk_mul] at c3
        have hii : i * i ≤ q := Nat.not_lt.mp (fun h9 => c3 (nI_lt h9 (by omega)))
        have hi32 := sq_bd hii hq2
        refine lv_iload_n hx hb dX7_isPrime_27 rfl (lv_at hl 1 rfl) ?_
        refine lv_if_eq (tgt := 49) hx hb dX7_isPrime_28 (by decide) (fun qw => ?_) (fun _ => ?_)
        · exact absurd qw (by decide)
        refine lv_iload_n hx hb dX7_isPrime_31 rfl (lv_at hl 2 rfl) ?_
        refine lv_iload_n hx hb dX7_isPrime_32 rfl (lv_at hl 0 rfl) ?_
        refine lv_irem hx hb dX7_isPrime_33 (nI_ne0 (by omega) (by omega)) ?_
        rw [pk_rem (by omega) (by omega) (by omega)]
        refine lv_if_eq (tgt := 41) hx hb dX7_isPrime_34 (by decide) (fun qw => ?_) (fun _ => ?_)
        · exact absurd ((nI_eq (a := q % i) (b := 0) (Nat.lt_of_le_of_lt (Nat.mod_le _ _) (by omega)) (by decide)).mp qw) (hq3 i h2 hii)
        refine lv_iconst (v := 1) hx hb dX7_isPrime_37 (by decide) ?_
        refine lv_goto (tgt := 42) hx hb dX7_isPrime_38 (by decide) ?_
        refine lv_istore_n (lv' := [(1, .int 1), (2, .int (nI i)), (0, .int (nI q))]) hx hb dX7_isPrime_42 rfl hl (by decide) rfl (fun ls hl => ?_)
        refine lv_iinc (v := (nI (i + 1))) (lv' := [(2, .int (nI (i + 1))), (1, .int 1), (0, .int (nI q))]) hx hb dX7_isPrime_43 hl (k := 1) rfl (by exact nI_1 i) (by decide) rfl (fun ls hl => ?_)
        refine lv_goto (tgt := 20) hx hb dX7_isPrime_46 (by decide) ?_
        exact ih (i + 1) (by omega) (by omega) ls (lv_sub hl [0, 1, 2] rfl)
  exact loop 31 2 rfl (by omega) ls (lv_sub hl [0, 1, 2] rfl)

set_option maxHeartbeats 400000 in
set_option maxRecDepth 100000 in
/-- isPrime of no prime -/
theorem c_isPrime_0 (l : Launch) (D : va_G) (cJ cI cR : ClassId) (b n : Nat) (E : Nat → va_E) (sz : Nat) (x : Int32) (h : ¬ okP x) : Met l yX7_isPrime wsX7_isPrime { frames := 0, cells := 0, slots := 0, locals := 0 } (cP D vwCl (tys3 cJ cI cR) b n E sz [.int x]) (cQi D vwCl (tys3 cJ cI cR) b n (fun v E' => v = 0 ∧ E' = E)) 0 0 (PA b) := by
  refine Met.ofW (cc := cX7_isPrime) (maxL := 3) (ret := (some .boolean)) (by decide) rfl ?_
  intro p e s m args below meth c s₁ B hml hv
  obtain ⟨rfl, hsz, hB⟩ := hv
  have hx := B.exec
  have hb := B.bytes
  have hret := B.returns
  have hts := atoms_spec (ws := wsX7_isPrime) B.pre
  have hown : s.vm.findClass RX7 = some m.cls := findClass_of_methodNamed B.named
  have hlocks := B.notSynchronized
  subst hsz
  have hz := PS.start hB
  have hl := lv_entry ([.int x]) (n := 3) (Nat.le_of_ble_eq_true rfl)
  rw [lg_entry_eq]
  generalize (lg_sl ([.int x]) ++ List.replicate (3 - (lg_sl ([.int x])).length) Slot.unset).toArray = ls at hl ⊢
  have hl : lv_has ls 3 [(0, .int x)] := hl
  refine lv_iload_n hx hb dX7_isPrime_0 rfl (lv_at hl 0 rfl) ?_
  refine lv_iconst (v := 2) hx hb dX7_isPrime_1 (by decide) ?_
  refine lv_icmp_lt (tgt := 16) hx hb dX7_isPrime_2 (by decide) (fun c1 => ?_) (fun c1 => ?_)
  · skip
    refine lv_iconst (v := 0) hx hb dX7_isPrime_16 (by decide) ?_
    refine lv_istore_n (lv' := [(1, .int 0), (0, .int x)]) hx hb dX7_isPrime_17 rfl hl (by decide) rfl (fun ls hl => ?_)
    refine lv_iconst (v := 2) hx hb dX7_isPrime_18 (by decide) ?_
    refine lv_istore_n (lv' := [(2, .int 2), (1, .int 0), (0, .int x)]) hx hb dX7_isPrime_19 rfl hl (by decide) rfl (fun ls hl => ?_)
    refine lv_iload_n hx hb dX7_isPrime_20 rfl (lv_at hl 0 rfl) ?_
    refine lv_iload_n hx hb dX7_isPrime_21 rfl (lv_at hl 0 rfl) ?_
    refine lv_imul hx hb dX7_isPrime_22 ?_
    refine lv_iload_n hx hb dX7_isPrime_23 rfl (lv_at hl 2 rfl) ?_
    refine lv_icmp_gt (tgt := 49) hx hb dX7_isPrime_24 (by decide) (fun _ => ?_) (fun _ => ?_)
    · skip
      refine lv_iload_n hx hb dX7_isPrime_49 rfl (lv_at hl 1 rfl) ?_
      exact pw_zret hx hb hret hlocks (Or.inl rfl) hz ⟨rfl, rfl⟩ dX7_isPrime_50
    · skip
      refine lv_iload_n hx hb dX7_isPrime_27 rfl (lv_at hl 1 rfl) ?_
      refine lv_if_eq (tgt := 49) hx hb dX7_isPrime_28 (by decide) (fun _ => ?_) (fun qw => ?_)
      rotate_left
      · exact absurd rfl qw
      refine lv_iload_n hx hb dX7_isPrime_49 rfl (lv_at hl 1 rfl) ?_
      exact pw_zret hx hb hret hlocks (Or.inl rfl) hz ⟨rfl, rfl⟩ dX7_isPrime_50
  · skip
    refine lv_iload_n hx hb dX7_isPrime_5 rfl (lv_at hl 0 rfl) ?_
    refine lv_sipush (v := 997) hx hb dX7_isPrime_6 (by decide) ?_
    refine lv_icmp_gt (tgt := 16) hx hb dX7_isPrime_9 (by decide) (fun c2 => ?_) (fun c2 => ?_)
    · skip
      refine lv_iconst (v := 0) hx hb dX7_isPrime_16 (by decide) ?_
      refine lv_istore_n (lv' := [(1, .int 0), (0, .int x)]) hx hb dX7_isPrime_17 rfl hl (by decide) rfl (fun ls hl => ?_)
      refine lv_iconst (v := 2) hx hb dX7_isPrime_18 (by decide) ?_
      refine lv_istore_n (lv' := [(2, .int 2), (1, .int 0), (0, .int x)]) hx hb dX7_isPrime_19 rfl hl (by decide) rfl (fun ls hl => ?_)
      refine lv_iload_n hx hb dX7_isPrime_20 rfl (lv_at hl 0 rfl) ?_
      refine lv_iload_n hx hb dX7_isPrime_21 rfl (lv_at hl 0 rfl) ?_
      refine lv_imul hx hb dX7_isPrime_22 ?_
      refine lv_iload_n hx hb dX7_isPrime_23 rfl (lv_at hl 2 rfl) ?_
      refine lv_icmp_gt (tgt := 49) hx hb dX7_isPrime_24 (by decide) (fun _ => ?_) (fun _ => ?_)
      · skip
        refine lv_iload_n hx hb dX7_isPrime_49 rfl (lv_at hl 1 rfl) ?_
        exact pw_zret hx hb hret hlocks (Or.inl rfl) hz ⟨rfl, rfl⟩ dX7_isPrime_50
      · skip
        refine lv_iload_n hx hb dX7_isPrime_27 rfl (lv_at hl 1 rfl) ?_
        refine lv_if_eq (tgt := 49) hx hb dX7_isPrime_28 (by decide) (fun _ => ?_) (fun qw => ?_)
        rotate_left
        · exact absurd rfl qw
        refine lv_iload_n hx hb dX7_isPrime_49 rfl (lv_at hl 1 rfl) ?_
        exact pw_zret hx hb hret hlocks (Or.inl rfl) hz ⟨rfl, rfl⟩ dX7_isPrime_50
    · skip
      obtain ⟨q, hq, rfl⟩ : ∃ q : Nat, q < 2 ^ 31 ∧ x = nI q := nI_of (fun h9 => c1 (Int32.lt_trans h9 (by decide)))
      have hq1 : 2 ≤ q := Nat.not_lt.mp (fun h9 => c1 (nI_lt h9 (by decide)))
      have hq2 : q ≤ 997 := Nat.not_lt.mp (fun h9 => c2 (nI_lt h9 hq))
      obtain ⟨d0, hd1, hd2, hd3⟩ : ∃ d, 2 ≤ d ∧ d * d ≤ q ∧ q % d = 0 := Classical.byContradiction (fun hn => h ⟨q, rfl, hq1, hq2, fun d g1 g2 g3 => hn ⟨d, g1, g2, g3⟩⟩)
      refine lv_iconst (v := 1) hx hb dX7_isPrime_12 (by decide) ?_
      refine lv_goto (tgt := 17) hx hb dX7_isPrime_13 (by decide) ?_
      refine lv_istore_n (lv' := [(1, .int 1), (0, .int (nI q))]) hx hb dX7_isPrime_17 rfl hl (by decide) rfl (fun ls hl => ?_)
      refine lv_iconst (v := 2) hx hb dX7_isPrime_18 (by decide) ?_
      refine lv_istore_n (lv' := [(2, .int 2), (1, .int 1), (0, .int (nI q))]) hx hb dX7_isPrime_19 rfl hl (by decide) rfl (fun ls hl => ?_)
      have loop : ∀ (k i : Nat), i + k = 33 → 2 ≤ i → i ≤ d0 → ∀ (ls : Array Slot), lv_has ls 3 [(2, .int (nI i)), (1, .int 1), (0, .int (nI q))] → W p l e (headSpec wsX7_isPrime { frames := 0, cells := 0, slots := 0, locals := 0 }).room s m ([.int (nI q)] : List Value).toArray below meth c s.heap [] 0 0 (MQ below (cQi D vwCl (tys3 cJ cI cR) b n (fun v E' => v = 0 ∧ E' = E)) ([.int (nI q)] : List Value).toArray s 0 0 (PA b)) (F0 m 20 ls []) := by
        intro k
        induction k with
        | zero =>
          intro i hi h2 h3 ls hl
          exact absurd (sq_bd hd2 hq2) (by omega)
        | succ k ih =>
          intro i hi h2 h3 ls hl
          have hb2 : i * i ≤ 33 * 33 := Nat.mul_le_mul (by omega) (by omega)
          refine lv_iload_n hx hb dX7_isPrime_20 rfl (lv_at hl 0 rfl) ?_
          refine lv_iload_n hx hb dX7_isPrime_21 rfl (lv_at hl 0 rfl) ?_
          refine lv_imul hx hb dX7_isPrime_22 ?_
          refine lv_iload_n hx hb dX7_isPrime_23 rfl (lv_at hl 2 rfl) ?_
          refine lv_icmp_gt (tgt := 49) hx hb dX7_isPrime_24 (by decide) (fun c3 => ?_) (fun c3 => ?_)
          · skip
            rw [pk_mul] at c3
            exact absurd c3 (nI_nlt (sq_lt h3 hd2) (by omega))
          · skip
            refine lv_iload_n hx hb dX7_isPrime_27 rfl (lv_at hl 1 rfl) ?_
            refine lv_if_eq (tgt := 49) hx hb dX7_isPrime_28 (by decide) (fun qw => ?_) (fun _ => ?_)
            · exact absurd qw (by decide)
            refine lv_iload_n hx hb dX7_isPrime_31 rfl (lv_at hl 2 rfl) ?_
            refine lv_iload_n hx hb dX7_isPrime_32 rfl (lv_at hl 0 rfl) ?_
            refine lv_irem hx hb dX7_isPrime_33 (nI_ne0 (by omega) (by omega)) ?_
            rw [pk_rem (by omega) (by omega) (by omega)]
            refine lv_if_eq (tgt := 41) hx hb dX7_isPrime_34 (by decide) (fun c4 => ?_) (fun c4 => ?_)
            · skip
              refine lv_iconst (v := 0) hx hb dX7_isPrime_41 (by decide) ?_
              refine lv_istore_n (lv' := [(1, .int 0), (2, .int (nI i)), (0, .int (nI q))]) hx hb dX7_isPrime_42 rfl hl (by decide) rfl (fun ls hl => ?_)
              refine lv_iinc (v := (nI (i + 1))) (lv' := [(2, .int (nI (i + 1))), (1, .int 0), (0, .int (nI q))]) hx hb dX7_isPrime_43 hl (k := 1) rfl (by exact nI_1 i) (by decide) rfl (fun ls hl => ?_)
              refine lv_goto (tgt := 20) hx hb dX7_isPrime_46 (by decide) ?_
              refine lv_iload_n hx hb dX7_isPrime_20 rfl (lv_at hl 0 rfl) ?_
              refine lv_iload_n hx hb dX7_isPrime_21 rfl (lv_at hl 0 rfl) ?_
              refine lv_imul hx hb dX7_isPrime_22 ?_
              refine lv_iload_n hx hb dX7_isPrime_23 rfl (lv_at hl 2 rfl) ?_
              refine lv_icmp_gt (tgt := 49) hx hb dX7_isPrime_24 (by decide) (fun _ => ?_) (fun _ => ?_)
              · skip
                refine lv_iload_n hx hb dX7_isPrime_49 rfl (lv_at hl 1 rfl) ?_
                exact pw_zret hx hb hret hlocks (Or.inl rfl) hz ⟨rfl, rfl⟩ dX7_isPrime_50
              · skip
                refine lv_iload_n hx hb dX7_isPrime_27 rfl (lv_at hl 1 rfl) ?_
                refine lv_if_eq (tgt := 49) hx hb dX7_isPrime_28 (by decide) (fun _ => ?_) (fun qw => ?_)
                rotate_left
                · exact absurd rfl qw
                refine lv_iload_n hx hb dX7_isPrime_49 rfl (lv_at hl 1 rfl) ?_
                exact pw_zret hx hb hret hlocks (Or.inl rfl) hz ⟨rfl, rfl⟩ dX7_isPrime_50
            · skip
              have hne : i ≠ d0 := fun h9 => c4 (by rw [h9, hd3]; rfl)
              refine lv_iconst (v := 1) hx hb dX7_isPrime_37 (by decide) ?_
              refine lv_goto (tgt := 42) hx hb dX7_isPrime_38 (by decide) ?_
              refine lv_istore_n (lv' := [(1, .int 1), (2, .int (nI i)), (0, .int (nI q))]) hx hb dX7_isPrime_42 rfl hl (by decide) rfl (fun ls hl => ?_)
              refine lv_iinc (v := (nI (i + 1))) (lv' := [(2, .int (nI (i + 1))), (1, .int 1), (0, .int (nI q))]) hx hb dX7_isPrime_43 hl (k := 1) rfl (by exact nI_1 i) (by decide) rfl (fun ls hl => ?_)
              refine lv_goto (tgt := 20) hx hb dX7_isPrime_46 (by decide) ?_
              exact ih (i + 1) (by omega) (by omega) (by omega) ls (lv_sub hl [0, 1, 2] rfl)
      exact loop 31 2 rfl (by omega) hd1 ls (lv_sub hl [0, 1, 2] rfl)
