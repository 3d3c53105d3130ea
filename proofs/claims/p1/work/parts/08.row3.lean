set_option maxHeartbeats 400000 in
set_option maxRecDepth 100000 in
/-- becomeSum(a, p, b, q) -/
theorem c_Row_becomeSum (l : Launch) (D : va_G) (cJ cI cR : ClassId) (b n : Nat) (E : Nat → va_E) (sz : Nat) (r : Nat) (f : Nat → Int64) (t : Int32) (hr : b ≤ r ∧ r + 1 < b + n) (hr1 : E r = rowO r t) (hr2 : E (r + 1) = rowA cJ f) (u : Nat) (fu : Nat → Int64) (tu : Int32) (hu : b ≤ u ∧ u + 1 < b + n) (hu1 : E u = rowO u tu) (hu2 : E (u + 1) = rowA cJ fu) (v : Nat) (fv : Nat → Int64) (tv : Int32) (hv : b ≤ v ∧ v + 1 < b + n) (hv1 : E v = rowO v tv) (hv2 : E (v + 1) = rowA cJ fv) (x y : Int64) (hne : r + 1 < u ∨ u + 1 < r) (hnv : r + 1 < v ∨ v + 1 < r) : Met l yX4_becomeSum wsX4_becomeSum { frames := 1, cells := 0, slots := 0, locals := 21 } (cP D vwCl (tys3 cJ cI cR) b n E sz [.ref r, .ref u, .long x, .ref v, .long y]) (cQv D vwCl (tys3 cJ cI cR) b n (fun E' => E' = va_up (va_up E (r + 1) (rowA cJ (fun j => x * fu j + y * fv j))) r (rowO r (dg (fun j => x * fu j + y * fv j) 13)))) 0 0 (PA b) := by
  refine Met.ofW (cc := cX4_becomeSum) (maxL := 8) (ret := none) (by decide) rfl ?_
  intro p e s m args below meth c s₁ B hml hv
  obtain ⟨rfl, hsz, hB⟩ := hv
  have hx := B.exec
  have hb := B.bytes
  have hret := B.returns
  have hts := atoms_spec (ws := wsX4_becomeSum) B.pre
  have hown : s.vm.findClass RX4 = some m.cls := findClass_of_methodNamed B.named
  have hlocks := B.notSynchronized
  subst hsz
  have hz := PS.start hB
  have hl := lv_entry ([.ref r, .ref u, .long x, .ref v, .long y]) (n := 8) (Nat.le_of_ble_eq_true rfl)
  rw [lg_entry_eq]
  generalize (lg_sl ([.ref r, .ref u, .long x, .ref v, .long y]) ++ List.replicate (8 - (lg_sl ([.ref r, .ref u, .long x, .ref v, .long y])).length) Slot.unset).toArray = ls at hl ⊢
  have hl : lv_has ls 8 [(0, .ref r), (1, .ref u), (2, .long x), (4, .ref v), (5, .long y)] := hl
  have hw0 : ∀ w ∈ u_ws RX4 TX4 2, w ∈ wsX4_becomeSum := by decide +kernel
  have hw1 := hts (.fieldLink RX4 9 "GaloisDesk$Row" "c" "[J") (by decide +kernel)
  refine lv_iconst (v := 0) hx hb dX4_becomeSum_0 (by decide) ?_
  refine lv_istore (lv' := [(7, .int 0), (0, .ref r), (1, .ref u), (2, .long x), (4, .ref v), (5, .long y)]) hx hb dX4_becomeSum_1 hl (by decide) rfl (fun ls hl => ?_)
  have e0 : E = va_up E (r + 1) (rowA cJ (fun j => if j < 0 then x * fu j + y * fv j else f j)) := by
    funext q; by_cases hq : q = r + 1
    · subst hq; rw [va_up_self]; rw [hr2]; simp
    · rw [va_up_ne _ _ hq]
  rw [e0] at hz
  clear e0
  have loop : ∀ (k i : Nat), i + k = 13 → ∀ (H : Heap) (locs : List Loc) (ls : Array Slot), PS D vwCl (tys3 cJ cI cR) b n s (va_up E (r + 1) (rowA cJ (fun j => if j < i then x * fu j + y * fv j else f j))) H locs → lv_has ls 8 [(7, .int (nI i)), (0, .ref r), (1, .ref u), (2, .long x), (4, .ref v), (5, .long y)] → W p l e (headSpec wsX4_becomeSum { frames := 1, cells := 0, slots := 0, locals := 21 }).room s m ([.ref r, .ref u, .long x, .ref v, .long y] : List Value).toArray below meth c H locs 0 0 (MQ below (cQv D vwCl (tys3 cJ cI cR) b n (fun E' => E' = va_up (va_up E (r + 1) (rowA cJ (fun j => x * fu j + y * fv j))) r (rowO r (dg (fun j => x * fu j + y * fv j) 13)))) ([.ref r, .ref u, .long x, .ref v, .long y] : List Value).toArray s 0 0 (PA b)) (F0 m 3 ls []) := by
    clear hz hl
    intro k
    induction k with
    | zero =>
      intro i hi H locs ls hz hl
      have hi : 13 = i := by omega
      subst hi
      refine lv_iload hx hb dX4_becomeSum_3 (lv_at hl 0 rfl) ?_
      refine lv_bipush (v := 13) hx hb dX4_becomeSum_5 (by decide) ?_
      refine lv_icmp_ge (tgt := 44) hx hb dX4_becomeSum_7 (by decide) (fun _ => ?_) (fun q => ?_)
      · skip
        have hz := PS.normJ (g := fun j => x * fu j + y * fv j) hz (fun j hj => if_pos hj)
        refine lv_aload_n hx hb dX4_becomeSum_44 rfl (lv_at hl 1 rfl) ?_
        refine pw_callv hz (va_runV (As := []) (rest := []) ⟨hx, hb, hml, hown, hts⟩ (c_Row_settle l D cJ cI cR b n _ _ r (fun j => x * fu j + y * fv j) t hr ((va_up_ne _ _ (by omega)).trans hr1) (va_up_self _ _ _)) (cwV 0 hts gX4_becomeSum_X4_settle rfl rfl rfl (by decide +kernel) ⟨Nat.le_of_ble_eq_true rfl, Nat.le_of_ble_eq_true rfl⟩) (hz.preV (by omega) ((va_up_ne _ _ (by omega)).trans hr1) rfl) rfl rfl hl.1 rfl (lv_room (Nat.le_of_ble_eq_true rfl)) dX4_becomeSum_45 ⟨Nat.le_of_ble_eq_true rfl, Nat.le_of_ble_eq_true rfl⟩) (fun Ev H locs hp hz => ?_)
        rw [hp] at hz
        have hz : PS D vwCl (tys3 cJ cI cR) b n s (va_up (va_up E (r + 1) (rowA cJ (fun j => x * fu j + y * fv j))) r (.inr (3, [.ref (r + 1), .int (dg (fun j => x * fu j + y * fv j) 13)]))) H locs := hz
        exact pw_vret hx hb hret hlocks hz (rfl) dX4_becomeSum_48
      · skip
        exact absurd (by decide) q
    | succ k ih =>
      intro i hi H locs ls hz hl
      have hlt : i < 13 := by omega
      refine lv_iload hx hb dX4_becomeSum_3 (lv_at hl 0 rfl) ?_
      refine lv_bipush (v := 13) hx hb dX4_becomeSum_5 (by decide) ?_
      refine lv_icmp_ge (tgt := 44) hx hb dX4_becomeSum_7 (by decide) (fun q => ?_) (fun _ => ?_)
      · skip
        exact absurd q (nI_ge (b := 13) hlt (by decide))
      · skip
        refine lv_aload_n hx hb dX4_becomeSum_10 rfl (lv_at hl 1 rfl) ?_
        refine pw_get (C := RX4) (T := TX4) (N := 2) (ci := 3) (v := .ref (r + 1)) hx hb hts hw0 hown hz (by omega) ((va_up_ne _ _ (by omega)).trans hr1) rfl 0 (by decide) hw1 (fun _ h9 => h9) rfl dX4_becomeSum_11 ?_
        refine lv_iload hx hb dX4_becomeSum_14 (lv_at hl 0 rfl) ?_
        refine lv_lload_n hx hb dX4_becomeSum_16 rfl (lv_at hl 3 rfl) ?_
        refine lv_aload_n hx hb dX4_becomeSum_17 rfl (lv_at hl 2 rfl) ?_
        refine pw_get (C := RX4) (T := TX4) (N := 2) (ci := 3) (v := .ref (u + 1)) hx hb hts hw0 hown hz (by omega) ((va_up_ne _ _ (by omega)).trans hu1) rfl 0 (by decide) hw1 (fun _ h9 => h9) rfl dX4_becomeSum_18 ?_
        refine lv_iload hx hb dX4_becomeSum_21 (lv_at hl 0 rfl) ?_
        refine pw_lald hx hb hz (by omega) ((va_up_ne _ _ (by omega)).trans hu2) 0 rfl (vp_in_nI hlt (by decide)) dX4_becomeSum_23 ?_
        rw [show fu (Int32.toNatClampNeg (nI i)) = fu i from by rw [nI_clamp (by omega)]]
        refine lv_lmul hx hb dX4_becomeSum_24 ?_
        refine lv_lload hx hb dX4_becomeSum_25 (lv_at hl 5 rfl) ?_
        refine lv_aload hx hb dX4_becomeSum_27 (lv_at hl 4 rfl) ?_
        refine pw_get (C := RX4) (T := TX4) (N := 2) (ci := 3) (v := .ref (v + 1)) hx hb hts hw0 hown hz (by omega) ((va_up_ne _ _ (by omega)).trans hv1) rfl 0 (by decide) hw1 (fun _ h9 => h9) rfl dX4_becomeSum_29 ?_
        refine lv_iload hx hb dX4_becomeSum_32 (lv_at hl 0 rfl) ?_
        refine pw_lald hx hb hz (by omega) ((va_up_ne _ _ (by omega)).trans hv2) 0 rfl (vp_in_nI hlt (by decide)) dX4_becomeSum_34 ?_
        rw [show fv (Int32.toNatClampNeg (nI i)) = fv i from by rw [nI_clamp (by omega)]]
        refine lv_lmul hx hb dX4_becomeSum_35 ?_
        refine lv_ladd hx hb dX4_becomeSum_36 ?_
        refine pw_last hx hb hz (by omega) (va_up_self _ _ _) 0 rfl (vp_in_nI hlt (by decide)) dX4_becomeSum_37 (fun H locs hz => ?_)
        have hz : PS D vwCl (tys3 cJ cI cR) b n s (va_up (va_up E (r + 1) (rowA cJ (fun j => if j < i then x * fu j + y * fv j else f j))) (r + 1) (.inl (cJ, 13, .inr (.inl (vp_updL (fun j => if j < i then x * fu j + y * fv j else f j) (Int32.toNatClampNeg (nI i)) ((x * (fu i)) + (y * (fv i)))))))) H locs := hz
        have e1 : (vp_updL (fun j => if j < i then x * fu j + y * fv j else f j) (Int32.toNatClampNeg (nI i)) (x * fu i + y * fv i)) = (fun j => if j < i + 1 then x * fu j + y * fv j else f j) := by rw [nI_clamp (by omega)]; exact updI (fun j => x * fu j + y * fv j) f i
        have hz : PS D vwCl (tys3 cJ cI cR) b n s (va_up (va_up E (r + 1) (rowA cJ (fun j => if j < i then x * fu j + y * fv j else f j))) (r + 1) (rowA cJ (vp_updL (fun j => if j < i then x * fu j + y * fv j else f j) (Int32.toNatClampNeg (nI i)) (x * fu i + y * fv i)))) H locs := hz
        rw [e1, bx_uu] at hz
        refine lv_iinc (v := (nI (i + 1))) (lv' := [(7, .int (nI (i + 1))), (0, .ref r), (1, .ref u), (2, .long x), (4, .ref v), (5, .long y)]) hx hb dX4_becomeSum_38 hl (k := 0) rfl (by exact nI_1 i) (by decide) rfl (fun ls hl => ?_)
        refine lv_goto (tgt := 3) hx hb dX4_becomeSum_41 (by decide) ?_
        exact ih (i + 1) (by omega) H locs ls hz hl
  exact loop 13 0 rfl _ _ ls hz hl

set_option maxHeartbeats 400000 in
set_option maxRecDepth 100000 in
/-- becomeSlope of 0 -/
theorem c_Row_becomeSlope_0 (l : Launch) (D : va_G) (cJ cI cR : ClassId) (b n : Nat) (E : Nat → va_E) (sz : Nat) (r : Nat) (f : Nat → Int64) (t : Int32) (hr : b ≤ r ∧ r + 1 < b + n) (hr1 : E r = rowO r t) (hr2 : E (r + 1) = rowA cJ f) (u : Nat) (fu : Nat → Int64) (hu : b ≤ u ∧ u + 1 < b + n) (hu1 : E u = rowO u (-1)) (hu2 : E (u + 1) = rowA cJ fu) (hne : r + 1 < u ∨ u + 1 < r) : Met l yX4_becomeSlope wsX4_becomeSlope { frames := 1, cells := 0, slots := 0, locals := 21 } (cP D vwCl (tys3 cJ cI cR) b n E sz [.ref r, .ref u]) (cQv D vwCl (tys3 cJ cI cR) b n (fun E' => E' = va_up (va_up E (r + 1) (rowA cJ (fun _ => 0))) r (rowO r (-1)))) 0 0 (PA b) := by
  refine Met.ofW (cc := cX4_becomeSlope) (maxL := 3) (ret := none) (by decide) rfl ?_
  intro p e s m args below meth c s₁ B hml hv
  obtain ⟨rfl, hsz, hB⟩ := hv
  have hx := B.exec
  have hb := B.bytes
  have hret := B.returns
  have hts := atoms_spec (ws := wsX4_becomeSlope) B.pre
  have hown : s.vm.findClass RX4 = some m.cls := findClass_of_methodNamed B.named
  have hlocks := B.notSynchronized
  subst hsz
  have hz := PS.start hB
  have hl := lv_entry ([.ref r, .ref u]) (n := 3) (Nat.le_of_ble_eq_true rfl)
  rw [lg_entry_eq]
  generalize (lg_sl ([.ref r, .ref u]) ++ List.replicate (3 - (lg_sl ([.ref r, .ref u])).length) Slot.unset).toArray = ls at hl ⊢
  have hl : lv_has ls 3 [(0, .ref r), (1, .ref u)] := hl
  have hw0 : ∀ w ∈ u_ws RX4 TX4 2, w ∈ wsX4_becomeSlope := by decide +kernel
  have hw1 := hts (.fieldLink RX4 15 "GaloisDesk$Row" "top" "I") (by decide +kernel)
  refine lv_aload_n hx hb dX4_becomeSlope_0 rfl (lv_at hl 0 rfl) ?_
  refine pw_callv hz (va_runV (As := []) (rest := []) ⟨hx, hb, hml, hown, hts⟩ (c_Row_clear l D cJ cI cR b n _ _ r f t hr hr1 hr2) (cwV 0 hts gX4_becomeSlope_X4_clear rfl rfl rfl (by decide +kernel) ⟨Nat.le_of_ble_eq_true rfl, Nat.le_of_ble_eq_true rfl⟩) (hz.preV (by omega) hr1 rfl) rfl rfl hl.1 rfl (lv_room (Nat.le_of_ble_eq_true rfl)) dX4_becomeSlope_1 ⟨Nat.le_of_ble_eq_true rfl, Nat.le_of_ble_eq_true rfl⟩) (fun Ev H locs hp hz => ?_)
  rw [hp] at hz
  have hz : PS D vwCl (tys3 cJ cI cR) b n s (va_up (va_up E (r + 1) (.inl (cJ, 13, .inr (.inl (fun _ => 0))))) r (.inr (3, [.ref (r + 1), .int (-1)]))) H locs := hz
  refine lv_iconst (v := 1) hx hb dX4_becomeSlope_4 (by decide) ?_
  refine lv_istore_n (lv' := [(2, .int 1), (0, .ref r), (1, .ref u)]) hx hb dX4_becomeSlope_5 rfl hl (by decide) rfl (fun ls hl => ?_)
  refine lv_iload_n hx hb dX4_becomeSlope_6 rfl (lv_at hl 0 rfl) ?_
  refine lv_aload_n hx hb dX4_becomeSlope_7 rfl (lv_at hl 2 rfl) ?_
  refine pw_get (C := RX4) (T := TX4) (N := 2) (ci := 3) (v := .int (-1)) hx hb hts hw0 hown hz (by omega) ((va_up_ne _ _ (by omega)).trans ((va_up_ne _ _ (by omega)).trans hu1)) rfl 1 (by decide) hw1 (fun _ h9 => h9) rfl dX4_becomeSlope_8 ?_
  refine lv_icmp_gt (tgt := 37) hx hb dX4_becomeSlope_11 (by decide) (fun _ => ?_) (fun q => ?_)
  · skip
    refine lv_aload_n hx hb dX4_becomeSlope_37 rfl (lv_at hl 1 rfl) ?_
    refine pw_callv hz (va_runV (As := []) (rest := []) ⟨hx, hb, hml, hown, hts⟩ (c_Row_settle l D cJ cI cR b n _ _ r (fun _ => 0) (-1) hr (va_up_self _ _ _) ((va_up_ne _ _ (by omega)).trans (va_up_self _ _ _))) (cwV 0 hts gX4_becomeSlope_X4_settle rfl rfl rfl (by decide +kernel) ⟨Nat.le_of_ble_eq_true rfl, Nat.le_of_ble_eq_true rfl⟩) (hz.preV (by omega) (va_up_self _ _ _) rfl) rfl rfl hl.1 rfl (lv_room (Nat.le_of_ble_eq_true rfl)) dX4_becomeSlope_38 ⟨Nat.le_of_ble_eq_true rfl, Nat.le_of_ble_eq_true rfl⟩) (fun Ev H locs hp hz => ?_)
    rw [hp] at hz
    have hz : PS D vwCl (tys3 cJ cI cR) b n s (va_up (va_up (va_up E (r + 1) (.inl (cJ, 13, .inr (.inl (fun _ => 0))))) r (.inr (3, [.ref (r + 1), .int (-1)]))) r (.inr (3, [.ref (r + 1), .int (dg (fun _ => 0) 13)]))) H locs := hz
    exact pw_vret hx hb hret hlocks hz (by rw [dg_0, bx_uu]) dX4_becomeSlope_41
  · skip
    exact absurd (by decide) q

set_option maxHeartbeats 400000 in
set_option maxRecDepth 100000 in
/-- becomeProduct of 0 -/
theorem c_Row_becomeProduct_0 (l : Launch) (D : va_G) (cJ cI cR : ClassId) (b n : Nat) (E : Nat → va_E) (sz : Nat) (r : Nat) (f : Nat → Int64) (t : Int32) (hr : b ≤ r ∧ r + 1 < b + n) (hr1 : E r = rowO r t) (hr2 : E (r + 1) = rowA cJ f) (u : Nat) (fu : Nat → Int64) (hu : b ≤ u ∧ u + 1 < b + n) (hu1 : E u = rowO u (-1)) (hu2 : E (u + 1) = rowA cJ fu) (hne : r + 1 < u ∨ u + 1 < r) (v : Nat) : Met l yX4_becomeProduct wsX4_becomeProduct { frames := 1, cells := 0, slots := 0, locals := 21 } (cP D vwCl (tys3 cJ cI cR) b n E sz [.ref r, .ref u, .ref v]) (cQv D vwCl (tys3 cJ cI cR) b n (fun E' => E' = va_up (va_up E (r + 1) (rowA cJ (fun _ => 0))) r (rowO r (-1)))) 0 0 (PA b) := by
  refine Met.ofW (cc := cX4_becomeProduct) (maxL := 5) (ret := none) (by decide) rfl ?_
  intro p e s m args below meth c s₁ B hml hv
  obtain ⟨rfl, hsz, hB⟩ := hv
  have hx := B.exec
  have hb := B.bytes
  have hret := B.returns
  have hts := atoms_spec (ws := wsX4_becomeProduct) B.pre
  have hown : s.vm.findClass RX4 = some m.cls := findClass_of_methodNamed B.named
  have hlocks := B.notSynchronized
  subst hsz
  have hz := PS.start hB
  have hl := lv_entry ([.ref r, .ref u, .ref v]) (n := 5) (Nat.le_of_ble_eq_true rfl)
  rw [lg_entry_eq]
  generalize (lg_sl ([.ref r, .ref u, .ref v]) ++ List.replicate (5 - (lg_sl ([.ref r, .ref u, .ref v])).length) Slot.unset).toArray = ls at hl ⊢
  have hl : lv_has ls 5 [(0, .ref r), (1, .ref u), (2, .ref v)] := hl
  have hw0 : ∀ w ∈ u_ws RX4 TX4 2, w ∈ wsX4_becomeProduct := by decide +kernel
  have hw1 := hts (.fieldLink RX4 15 "GaloisDesk$Row" "top" "I") (by decide +kernel)
  refine lv_aload_n hx hb dX4_becomeProduct_0 rfl (lv_at hl 0 rfl) ?_
  refine pw_callv hz (va_runV (As := []) (rest := []) ⟨hx, hb, hml, hown, hts⟩ (c_Row_clear l D cJ cI cR b n _ _ r f t hr hr1 hr2) (cwV 0 hts gX4_becomeProduct_X4_clear rfl rfl rfl (by decide +kernel) ⟨Nat.le_of_ble_eq_true rfl, Nat.le_of_ble_eq_true rfl⟩) (hz.preV (by omega) hr1 rfl) rfl rfl hl.1 rfl (lv_room (Nat.le_of_ble_eq_true rfl)) dX4_becomeProduct_1 ⟨Nat.le_of_ble_eq_true rfl, Nat.le_of_ble_eq_true rfl⟩) (fun Ev H locs hp hz => ?_)
  rw [hp] at hz
  have hz : PS D vwCl (tys3 cJ cI cR) b n s (va_up (va_up E (r + 1) (.inl (cJ, 13, .inr (.inl (fun _ => 0))))) r (.inr (3, [.ref (r + 1), .int (-1)]))) H locs := hz
  refine lv_iconst (v := 0) hx hb dX4_becomeProduct_4 (by decide) ?_
  refine lv_istore_n (lv' := [(3, .int 0), (0, .ref r), (1, .ref u), (2, .ref v)]) hx hb dX4_becomeProduct_5 rfl hl (by decide) rfl (fun ls hl => ?_)
  refine lv_iload_n hx hb dX4_becomeProduct_6 rfl (lv_at hl 0 rfl) ?_
  refine lv_aload_n hx hb dX4_becomeProduct_7 rfl (lv_at hl 2 rfl) ?_
  refine pw_get (C := RX4) (T := TX4) (N := 2) (ci := 3) (v := .int (-1)) hx hb hts hw0 hown hz (by omega) ((va_up_ne _ _ (by omega)).trans ((va_up_ne _ _ (by omega)).trans hu1)) rfl 1 (by decide) hw1 (fun _ h9 => h9) rfl dX4_becomeProduct_8 ?_
  refine lv_icmp_gt (tgt := 73) hx hb dX4_becomeProduct_11 (by decide) (fun _ => ?_) (fun q => ?_)
  · skip
    refine lv_aload_n hx hb dX4_becomeProduct_73 rfl (lv_at hl 1 rfl) ?_
    refine pw_callv hz (va_runV (As := []) (rest := []) ⟨hx, hb, hml, hown, hts⟩ (c_Row_settle l D cJ cI cR b n _ _ r (fun _ => 0) (-1) hr (va_up_self _ _ _) ((va_up_ne _ _ (by omega)).trans (va_up_self _ _ _))) (cwV 0 hts gX4_becomeProduct_X4_settle rfl rfl rfl (by decide +kernel) ⟨Nat.le_of_ble_eq_true rfl, Nat.le_of_ble_eq_true rfl⟩) (hz.preV (by omega) (va_up_self _ _ _) rfl) rfl rfl hl.1 rfl (lv_room (Nat.le_of_ble_eq_true rfl)) dX4_becomeProduct_74 ⟨Nat.le_of_ble_eq_true rfl, Nat.le_of_ble_eq_true rfl⟩) (fun Ev H locs hp hz => ?_)
    rw [hp] at hz
    have hz : PS D vwCl (tys3 cJ cI cR) b n s (va_up (va_up (va_up E (r + 1) (.inl (cJ, 13, .inr (.inl (fun _ => 0))))) r (.inr (3, [.ref (r + 1), .int (-1)]))) r (.inr (3, [.ref (r + 1), .int (dg (fun _ => 0) 13)]))) H locs := hz
    exact pw_vret hx hb hret hlocks hz (by rw [dg_0, bx_uu]) dX4_becomeProduct_77
  · skip
    exact absurd (by decide) q

theorem atR_m (f : Nat → Int64) : atR f (-1) = 0 := by rw [atR, if_pos (Or.inl (by decide))]

set_option maxHeartbeats 400000 in
set_option maxRecDepth 100000 in
/-- signedMeasure of 0 -/
theorem c_Row_signedMeasure_0 (l : Launch) (D : va_G) (cJ cI cR : ClassId) (b n : Nat) (E : Nat → va_E) (sz : Nat) (r : Nat) (f : Nat → Int64) (hr : b ≤ r ∧ r + 1 < b + n) (hr1 : E r = rowO r (-1)) (hr2 : E (r + 1) = rowA cJ f) : Met l yX4_signedMeasure wsX4_signedMeasure { frames := 2, cells := 0, slots := 0, locals := 41 } (cP D vwCl (tys3 cJ cI cR) b n E sz [.ref r]) (cQl D vwCl (tys3 cJ cI cR) b n (fun v E' => v = 0 ∧ E' = E)) 0 0 (PA b) := by
  refine Met.ofW (cc := cX4_signedMeasure) (maxL := 4) (ret := (some .long)) (by decide) rfl ?_
  intro p e s m args below meth c s₁ B hml hv
  obtain ⟨rfl, hsz, hB⟩ := hv
  have hx := B.exec
  have hb := B.bytes
  have hret := B.returns
  have hts := atoms_spec (ws := wsX4_signedMeasure) B.pre
  have hown : s.vm.findClass RX4 = some m.cls := findClass_of_methodNamed B.named
  have hlocks := B.notSynchronized
  subst hsz
  have hz := PS.start hB
  have hl := lv_entry ([.ref r]) (n := 4) (Nat.le_of_ble_eq_true rfl)
  rw [lg_entry_eq]
  generalize (lg_sl ([.ref r]) ++ List.replicate (4 - (lg_sl ([.ref r])).length) Slot.unset).toArray = ls at hl ⊢
  have hl : lv_has ls 4 [(0, .ref r)] := hl
  have hw0 : ∀ w ∈ u_ws RX4 TX4 2, w ∈ wsX4_signedMeasure := by decide +kernel
  have hw1 := hts (.fieldLink RX4 15 "GaloisDesk$Row" "top" "I") (by decide +kernel)
  refine lv_lconst (v := 0) hx hb dX4_signedMeasure_0 (by decide) ?_
  refine lv_lstore_n (lv' := [(1, .long 0), (0, .ref r)]) hx hb dX4_signedMeasure_1 rfl hl (by decide) rfl (fun ls hl => ?_)
  refine lv_iconst (v := 0) hx hb dX4_signedMeasure_2 (by decide) ?_
  refine lv_istore_n (lv' := [(3, .int 0), (1, .long 0), (0, .ref r)]) hx hb dX4_signedMeasure_3 rfl hl (by decide) rfl (fun ls hl => ?_)
  refine lv_iload_n hx hb dX4_signedMeasure_4 rfl (lv_at hl 0 rfl) ?_
  refine lv_aload_n hx hb dX4_signedMeasure_5 rfl (lv_at hl 2 rfl) ?_
  refine pw_get (C := RX4) (T := TX4) (N := 2) (ci := 3) (v := .int (-1)) hx hb hts hw0 hown hz (by omega) hr1 rfl 1 (by decide) hw1 (fun _ h9 => h9) rfl dX4_signedMeasure_6 ?_
  refine lv_icmp_gt (tgt := 29) hx hb dX4_signedMeasure_9 (by decide) (fun _ => ?_) (fun q => ?_)
  · skip
    refine lv_aload_n hx hb dX4_signedMeasure_29 rfl (lv_at hl 2 rfl) ?_
    refine pw_calll hz (va_runV (As := []) (rest := []) ⟨hx, hb, hml, hown, hts⟩ (c_Row_lead l D cJ cI cR b n _ _ r f (-1) hr hr1 hr2) (cwV 0 hts gX4_signedMeasure_X4_lead rfl rfl rfl (by decide +kernel) ⟨Nat.le_of_ble_eq_true rfl, Nat.le_of_ble_eq_true rfl⟩) (hz.preV (by omega) hr1 rfl) rfl rfl hl.1 rfl (lv_room (Nat.le_of_ble_eq_true rfl)) dX4_signedMeasure_30 ⟨Nat.le_of_ble_eq_true rfl, Nat.le_of_ble_eq_true rfl⟩) (fun r_1 Ev H locs hp hz => ?_)
    obtain ⟨hr_1, hp⟩ := hp
    subst hr_1
    rw [hp] at hz
    refine lv_lconst (v := 0) hx hb dX4_signedMeasure_33 (by decide) ?_
    refine W.lcmp hx hb dX4_signedMeasure_34 ?_
    refine lv_if_ge (tgt := 43) hx hb dX4_signedMeasure_35 (by decide) (fun _ => ?_) (fun q => ?_)
    · skip
      refine lv_lload_n hx hb dX4_signedMeasure_43 rfl (lv_at hl 1 rfl) ?_
      exact pw_lret hx hb hret hlocks hz ⟨rfl, rfl⟩ dX4_signedMeasure_44
    · skip
      exact absurd (by rw [atR_m]; decide) q
  · skip
    exact absurd (by decide) q

set_option maxHeartbeats 400000 in
set_option maxRecDepth 100000 in
/-- makePrimitive of 0 -/
theorem c_Row_makePrimitive_0 (l : Launch) (D : va_G) (cJ cI cR : ClassId) (b n : Nat) (E : Nat → va_E) (sz : Nat) (r : Nat) (f : Nat → Int64) (hr : b ≤ r ∧ r + 1 < b + n) (hr1 : E r = rowO r (-1)) (hr2 : E (r + 1) = rowA cJ f) : Met l yX4_makePrimitive wsX4_makePrimitive { frames := 3, cells := 0, slots := 0, locals := 64 } (cP D vwCl (tys3 cJ cI cR) b n E sz [.ref r]) (cQv D vwCl (tys3 cJ cI cR) b n (fun E' => E' = E)) 0 0 (PA b) := by
  refine Met.ofW (cc := cX4_makePrimitive) (maxL := 4) (ret := none) (by decide) rfl ?_
  intro p e s m args below meth c s₁ B hml hv
  obtain ⟨rfl, hsz, hB⟩ := hv
  have hx := B.exec
  have hb := B.bytes
  have hret := B.returns
  have hts := atoms_spec (ws := wsX4_makePrimitive) B.pre
  have hown : s.vm.findClass RX4 = some m.cls := findClass_of_methodNamed B.named
  have hlocks := B.notSynchronized
  subst hsz
  have hz := PS.start hB
  have hl := lv_entry ([.ref r]) (n := 4) (Nat.le_of_ble_eq_true rfl)
  rw [lg_entry_eq]
  generalize (lg_sl ([.ref r]) ++ List.replicate (4 - (lg_sl ([.ref r])).length) Slot.unset).toArray = ls at hl ⊢
  have hl : lv_has ls 4 [(0, .ref r)] := hl
  refine lv_aload_n hx hb dX4_makePrimitive_0 rfl (lv_at hl 0 rfl) ?_
  refine pw_calll hz (va_runV (As := []) (rest := []) ⟨hx, hb, hml, hown, hts⟩ (c_Row_signedMeasure_0 l D cJ cI cR b n _ _ r f hr hr1 hr2) (cwV 0 hts gX4_makePrimitive_X4_signedMeasure rfl rfl rfl (by decide +kernel) ⟨Nat.le_of_ble_eq_true rfl, Nat.le_of_ble_eq_true rfl⟩) (hz.preV (by omega) hr1 rfl) rfl rfl hl.1 rfl (lv_room (Nat.le_of_ble_eq_true rfl)) dX4_makePrimitive_1 ⟨Nat.le_of_ble_eq_true rfl, Nat.le_of_ble_eq_true rfl⟩) (fun r_1 Ev H locs hp hz => ?_)
  obtain ⟨hr_1, hp⟩ := hp
  subst hr_1
  rw [hp] at hz
  refine lv_lstore_n (lv' := [(1, .long 0), (0, .ref r)]) hx hb dX4_makePrimitive_4 rfl hl (by decide) rfl (fun ls hl => ?_)
  refine lv_lload_n hx hb dX4_makePrimitive_5 rfl (lv_at hl 0 rfl) ?_
  refine lv_lconst (v := 0) hx hb dX4_makePrimitive_6 (by decide) ?_
  refine W.lcmp hx hb dX4_makePrimitive_7 ?_
  refine lv_if_ne (tgt := 12) hx hb dX4_makePrimitive_8 (by decide) (fun q => ?_) (fun _ => ?_)
  · skip
    exact absurd (by decide) q
  · skip
    exact pw_vret hx hb hret hlocks hz (rfl) dX4_makePrimitive_11

abbrev deskO (x : Nat) (pc : Int32) : va_E := .inr (5, [.ref (x + 1), .ref (x + 18), .ref (x + 20), .ref (x + 22), .ref (x + 24), .ref (x + 39), .int pc, .ref (x + 40), .ref (x + 41)])
abbrev slotsA (cR : ClassId) (g : Nat → Option Nat) : va_E := .inl (cR, 8, .inr (.inr (.inr (.inr g))))

set_option maxHeartbeats 400000 in
set_option maxRecDepth 100000 in
/-- keepResult of 0 -/
theorem c_keepResult_0 (l : Launch) (D : va_G) (cJ cI cR : ClassId) (b n : Nat) (E : Nat → va_E) (sz : Nat) (x : Nat) (pc0 : Int32) (g : Nat → Option Nat) (hx0 : b ≤ x ∧ x + 124 ≤ b + n) (hd : E x = deskO x pc0) (hs : E (x + 1) = slotsA cR g) (hg : ∀ j, j < 8 → g j = some (x + 1 + 1 + 2 * j)) (j : Nat) (hj : j < 8) (f : Nat → Int64) (t : Int32) (hyj1 : E (x + 1 + 1 + 2 * j) = rowO (x + 1 + 1 + 2 * j) t) (hyj2 : E ((x + 1 + 1 + 2 * j) + 1) = rowA cJ f) (f2 : Nat → Int64) (hq1 : E (x + 18) = rowO (x + 18) (-1)) (hq2 : E (x + 18 + 1) = rowA cJ f2) : Met l yX6_keepResult wsX6_keepResult { frames := 2, cells := 0, slots := 0, locals := 61 } (cP D vwCl (tys3 cJ cI cR) b n E sz [.ref x, .int (nI j)]) (cQi D vwCl (tys3 cJ cI cR) b n (fun v E' => v = -1 ∧ E' = va_up (va_up E (x + 1 + 1 + 2 * j + 1) (rowA cJ f2)) (x + 1 + 1 + 2 * j) (rowO (x + 1 + 1 + 2 * j) (-1)))) 0 0 (PA b) := by
  refine Met.ofW (cc := cX6_keepResult) (maxL := 2) (ret := (some .int)) (by decide) rfl ?_
  intro p e s m args below meth c s₁ B hml hv
  obtain ⟨rfl, hsz, hB⟩ := hv
  have hx := B.exec
  have hb := B.bytes
  have hret := B.returns
  have hts := atoms_spec (ws := wsX6_keepResult) B.pre
  have hown : s.vm.findClass RX6 = some m.cls := findClass_of_methodNamed B.named
  have hlocks := B.notSynchronized
  subst hsz
  have hz := PS.start hB
  have hl := lv_entry ([.ref x, .int (nI j)]) (n := 2) (Nat.le_of_ble_eq_true rfl)
  rw [lg_entry_eq]
  generalize (lg_sl ([.ref x, .int (nI j)]) ++ List.replicate (2 - (lg_sl ([.ref x, .int (nI j)])).length) Slot.unset).toArray = ls at hl ⊢
  have hl : lv_has ls 2 [(0, .ref x), (1, .int (nI j))] := hl
  have hw0 : ∀ w ∈ u_ws RX6 TX6 9, w ∈ wsX6_keepResult := by decide +kernel
  have hw1 := hts (.fieldLink RX6 20 "GaloisDesk" "result" "LGaloisDesk$Row;") (by decide +kernel)
  have hw2 : ∀ w ∈ u_ws RX4 TX4 2, w ∈ wsX6_keepResult := by decide +kernel
  have hw3 := hts (.fieldLink RX6 75 "GaloisDesk$Row" "top" "I") (by decide +kernel)
  have hw4 := hts (.constantLong RX6 169 (300)) (by decide +kernel)
  have hw5 := hts (.fieldLink RX6 13 "GaloisDesk" "slots" "[LGaloisDesk$Row;") (by decide +kernel)
  refine lv_aload_n hx hb dX6_keepResult_0 rfl (lv_at hl 0 rfl) ?_
  refine pw_get (C := RX6) (T := TX6) (N := 9) (ci := 5) (v := .ref (x + 18)) hx hb hts hw0 hown hz (by omega) hd rfl 1 (by decide) hw1 (fun _ h9 => h9) rfl dX6_keepResult_1 ?_
  refine pw_get (C := RX4) (T := TX4) (N := 2) (ci := 3) (v := .int (-1)) hx hb hts hw2 hown hz (by omega) hq1 rfl 1 (by decide) hw3 (fun _ h9 => h9) rfl dX6_keepResult_4 ?_
  refine lv_bipush (v := 6) hx hb dX6_keepResult_7 (by decide) ?_
  refine lv_icmp_gt (tgt := 25) hx hb dX6_keepResult_9 (by decide) (fun q => ?_) (fun _ => ?_)
  · skip
    exact absurd q (by decide)
  · skip
    refine lv_aload_n hx hb dX6_keepResult_12 rfl (lv_at hl 0 rfl) ?_
    refine pw_get (C := RX6) (T := TX6) (N := 9) (ci := 5) (v := .ref (x + 18)) hx hb hts hw0 hown hz (by omega) hd rfl 1 (by decide) hw1 (fun _ h9 => h9) rfl dX6_keepResult_13 ?_
    refine lv_ldc2 hx hb hown hw4 dX6_keepResult_16 ?_
    refine pw_calli hz (va_runV (As := [.long 300]) (rest := []) ⟨hx, hb, hml, hown, hts⟩ (c_Row_isWithin_0 l D cJ cI cR b n _ _ (x + 18) f2 _ (by omega) hq1 hq2) (cwV 1 hts gX6_keepResult_X4_isWithin rfl rfl rfl (by decide +kernel) ⟨Nat.le_of_ble_eq_true rfl, Nat.le_of_ble_eq_true rfl⟩) (hz.preV (by omega) hq1 rfl) rfl rfl hl.1 rfl (lv_room (Nat.le_of_ble_eq_true rfl)) dX6_keepResult_19 ⟨Nat.le_of_ble_eq_true rfl, Nat.le_of_ble_eq_true rfl⟩) (fun r_1 Ev H locs hp hz => ?_)
    obtain ⟨hr_1, hp⟩ := hp
    subst hr_1
    rw [hp] at hz
    refine lv_if_ne (tgt := 28) hx hb dX6_keepResult_22 (by decide) (fun _ => ?_) (fun q => ?_)
    · skip
      refine lv_aload_n hx hb dX6_keepResult_28 rfl (lv_at hl 0 rfl) ?_
      refine pw_get (C := RX6) (T := TX6) (N := 9) (ci := 5) (v := .ref (x + 1)) hx hb hts hw0 hown hz (by omega) hd rfl 0 (by decide) hw5 (fun _ h9 => h9) rfl dX6_keepResult_29 ?_
      refine lv_iload_n hx hb dX6_keepResult_32 rfl (lv_at hl 1 rfl) ?_
      refine pw_aldq (v := (x + 1 + 1 + 2 * j)) hx hb hz (by omega) hs 2 rfl (vp_in_nI hj (by decide)) (by rw [nI_clamp (by omega)]; exact hg j hj) dX6_keepResult_33 ?_
      refine lv_aload_n hx hb dX6_keepResult_34 rfl (lv_at hl 0 rfl) ?_
      refine pw_get (C := RX6) (T := TX6) (N := 9) (ci := 5) (v := .ref (x + 18)) hx hb hts hw0 hown hz (by omega) hd rfl 1 (by decide) hw1 (fun _ h9 => h9) rfl dX6_keepResult_35 ?_
      refine pw_callv hz (va_runV (As := [.ref (x + 18)]) (rest := []) ⟨hx, hb, hml, hown, hts⟩ (c_Row_become l D cJ cI cR b n _ _ (x + 1 + 1 + 2 * j) f t (by omega) hyj1 hyj2 (x + 18) f2 (-1) (by omega) hq1 hq2 (by omega)) (cwV 1 hts gX6_keepResult_X4_become rfl rfl rfl (by decide +kernel) ⟨Nat.le_of_ble_eq_true rfl, Nat.le_of_ble_eq_true rfl⟩) (hz.preV (by omega) hyj1 rfl) rfl rfl hl.1 rfl (lv_room (Nat.le_of_ble_eq_true rfl)) dX6_keepResult_38 ⟨Nat.le_of_ble_eq_true rfl, Nat.le_of_ble_eq_true rfl⟩) (fun Ev H locs hp hz => ?_)
      rw [hp] at hz
      have hz : PS D vwCl (tys3 cJ cI cR) b n s (va_up (va_up E ((x + 1 + 1 + 2 * j) + 1) (.inl (cJ, 13, .inr (.inl f2)))) (x + 1 + 1 + 2 * j) (.inr (3, [.ref ((x + 1 + 1 + 2 * j) + 1), .int (-1)]))) H locs := hz
      refine lv_aload_n hx hb dX6_keepResult_41 rfl (lv_at hl 0 rfl) ?_
      refine pw_get (C := RX6) (T := TX6) (N := 9) (ci := 5) (v := .ref (x + 18)) hx hb hts hw0 hown hz (by omega) ((va_up_ne _ _ (by omega)).trans ((va_up_ne _ _ (by omega)).trans hd)) rfl 1 (by decide) hw1 (fun _ h9 => h9) rfl dX6_keepResult_42 ?_
      refine pw_get (C := RX4) (T := TX4) (N := 2) (ci := 3) (v := .int (-1)) hx hb hts hw2 hown hz (by omega) ((va_up_ne _ _ (by omega)).trans ((va_up_ne _ _ (by omega)).trans hq1)) rfl 1 (by decide) hw3 (fun _ h9 => h9) rfl dX6_keepResult_45 ?_
      exact pw_iret hx hb hret hlocks hz ⟨rfl, rfl⟩ dX6_keepResult_48
    · skip
      exact absurd q (by decide)
