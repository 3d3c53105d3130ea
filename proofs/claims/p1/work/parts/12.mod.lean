/-! THE REFERENCE on its fresh state. -/
abbrev modO (a : Nat) (ref : Int32) : va_E := .inr (6, [.int ref, .ref (a + 1), .int 0, .int 0, .ref (a + 2), .ref (a + 3), .int 0, .int 0, .int 0, .ref (a + 4), .ref (a + 5), .int 0, .ref (a + 6), .ref (a + 7), .int 0, .int 0, .int 0, .int 0, .ref (a + 8), .int 0, .long 0, .long 0, .long 0, .int 0, .long 0])
abbrev rowM (cJ : ClassId) (F : Nat → Int64) : va_E := .inl (cJ, 240, .inr (.inl F))
theorem ix8 (j k : Nat) : (8 : Int32) * nI j + nI k = nI (8 * j + k) := by rw [show (8 : Int32) = nI 8 from rfl, pk_mul, nI_add]
theorem ix64 (k : Nat) : (64 : Int32) + nI k = nI (64 + k) := by rw [show (64 : Int32) = nI 64 from rfl, nI_add]
theorem upd0 (k : Nat) : vp_updL (fun _ => 0) k 0 = fun _ => 0 := by
  funext j
  unfold vp_updL
  split <;> rfl
theorem up_same {E : Nat → va_E} {k : Nat} {x : va_E} (h : E k = x) : va_up E k x = E := by
  funext j
  by_cases hj : j = k
  · subst hj; rw [va_up_self, h]
  · rw [va_up_ne _ _ hj]
theorem nI_m1 (k : Nat) : nI k + Int32.ofInt (-1) = nI k - 1 := by rw [Int32.sub_eq_add_neg]; rfl
abbrev inI (v lo hi : Int32) : Prop := ¬ v < lo ∧ ¬ hi < v

set_option maxHeartbeats 400000 in
set_option maxRecDepth 100000 in
/-- isSlot -/
theorem c_isSlot_1 (l : Launch) (D : va_G) (cJ cI cR : ClassId) (b n : Nat) (E : Nat → va_E) (sz : Nat) (x : Int32) (h : okS x) : Met l yX7_isSlot wsX7_isSlot { frames := 0, cells := 0, slots := 0, locals := 0 } (cP D vwCl (tys3 cJ cI cR) b n E sz [.int x]) (cQi D vwCl (tys3 cJ cI cR) b n (fun v E' => v = 1 ∧ E' = E)) 0 0 (PA b) := by
  refine Met.ofW (cc := cX7_isSlot) (maxL := 1) (ret := (some .boolean)) (by decide) rfl ?_
  intro p e s m args below meth c s₁ B hml hv
  obtain ⟨rfl, hsz, hB⟩ := hv
  have hx := B.exec
  have hb := B.bytes
  have hret := B.returns
  have hts := atoms_spec (ws := wsX7_isSlot) B.pre
  have hown : s.vm.findClass RX7 = some m.cls := findClass_of_methodNamed B.named
  have hlocks := B.notSynchronized
  subst hsz
  have hz := PS.start hB
  have hl := lv_entry ([.int x]) (n := 1) (Nat.le_of_ble_eq_true rfl)
  rw [lg_entry_eq]
  generalize (lg_sl ([.int x]) ++ List.replicate (1 - (lg_sl ([.int x])).length) Slot.unset).toArray = ls at hl ⊢
  have hl : lv_has ls 1 [(0, .int x)] := hl
  refine lv_iload_n hx hb dX7_isSlot_0 rfl (lv_at hl 0 rfl) ?_
  refine lv_if_lt (tgt := 14) hx hb dX7_isSlot_1 (by decide) (fun q1 => ?_) (fun q1 => ?_)
  · skip
    exact absurd q1 h.1
  · skip
    refine lv_iload_n hx hb dX7_isSlot_4 rfl (lv_at hl 0 rfl) ?_
    refine lv_bipush (v := 8) hx hb dX7_isSlot_5 (by decide) ?_
    refine lv_icmp_ge (tgt := 14) hx hb dX7_isSlot_7 (by decide) (fun q2 => ?_) (fun q2 => ?_)
    · skip
      exact absurd h.2 (Int32.not_lt.mpr q2)
    · skip
      refine lv_iconst (v := 1) hx hb dX7_isSlot_10 (by decide) ?_
      refine lv_goto (tgt := 15) hx hb dX7_isSlot_11 (by decide) ?_
      exact pw_zret hx hb hret hlocks (Or.inr rfl) hz ⟨rfl, rfl⟩ dX7_isSlot_15

set_option maxHeartbeats 400000 in
set_option maxRecDepth 100000 in
/-- isSlot -/
theorem c_isSlot_0 (l : Launch) (D : va_G) (cJ cI cR : ClassId) (b n : Nat) (E : Nat → va_E) (sz : Nat) (x : Int32) (h : ¬ (okS x)) : Met l yX7_isSlot wsX7_isSlot { frames := 0, cells := 0, slots := 0, locals := 0 } (cP D vwCl (tys3 cJ cI cR) b n E sz [.int x]) (cQi D vwCl (tys3 cJ cI cR) b n (fun v E' => v = 0 ∧ E' = E)) 0 0 (PA b) := by
  refine Met.ofW (cc := cX7_isSlot) (maxL := 1) (ret := (some .boolean)) (by decide) rfl ?_
  intro p e s m args below meth c s₁ B hml hv
  obtain ⟨rfl, hsz, hB⟩ := hv
  have hx := B.exec
  have hb := B.bytes
  have hret := B.returns
  have hts := atoms_spec (ws := wsX7_isSlot) B.pre
  have hown : s.vm.findClass RX7 = some m.cls := findClass_of_methodNamed B.named
  have hlocks := B.notSynchronized
  subst hsz
  have hz := PS.start hB
  have hl := lv_entry ([.int x]) (n := 1) (Nat.le_of_ble_eq_true rfl)
  rw [lg_entry_eq]
  generalize (lg_sl ([.int x]) ++ List.replicate (1 - (lg_sl ([.int x])).length) Slot.unset).toArray = ls at hl ⊢
  have hl : lv_has ls 1 [(0, .int x)] := hl
  refine lv_iload_n hx hb dX7_isSlot_0 rfl (lv_at hl 0 rfl) ?_
  refine lv_if_lt (tgt := 14) hx hb dX7_isSlot_1 (by decide) (fun q1 => ?_) (fun q1 => ?_)
  · skip
    refine lv_iconst (v := 0) hx hb dX7_isSlot_14 (by decide) ?_
    exact pw_zret hx hb hret hlocks (Or.inl rfl) hz ⟨rfl, rfl⟩ dX7_isSlot_15
  · skip
    refine lv_iload_n hx hb dX7_isSlot_4 rfl (lv_at hl 0 rfl) ?_
    refine lv_bipush (v := 8) hx hb dX7_isSlot_5 (by decide) ?_
    refine lv_icmp_ge (tgt := 14) hx hb dX7_isSlot_7 (by decide) (fun q2 => ?_) (fun q2 => ?_)
    · skip
      refine lv_iconst (v := 0) hx hb dX7_isSlot_14 (by decide) ?_
      exact pw_zret hx hb hret hlocks (Or.inl rfl) hz ⟨rfl, rfl⟩ dX7_isSlot_15
    · skip
      exact absurd ⟨q1, Int32.not_le.mp q2⟩ h

set_option maxHeartbeats 400000 in
set_option maxRecDepth 100000 in
/-- isIn -/
theorem c_isIn_1 (l : Launch) (D : va_G) (cJ cI cR : ClassId) (b n : Nat) (E : Nat → va_E) (sz : Nat) (x y z : Int32) (h : inI x y z) : Met l yX7_isIn wsX7_isIn { frames := 0, cells := 0, slots := 0, locals := 0 } (cP D vwCl (tys3 cJ cI cR) b n E sz [.int x, .int y, .int z]) (cQi D vwCl (tys3 cJ cI cR) b n (fun v E' => v = 1 ∧ E' = E)) 0 0 (PA b) := by
  refine Met.ofW (cc := cX7_isIn) (maxL := 3) (ret := (some .boolean)) (by decide) rfl ?_
  intro p e s m args below meth c s₁ B hml hv
  obtain ⟨rfl, hsz, hB⟩ := hv
  have hx := B.exec
  have hb := B.bytes
  have hret := B.returns
  have hts := atoms_spec (ws := wsX7_isIn) B.pre
  have hown : s.vm.findClass RX7 = some m.cls := findClass_of_methodNamed B.named
  have hlocks := B.notSynchronized
  subst hsz
  have hz := PS.start hB
  have hl := lv_entry ([.int x, .int y, .int z]) (n := 3) (Nat.le_of_ble_eq_true rfl)
  rw [lg_entry_eq]
  generalize (lg_sl ([.int x, .int y, .int z]) ++ List.replicate (3 - (lg_sl ([.int x, .int y, .int z])).length) Slot.unset).toArray = ls at hl ⊢
  have hl : lv_has ls 3 [(0, .int x), (1, .int y), (2, .int z)] := hl
  refine lv_iload_n hx hb dX7_isIn_0 rfl (lv_at hl 0 rfl) ?_
  refine lv_iload_n hx hb dX7_isIn_1 rfl (lv_at hl 1 rfl) ?_
  refine lv_icmp_lt (tgt := 14) hx hb dX7_isIn_2 (by decide) (fun q1 => ?_) (fun q1 => ?_)
  · skip
    exact absurd q1 h.1
  · skip
    refine lv_iload_n hx hb dX7_isIn_5 rfl (lv_at hl 0 rfl) ?_
    refine lv_iload_n hx hb dX7_isIn_6 rfl (lv_at hl 2 rfl) ?_
    refine lv_icmp_gt (tgt := 14) hx hb dX7_isIn_7 (by decide) (fun q2 => ?_) (fun q2 => ?_)
    · skip
      exact absurd q2 h.2
    · skip
      refine lv_iconst (v := 1) hx hb dX7_isIn_10 (by decide) ?_
      refine lv_goto (tgt := 15) hx hb dX7_isIn_11 (by decide) ?_
      exact pw_zret hx hb hret hlocks (Or.inr rfl) hz ⟨rfl, rfl⟩ dX7_isIn_15

set_option maxHeartbeats 400000 in
set_option maxRecDepth 100000 in
/-- isIn -/
theorem c_isIn_0 (l : Launch) (D : va_G) (cJ cI cR : ClassId) (b n : Nat) (E : Nat → va_E) (sz : Nat) (x y z : Int32) (h : ¬ (inI x y z)) : Met l yX7_isIn wsX7_isIn { frames := 0, cells := 0, slots := 0, locals := 0 } (cP D vwCl (tys3 cJ cI cR) b n E sz [.int x, .int y, .int z]) (cQi D vwCl (tys3 cJ cI cR) b n (fun v E' => v = 0 ∧ E' = E)) 0 0 (PA b) := by
  refine Met.ofW (cc := cX7_isIn) (maxL := 3) (ret := (some .boolean)) (by decide) rfl ?_
  intro p e s m args below meth c s₁ B hml hv
  obtain ⟨rfl, hsz, hB⟩ := hv
  have hx := B.exec
  have hb := B.bytes
  have hret := B.returns
  have hts := atoms_spec (ws := wsX7_isIn) B.pre
  have hown : s.vm.findClass RX7 = some m.cls := findClass_of_methodNamed B.named
  have hlocks := B.notSynchronized
  subst hsz
  have hz := PS.start hB
  have hl := lv_entry ([.int x, .int y, .int z]) (n := 3) (Nat.le_of_ble_eq_true rfl)
  rw [lg_entry_eq]
  generalize (lg_sl ([.int x, .int y, .int z]) ++ List.replicate (3 - (lg_sl ([.int x, .int y, .int z])).length) Slot.unset).toArray = ls at hl ⊢
  have hl : lv_has ls 3 [(0, .int x), (1, .int y), (2, .int z)] := hl
  refine lv_iload_n hx hb dX7_isIn_0 rfl (lv_at hl 0 rfl) ?_
  refine lv_iload_n hx hb dX7_isIn_1 rfl (lv_at hl 1 rfl) ?_
  refine lv_icmp_lt (tgt := 14) hx hb dX7_isIn_2 (by decide) (fun q1 => ?_) (fun q1 => ?_)
  · skip
    refine lv_iconst (v := 0) hx hb dX7_isIn_14 (by decide) ?_
    exact pw_zret hx hb hret hlocks (Or.inl rfl) hz ⟨rfl, rfl⟩ dX7_isIn_15
  · skip
    refine lv_iload_n hx hb dX7_isIn_5 rfl (lv_at hl 0 rfl) ?_
    refine lv_iload_n hx hb dX7_isIn_6 rfl (lv_at hl 2 rfl) ?_
    refine lv_icmp_gt (tgt := 14) hx hb dX7_isIn_7 (by decide) (fun q2 => ?_) (fun q2 => ?_)
    · skip
      refine lv_iconst (v := 0) hx hb dX7_isIn_14 (by decide) ?_
      exact pw_zret hx hb hret hlocks (Or.inl rfl) hz ⟨rfl, rfl⟩ dX7_isIn_15
    · skip
      exact absurd ⟨q1, q2⟩ h

set_option maxHeartbeats 400000 in
set_option maxRecDepth 100000 in
/-- refused(0) -/
theorem c_refused_0 (l : Launch) (D : va_G) (cJ cI cR : ClassId) (b n : Nat) (E : Nat → va_E) (sz : Nat) (a : Nat) (ref : Int32) (ha : b ≤ a ∧ a + 9 ≤ b + n) (hm : E a = modO a ref) : Met l yX7_refused wsX7_refused { frames := 0, cells := 0, slots := 0, locals := 0 } (cP D vwCl (tys3 cJ cI cR) b n E sz [.ref a, .int 0]) (cQi D vwCl (tys3 cJ cI cR) b n (fun v E' => v = 0 ∧ E' = va_up E a (modO a 0))) 0 0 (PA b) := by
  refine Met.ofW (cc := cX7_refused) (maxL := 2) (ret := (some .boolean)) (by decide) rfl ?_
  intro p e s m args below meth c s₁ B hml hv
  obtain ⟨rfl, hsz, hB⟩ := hv
  have hx := B.exec
  have hb := B.bytes
  have hret := B.returns
  have hts := atoms_spec (ws := wsX7_refused) B.pre
  have hown : s.vm.findClass RX7 = some m.cls := findClass_of_methodNamed B.named
  have hlocks := B.notSynchronized
  subst hsz
  have hz := PS.start hB
  have hl := lv_entry ([.ref a, .int 0]) (n := 2) (Nat.le_of_ble_eq_true rfl)
  rw [lg_entry_eq]
  generalize (lg_sl ([.ref a, .int 0]) ++ List.replicate (2 - (lg_sl ([.ref a, .int 0])).length) Slot.unset).toArray = ls at hl ⊢
  have hl : lv_has ls 2 [(0, .ref a), (1, .int 0)] := hl
  have hw0 : ∀ w ∈ u_ws RX7 TX7 25, w ∈ wsX7_refused := by decide +kernel
  have hw1 := hts (.fieldLink RX7 35 "GaloisDeskModel" "refusal" "I") (by decide +kernel)
  refine lv_aload_n hx hb dX7_refused_0 rfl (lv_at hl 0 rfl) ?_
  refine lv_iload_n hx hb dX7_refused_1 rfl (lv_at hl 1 rfl) ?_
  refine pw_put (C := RX7) (T := TX7) (N := 25) (ci := 6) (ty := .int) (v := .int 0) hx hb hts hw0 tyX7 tyX7_ok nmX7 hown hz (by omega) hm rfl 0 (by decide) hw1 (fun _ h9 => h9) rfl (by decide +kernel) rfl rfl (Nat.le_of_ble_eq_true rfl) dX7_refused_2 (fun H locs hz => ?_)
  have hz : PS D vwCl (tys3 cJ cI cR) b n s (va_up E a (.inr (6, [.int 0, .ref (a + 1), .int 0, .int 0, .ref (a + 2), .ref (a + 3), .int 0, .int 0, .int 0, .ref (a + 4), .ref (a + 5), .int 0, .ref (a + 6), .ref (a + 7), .int 0, .int 0, .int 0, .int 0, .ref (a + 8), .int 0, .long 0, .long 0, .long 0, .int 0, .long 0]))) H locs := hz
  refine lv_iload_n hx hb dX7_refused_5 rfl (lv_at hl 1 rfl) ?_
  refine lv_if_le (tgt := 13) hx hb dX7_refused_6 (by decide) (fun q => ?_) (fun q => ?_)
  · skip
    refine lv_iconst (v := 0) hx hb dX7_refused_13 (by decide) ?_
    exact pw_zret hx hb hret hlocks (Or.inl rfl) hz ⟨rfl, rfl⟩ dX7_refused_14
  · skip
    exact absurd (by decide) q

set_option maxHeartbeats 400000 in
set_option maxRecDepth 100000 in
/-- refused(1) -/
theorem c_refused_1 (l : Launch) (D : va_G) (cJ cI cR : ClassId) (b n : Nat) (E : Nat → va_E) (sz : Nat) (a : Nat) (ref : Int32) (ha : b ≤ a ∧ a + 9 ≤ b + n) (hm : E a = modO a ref) : Met l yX7_refused wsX7_refused { frames := 0, cells := 0, slots := 0, locals := 0 } (cP D vwCl (tys3 cJ cI cR) b n E sz [.ref a, .int 1]) (cQi D vwCl (tys3 cJ cI cR) b n (fun v E' => v = 1 ∧ E' = va_up E a (modO a 1))) 0 0 (PA b) := by
  refine Met.ofW (cc := cX7_refused) (maxL := 2) (ret := (some .boolean)) (by decide) rfl ?_
  intro p e s m args below meth c s₁ B hml hv
  obtain ⟨rfl, hsz, hB⟩ := hv
  have hx := B.exec
  have hb := B.bytes
  have hret := B.returns
  have hts := atoms_spec (ws := wsX7_refused) B.pre
  have hown : s.vm.findClass RX7 = some m.cls := findClass_of_methodNamed B.named
  have hlocks := B.notSynchronized
  subst hsz
  have hz := PS.start hB
  have hl := lv_entry ([.ref a, .int 1]) (n := 2) (Nat.le_of_ble_eq_true rfl)
  rw [lg_entry_eq]
  generalize (lg_sl ([.ref a, .int 1]) ++ List.replicate (2 - (lg_sl ([.ref a, .int 1])).length) Slot.unset).toArray = ls at hl ⊢
  have hl : lv_has ls 2 [(0, .ref a), (1, .int 1)] := hl
  have hw0 : ∀ w ∈ u_ws RX7 TX7 25, w ∈ wsX7_refused := by decide +kernel
  have hw1 := hts (.fieldLink RX7 35 "GaloisDeskModel" "refusal" "I") (by decide +kernel)
  refine lv_aload_n hx hb dX7_refused_0 rfl (lv_at hl 0 rfl) ?_
  refine lv_iload_n hx hb dX7_refused_1 rfl (lv_at hl 1 rfl) ?_
  refine pw_put (C := RX7) (T := TX7) (N := 25) (ci := 6) (ty := .int) (v := .int 1) hx hb hts hw0 tyX7 tyX7_ok nmX7 hown hz (by omega) hm rfl 0 (by decide) hw1 (fun _ h9 => h9) rfl (by decide +kernel) rfl rfl (Nat.le_of_ble_eq_true rfl) dX7_refused_2 (fun H locs hz => ?_)
  have hz : PS D vwCl (tys3 cJ cI cR) b n s (va_up E a (.inr (6, [.int 1, .ref (a + 1), .int 0, .int 0, .ref (a + 2), .ref (a + 3), .int 0, .int 0, .int 0, .ref (a + 4), .ref (a + 5), .int 0, .ref (a + 6), .ref (a + 7), .int 0, .int 0, .int 0, .int 0, .ref (a + 8), .int 0, .long 0, .long 0, .long 0, .int 0, .long 0]))) H locs := hz
  refine lv_iload_n hx hb dX7_refused_5 rfl (lv_at hl 1 rfl) ?_
  refine lv_if_le (tgt := 13) hx hb dX7_refused_6 (by decide) (fun q => ?_) (fun q => ?_)
  · skip
    exact absurd q (by decide)
  · skip
    refine lv_iconst (v := 1) hx hb dX7_refused_9 (by decide) ?_
    refine lv_goto (tgt := 14) hx hb dX7_refused_10 (by decide) ?_
    exact pw_zret hx hb hret hlocks (Or.inr rfl) hz ⟨rfl, rfl⟩ dX7_refused_14

set_option maxHeartbeats 400000 in
set_option maxRecDepth 100000 in
/-- degreeOf(r) -/
theorem c_degreeOf (l : Launch) (D : va_G) (cJ cI cR : ClassId) (b n : Nat) (E : Nat → va_E) (sz : Nat) (a : Nat) (ref : Int32) (ha : b ≤ a ∧ a + 9 ≤ b + n) (hm : E a = modO a ref) (F : Nat → Int64) (hrow : E (a + 1) = rowM cJ F) (j : Nat) (hj : j < 30) : Met l yX7_degreeOf wsX7_degreeOf { frames := 0, cells := 0, slots := 0, locals := 0 } (cP D vwCl (tys3 cJ cI cR) b n E sz [.ref a, .int (nI j)]) (cQi D vwCl (tys3 cJ cI cR) b n (fun v E' => v = dg (fun k => F (8 * j + k)) 8 ∧ E' = E)) 0 0 (PA b) := by
  refine Met.ofW (cc := cX7_degreeOf) (maxL := 3) (ret := (some .int)) (by decide) rfl ?_
  intro p e s m args below meth c s₁ B hml hv
  obtain ⟨rfl, hsz, hB⟩ := hv
  have hx := B.exec
  have hb := B.bytes
  have hret := B.returns
  have hts := atoms_spec (ws := wsX7_degreeOf) B.pre
  have hown : s.vm.findClass RX7 = some m.cls := findClass_of_methodNamed B.named
  have hlocks := B.notSynchronized
  subst hsz
  have hz := PS.start hB
  have hl := lv_entry ([.ref a, .int (nI j)]) (n := 3) (Nat.le_of_ble_eq_true rfl)
  rw [lg_entry_eq]
  generalize (lg_sl ([.ref a, .int (nI j)]) ++ List.replicate (3 - (lg_sl ([.ref a, .int (nI j)])).length) Slot.unset).toArray = ls at hl ⊢
  have hl : lv_has ls 3 [(0, .ref a), (1, .int (nI j))] := hl
  have hw0 : ∀ w ∈ u_ws RX7 TX7 25, w ∈ wsX7_degreeOf := by decide +kernel
  have hw1 := hts (.fieldLink RX7 7 "GaloisDeskModel" "row" "[J") (by decide +kernel)
  refine lv_bipush (v := 7) hx hb dX7_degreeOf_0 (by decide) ?_
  refine lv_istore_n (lv' := [(2, .int 7), (0, .ref a), (1, .int (nI j))]) hx hb dX7_degreeOf_2 rfl hl (by decide) rfl (fun ls hl => ?_)
  have loop : ∀ (i : Nat) (dv : Int32) (ls : Array Slot), i ≤ 8 → dv = nI i - 1 → dg (fun k => F (8 * j + k)) 8 = dg (fun k => F (8 * j + k)) i → lv_has ls 3 [(2, .int dv), (0, .ref a), (1, .int (nI j))] → W p l e (headSpec wsX7_degreeOf { frames := 0, cells := 0, slots := 0, locals := 0 }).room s m ([.ref a, .int (nI j)] : List Value).toArray below meth c s.heap [] 0 0 (MQ below (cQi D vwCl (tys3 cJ cI cR) b n (fun v E' => v = dg (fun k => F (8 * j + k)) 8 ∧ E' = E)) ([.ref a, .int (nI j)] : List Value).toArray s 0 0 (PA b)) (F0 m 3 ls []) := by
    intro i
    induction i with
    | zero =>
      intro dv ls hi hd hg hl
      refine lv_iload_n hx hb dX7_degreeOf_3 rfl (lv_at hl 0 rfl) ?_
      refine lv_if_lt (tgt := 29) hx hb dX7_degreeOf_4 (by decide) (fun _ => ?_) (fun q => ?_)
      · skip
        refine lv_iload_n hx hb dX7_degreeOf_29 rfl (lv_at hl 0 rfl) ?_
        exact pw_iret hx hb hret hlocks hz ⟨by rw [hg, hd]; rfl, rfl⟩ dX7_degreeOf_30
      · skip
        exact absurd (by rw [hd]; decide) q
    | succ k ih =>
      intro dv ls hi hd hg hl
      rw [nI_pred] at hd
      subst hd
      refine lv_iload_n hx hb dX7_degreeOf_3 rfl (lv_at hl 0 rfl) ?_
      refine lv_if_lt (tgt := 29) hx hb dX7_degreeOf_4 (by decide) (fun q => ?_) (fun _ => ?_)
      · skip
        exact absurd q (nI_pos (by omega))
      · skip
        refine lv_aload_n hx hb dX7_degreeOf_7 rfl (lv_at hl 1 rfl) ?_
        refine pw_get (C := RX7) (T := TX7) (N := 25) (ci := 6) (v := .ref (a + 1)) hx hb hts hw0 hown hz (by omega) hm rfl 1 (by decide) hw1 (fun _ h9 => h9) rfl dX7_degreeOf_8 ?_
        refine lv_bipush (v := 8) hx hb dX7_degreeOf_11 (by decide) ?_
        refine lv_iload_n hx hb dX7_degreeOf_13 rfl (lv_at hl 2 rfl) ?_
        refine lv_imul hx hb dX7_degreeOf_14 ?_
        refine lv_iload_n hx hb dX7_degreeOf_15 rfl (lv_at hl 0 rfl) ?_
        refine lv_iadd hx hb dX7_degreeOf_16 ?_
        refine pw_lald hx hb hz (by omega) hrow 0 rfl (by rw [ix8]; exact vp_in_nI (by omega) (by decide)) dX7_degreeOf_17 ?_
        rw [show F (Int32.toNatClampNeg ((8 * (nI j)) + (nI k))) = F (8 * j + k) from by rw [ix8, nI_clamp (by omega)]]
        refine lv_lconst (v := 0) hx hb dX7_degreeOf_18 (by decide) ?_
        refine W.lcmp hx hb dX7_degreeOf_19 ?_
        refine W.eq (g2 := F0 m 20 ls [.int (lg_cmp (F (8 * j + k)) 0)]) rfl ?_
        refine lv_if_ne (tgt := 29) hx hb dX7_degreeOf_20 (by decide) (fun q => ?_) (fun q => ?_)
        · skip
          refine lv_iload_n hx hb dX7_degreeOf_29 rfl (lv_at hl 0 rfl) ?_
          exact pw_iret hx hb hret hlocks hz ⟨by rw [hg, dg, if_neg (fun h => q ((lg_cmp_eq _ _).mpr h))], rfl⟩ dX7_degreeOf_30
        · skip
          refine lv_iinc (v := (nI k - 1)) (lv' := [(2, .int (nI k - 1)), (0, .ref a), (1, .int (nI j))]) hx hb dX7_degreeOf_23 hl (k := 0) rfl (by exact nI_m1 k) (by decide) rfl (fun ls hl => ?_)
          refine lv_goto (tgt := 3) hx hb dX7_degreeOf_26 (by decide) ?_
          exact ih (nI k - 1) ls (by omega) rfl (hg.trans (by rw [dg, if_pos ((lg_cmp_eq _ _).mp q)])) hl
  exact loop 8 7 ls (Nat.le_refl _) (by decide) rfl hl

set_option maxHeartbeats 400000 in
set_option maxRecDepth 100000 in
/-- clear(r) of zeros -/
theorem c_mclear_0 (l : Launch) (D : va_G) (cJ cI cR : ClassId) (b n : Nat) (E : Nat → va_E) (sz : Nat) (a : Nat) (ref : Int32) (ha : b ≤ a ∧ a + 9 ≤ b + n) (hm : E a = modO a ref) (hrow : E (a + 1) = rowM cJ (fun _ => 0)) (j : Nat) (hj : j < 30) : Met l yX7_clear wsX7_clear { frames := 0, cells := 0, slots := 0, locals := 0 } (cP D vwCl (tys3 cJ cI cR) b n E sz [.ref a, .int (nI j)]) (cQv D vwCl (tys3 cJ cI cR) b n (fun E' => E' = E)) 0 0 (PA b) := by
  refine Met.ofW (cc := cX7_clear) (maxL := 3) (ret := none) (by decide) rfl ?_
  intro p e s m args below meth c s₁ B hml hv
  obtain ⟨rfl, hsz, hB⟩ := hv
  have hx := B.exec
  have hb := B.bytes
  have hret := B.returns
  have hts := atoms_spec (ws := wsX7_clear) B.pre
  have hown : s.vm.findClass RX7 = some m.cls := findClass_of_methodNamed B.named
  have hlocks := B.notSynchronized
  subst hsz
  have hz := PS.start hB
  have hl := lv_entry ([.ref a, .int (nI j)]) (n := 3) (Nat.le_of_ble_eq_true rfl)
  rw [lg_entry_eq]
  generalize (lg_sl ([.ref a, .int (nI j)]) ++ List.replicate (3 - (lg_sl ([.ref a, .int (nI j)])).length) Slot.unset).toArray = ls at hl ⊢
  have hl : lv_has ls 3 [(0, .ref a), (1, .int (nI j))] := hl
  have hw0 : ∀ w ∈ u_ws RX7 TX7 25, w ∈ wsX7_clear := by decide +kernel
  have hw1 := hts (.fieldLink RX7 7 "GaloisDeskModel" "row" "[J") (by decide +kernel)
  refine lv_iconst (v := 0) hx hb dX7_clear_0 (by decide) ?_
  refine lv_istore_n (lv' := [(2, .int 0), (0, .ref a), (1, .int (nI j))]) hx hb dX7_clear_1 rfl hl (by decide) rfl (fun ls hl => ?_)
  have loop : ∀ (k i : Nat), i + k = 8 → ∀ (H : Heap) (locs : List Loc) (ls : Array Slot), PS D vwCl (tys3 cJ cI cR) b n s E H locs → lv_has ls 3 [(2, .int (nI i)), (0, .ref a), (1, .int (nI j))] → W p l e (headSpec wsX7_clear { frames := 0, cells := 0, slots := 0, locals := 0 }).room s m ([.ref a, .int (nI j)] : List Value).toArray below meth c H locs 0 0 (MQ below (cQv D vwCl (tys3 cJ cI cR) b n (fun E' => E' = E)) ([.ref a, .int (nI j)] : List Value).toArray s 0 0 (PA b)) (F0 m 2 ls []) := by
    clear hz hl
    intro k
    induction k with
    | zero =>
      intro i hi H locs ls hz hl
      have hi : 8 = i := by omega
      subst hi
      refine lv_iload_n hx hb dX7_clear_2 rfl (lv_at hl 0 rfl) ?_
      refine lv_bipush (v := 8) hx hb dX7_clear_3 (by decide) ?_
      refine lv_icmp_ge (tgt := 26) hx hb dX7_clear_5 (by decide) (fun _ => ?_) (fun q => ?_)
      · skip
        exact pw_vret hx hb hret hlocks hz (rfl) dX7_clear_26
      · skip
        exact absurd (by decide) q
    | succ k ih =>
      intro i hi H locs ls hz hl
      have hlt : i < 8 := by omega
      refine lv_iload_n hx hb dX7_clear_2 rfl (lv_at hl 0 rfl) ?_
      refine lv_bipush (v := 8) hx hb dX7_clear_3 (by decide) ?_
      refine lv_icmp_ge (tgt := 26) hx hb dX7_clear_5 (by decide) (fun q => ?_) (fun _ => ?_)
      · skip
        exact absurd q (nI_ge (b := 8) hlt (by decide))
      · skip
        refine lv_aload_n hx hb dX7_clear_8 rfl (lv_at hl 1 rfl) ?_
        refine pw_get (C := RX7) (T := TX7) (N := 25) (ci := 6) (v := .ref (a + 1)) hx hb hts hw0 hown hz (by omega) hm rfl 1 (by decide) hw1 (fun _ h9 => h9) rfl dX7_clear_9 ?_
        refine lv_bipush (v := 8) hx hb dX7_clear_12 (by decide) ?_
        refine lv_iload_n hx hb dX7_clear_14 rfl (lv_at hl 2 rfl) ?_
        refine lv_imul hx hb dX7_clear_15 ?_
        refine lv_iload_n hx hb dX7_clear_16 rfl (lv_at hl 0 rfl) ?_
        refine lv_iadd hx hb dX7_clear_17 ?_
        refine lv_lconst (v := 0) hx hb dX7_clear_18 (by decide) ?_
        refine pw_last hx hb hz (by omega) hrow 0 rfl (by rw [ix8]; exact vp_in_nI (by omega) (by decide)) dX7_clear_19 (fun H locs hz => ?_)
        have hz : PS D vwCl (tys3 cJ cI cR) b n s (va_up E (a + 1) (.inl (cJ, 240, .inr (.inl (vp_updL (fun _ => 0) (Int32.toNatClampNeg ((8 * (nI j)) + (nI i))) 0))))) H locs := hz
        rw [upd0, up_same hrow] at hz
        refine lv_iinc (v := (nI (i + 1))) (lv' := [(2, .int (nI (i + 1))), (0, .ref a), (1, .int (nI j))]) hx hb dX7_clear_20 hl (k := 0) rfl (by exact nI_1 i) (by decide) rfl (fun ls hl => ?_)
        refine lv_goto (tgt := 2) hx hb dX7_clear_23 (by decide) ?_
        exact ih (i + 1) (by omega) H locs ls hz hl
  exact loop 8 0 rfl _ _ ls hz hl

set_option maxHeartbeats 400000 in
set_option maxRecDepth 100000 in
/-- copy of zeros -/
theorem c_mcopy_0 (l : Launch) (D : va_G) (cJ cI cR : ClassId) (b n : Nat) (E : Nat → va_E) (sz : Nat) (a : Nat) (ref : Int32) (ha : b ≤ a ∧ a + 9 ≤ b + n) (hm : E a = modO a ref) (hrow : E (a + 1) = rowM cJ (fun _ => 0)) (j j2 : Nat) (hj : j < 30) (hj2 : j2 < 30) : Met l yX7_copy wsX7_copy { frames := 0, cells := 0, slots := 0, locals := 0 } (cP D vwCl (tys3 cJ cI cR) b n E sz [.ref a, .int (nI j), .int (nI j2)]) (cQv D vwCl (tys3 cJ cI cR) b n (fun E' => E' = E)) 0 0 (PA b) := by
  refine Met.ofW (cc := cX7_copy) (maxL := 4) (ret := none) (by decide) rfl ?_
  intro p e s m args below meth c s₁ B hml hv
  obtain ⟨rfl, hsz, hB⟩ := hv
  have hx := B.exec
  have hb := B.bytes
  have hret := B.returns
  have hts := atoms_spec (ws := wsX7_copy) B.pre
  have hown : s.vm.findClass RX7 = some m.cls := findClass_of_methodNamed B.named
  have hlocks := B.notSynchronized
  subst hsz
  have hz := PS.start hB
  have hl := lv_entry ([.ref a, .int (nI j), .int (nI j2)]) (n := 4) (Nat.le_of_ble_eq_true rfl)
  rw [lg_entry_eq]
  generalize (lg_sl ([.ref a, .int (nI j), .int (nI j2)]) ++ List.replicate (4 - (lg_sl ([.ref a, .int (nI j), .int (nI j2)])).length) Slot.unset).toArray = ls at hl ⊢
  have hl : lv_has ls 4 [(0, .ref a), (1, .int (nI j)), (2, .int (nI j2))] := hl
  have hw0 : ∀ w ∈ u_ws RX7 TX7 25, w ∈ wsX7_copy := by decide +kernel
  have hw1 := hts (.fieldLink RX7 7 "GaloisDeskModel" "row" "[J") (by decide +kernel)
  refine lv_iconst (v := 0) hx hb dX7_copy_0 (by decide) ?_
  refine lv_istore_n (lv' := [(3, .int 0), (0, .ref a), (1, .int (nI j)), (2, .int (nI j2))]) hx hb dX7_copy_1 rfl hl (by decide) rfl (fun ls hl => ?_)
  have loop : ∀ (k i : Nat), i + k = 8 → ∀ (H : Heap) (locs : List Loc) (ls : Array Slot), PS D vwCl (tys3 cJ cI cR) b n s E H locs → lv_has ls 4 [(3, .int (nI i)), (0, .ref a), (1, .int (nI j)), (2, .int (nI j2))] → W p l e (headSpec wsX7_copy { frames := 0, cells := 0, slots := 0, locals := 0 }).room s m ([.ref a, .int (nI j), .int (nI j2)] : List Value).toArray below meth c H locs 0 0 (MQ below (cQv D vwCl (tys3 cJ cI cR) b n (fun E' => E' = E)) ([.ref a, .int (nI j), .int (nI j2)] : List Value).toArray s 0 0 (PA b)) (F0 m 2 ls []) := by
    clear hz hl
    intro k
    induction k with
    | zero =>
      intro i hi H locs ls hz hl
      have hi : 8 = i := by omega
      subst hi
      refine lv_iload_n hx hb dX7_copy_2 rfl (lv_at hl 0 rfl) ?_
      refine lv_bipush (v := 8) hx hb dX7_copy_3 (by decide) ?_
      refine lv_icmp_ge (tgt := 36) hx hb dX7_copy_5 (by decide) (fun _ => ?_) (fun q => ?_)
      · skip
        exact pw_vret hx hb hret hlocks hz (rfl) dX7_copy_36
      · skip
        exact absurd (by decide) q
    | succ k ih =>
      intro i hi H locs ls hz hl
      have hlt : i < 8 := by omega
      refine lv_iload_n hx hb dX7_copy_2 rfl (lv_at hl 0 rfl) ?_
      refine lv_bipush (v := 8) hx hb dX7_copy_3 (by decide) ?_
      refine lv_icmp_ge (tgt := 36) hx hb dX7_copy_5 (by decide) (fun q => ?_) (fun _ => ?_)
      · skip
        exact absurd q (nI_ge (b := 8) hlt (by decide))
      · skip
        refine lv_aload_n hx hb dX7_copy_8 rfl (lv_at hl 1 rfl) ?_
        refine pw_get (C := RX7) (T := TX7) (N := 25) (ci := 6) (v := .ref (a + 1)) hx hb hts hw0 hown hz (by omega) hm rfl 1 (by decide) hw1 (fun _ h9 => h9) rfl dX7_copy_9 ?_
        refine lv_bipush (v := 8) hx hb dX7_copy_12 (by decide) ?_
        refine lv_iload_n hx hb dX7_copy_14 rfl (lv_at hl 2 rfl) ?_
        refine lv_imul hx hb dX7_copy_15 ?_
        refine lv_iload_n hx hb dX7_copy_16 rfl (lv_at hl 0 rfl) ?_
        refine lv_iadd hx hb dX7_copy_17 ?_
        refine lv_aload_n hx hb dX7_copy_18 rfl (lv_at hl 1 rfl) ?_
        refine pw_get (C := RX7) (T := TX7) (N := 25) (ci := 6) (v := .ref (a + 1)) hx hb hts hw0 hown hz (by omega) hm rfl 1 (by decide) hw1 (fun _ h9 => h9) rfl dX7_copy_19 ?_
        refine lv_bipush (v := 8) hx hb dX7_copy_22 (by decide) ?_
        refine lv_iload_n hx hb dX7_copy_24 rfl (lv_at hl 3 rfl) ?_
        refine lv_imul hx hb dX7_copy_25 ?_
        refine lv_iload_n hx hb dX7_copy_26 rfl (lv_at hl 0 rfl) ?_
        refine lv_iadd hx hb dX7_copy_27 ?_
        refine pw_lald hx hb hz (by omega) hrow 0 rfl (by rw [ix8]; exact vp_in_nI (by omega) (by decide)) dX7_copy_28 ?_
        show W p l e _ s m _ below meth c H locs 0 0 _ (F0 m _ ls [.long 0, .int (8 * nI j + nI i), .ref (a + 1)])
        refine pw_last hx hb hz (by omega) hrow 0 rfl (by rw [ix8]; exact vp_in_nI (by omega) (by decide)) dX7_copy_29 (fun H locs hz => ?_)
        have hz : PS D vwCl (tys3 cJ cI cR) b n s (va_up E (a + 1) (.inl (cJ, 240, .inr (.inl (vp_updL (fun _ => 0) (Int32.toNatClampNeg ((8 * (nI j)) + (nI i))) 0))))) H locs := hz
        rw [upd0, up_same hrow] at hz
        refine lv_iinc (v := (nI (i + 1))) (lv' := [(3, .int (nI (i + 1))), (0, .ref a), (1, .int (nI j)), (2, .int (nI j2))]) hx hb dX7_copy_30 hl (k := 0) rfl (by exact nI_1 i) (by decide) rfl (fun ls hl => ?_)
        refine lv_goto (tgt := 2) hx hb dX7_copy_33 (by decide) ?_
        exact ih (i + 1) (by omega) H locs ls hz hl
  exact loop 8 0 rfl _ _ ls hz hl

set_option maxHeartbeats 400000 in
set_option maxRecDepth 100000 in
/-- isZero of zeros -/
theorem c_isZero_0 (l : Launch) (D : va_G) (cJ cI cR : ClassId) (b n : Nat) (E : Nat → va_E) (sz : Nat) (a : Nat) (ref : Int32) (ha : b ≤ a ∧ a + 9 ≤ b + n) (hm : E a = modO a ref) (hrow : E (a + 1) = rowM cJ (fun _ => 0)) (j : Nat) (hj : j < 30) : Met l yX7_isZero wsX7_isZero { frames := 1, cells := 0, slots := 0, locals := 22 } (cP D vwCl (tys3 cJ cI cR) b n E sz [.ref a, .int (nI j)]) (cQi D vwCl (tys3 cJ cI cR) b n (fun v E' => v = 1 ∧ E' = E)) 0 0 (PA b) := by
  refine Met.ofW (cc := cX7_isZero) (maxL := 2) (ret := (some .boolean)) (by decide) rfl ?_
  intro p e s m args below meth c s₁ B hml hv
  obtain ⟨rfl, hsz, hB⟩ := hv
  have hx := B.exec
  have hb := B.bytes
  have hret := B.returns
  have hts := atoms_spec (ws := wsX7_isZero) B.pre
  have hown : s.vm.findClass RX7 = some m.cls := findClass_of_methodNamed B.named
  have hlocks := B.notSynchronized
  subst hsz
  have hz := PS.start hB
  have hl := lv_entry ([.ref a, .int (nI j)]) (n := 2) (Nat.le_of_ble_eq_true rfl)
  rw [lg_entry_eq]
  generalize (lg_sl ([.ref a, .int (nI j)]) ++ List.replicate (2 - (lg_sl ([.ref a, .int (nI j)])).length) Slot.unset).toArray = ls at hl ⊢
  have hl : lv_has ls 2 [(0, .ref a), (1, .int (nI j))] := hl
  refine lv_aload_n hx hb dX7_isZero_0 rfl (lv_at hl 0 rfl) ?_
  refine lv_iload_n hx hb dX7_isZero_1 rfl (lv_at hl 1 rfl) ?_
  refine pw_calli hz (va_runV (As := [.int (nI j)]) (rest := []) ⟨hx, hb, hml, hown, hts⟩ (c_degreeOf l D cJ cI cR b n _ _ a ref ha hm (fun _ => 0) hrow j hj) (cwV 1 hts gX7_isZero_X7_degreeOf rfl rfl rfl (by decide +kernel) ⟨Nat.le_of_ble_eq_true rfl, Nat.le_of_ble_eq_true rfl⟩) (hz.preV (by omega) hm rfl) rfl rfl hl.1 rfl (lv_room (Nat.le_of_ble_eq_true rfl)) dX7_isZero_2 ⟨Nat.le_of_ble_eq_true rfl, Nat.le_of_ble_eq_true rfl⟩) (fun r_1 Ev H locs hp hz => ?_)
  obtain ⟨hr_1, hp⟩ := hp
  subst hr_1
  rw [hp] at hz
  rw [dg_0]
  refine lv_if_ge (tgt := 12) hx hb dX7_isZero_5 (by decide) (fun q => ?_) (fun _ => ?_)
  · skip
    exact absurd q (by decide)
  · skip
    refine lv_iconst (v := 1) hx hb dX7_isZero_8 (by decide) ?_
    refine lv_goto (tgt := 13) hx hb dX7_isZero_9 (by decide) ?_
    exact pw_zret hx hb hret hlocks (Or.inr rfl) hz ⟨rfl, rfl⟩ dX7_isZero_13
