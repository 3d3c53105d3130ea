/-! Row: the rest of its methods. -/
section
variable {D : va_G} {cl : List vw_C} {tys : List (ClassId × FieldType)} {b n : Nat} {s : State} {E : Nat → va_E} {H : Heap} {locs : List Loc} {a : Nat} {cA : ClassId} {N : Nat}
/-- an array's contents count below its length alone -/
theorem PS.normJ {f g : Nat → Int64} (hz : PS D cl tys b n s (va_up E a (.inl (cA, N, .inr (.inl f)))) H locs) (h : ∀ j, j < N → f j = g j) : PS D cl tys b n s (va_up E a (.inl (cA, N, .inr (.inl g)))) H locs := by
  refine ⟨fun k q hk => ?_, hz.2⟩
  obtain ⟨h1, h2, h3, h4⟩ := pl_of hk
  obtain ⟨k0, hk0⟩ := pl_at (n := n) (E := va_up E a (.inl (cA, N, .inr (.inl f)))) (a := q.1) ⟨h1, h2⟩
  have h5 := hz.1 k0 _ hk0
  obtain ⟨q1, q2⟩ := q
  dsimp only at h3 h5 ⊢
  by_cases hq : q1 = a
  · subst hq
    rw [va_up_self] at h3 h5
    rw [h3]
    have h6 : H[q1]? = some (vp_cell cA (N, .inr (.inl f))) := h5
    show H[q1]? = some (vp_cell cA (N, .inr (.inl g)))
    rw [h6, vp_cell_l, vp_cell_l]
    have e : (Array.ofFn (n := N) fun j => Value.long (f j.val)) = Array.ofFn (n := N) fun j => Value.long (g j.val) := congrArg _ (funext fun j => by rw [h j.val j.isLt])
    unfold arrV
    rw [e]
  · rw [va_up_ne _ _ hq] at h3 h5
    rw [h3]
    exact h5
end
theorem cl_0 : Int32.toNatClampNeg 0 = 0 := by decide +kernel
theorem cl_13 : Int32.toNatClampNeg 13 = 13 := by decide +kernel
theorem dg_0 : ∀ k, dg (fun _ => 0) k = -1
  | 0 => rfl
  | k + 1 => by simp [dg, dg_0 k]
theorem updI (g f : Nat → Int64) (i : Nat) : vp_updL (fun j => if j < i then g j else f j) i (g i) = fun j => if j < i + 1 then g j else f j := by
  funext j
  show (if j = i then g i else if j < i then g j else f j) = _
  by_cases h1 : j = i
  · rw [if_pos h1, if_pos (by omega), h1]
  · rw [if_neg h1]
    by_cases h2 : j < i
    · rw [if_pos h2, if_pos (by omega)]
    · rw [if_neg h2, if_neg (by omega)]
theorem up_comm {α : Type} (f : Nat → α) {i j : Nat} (x y : α) (h : i ≠ j) : va_up (va_up f i x) j y = va_up (va_up f j y) i x := by
  funext k
  by_cases h1 : k = j
  · subst h1; rw [va_up_self, va_up_ne _ _ (Ne.symm h), va_up_self]
  · by_cases h2 : k = i
    · subst h2; rw [va_up_ne _ _ h1, va_up_self, va_up_self]
    · rw [va_up_ne _ _ h1, va_up_ne _ _ h2, va_up_ne _ _ h2, va_up_ne _ _ h1]

set_option maxHeartbeats 400000 in
set_option maxRecDepth 100000 in
/-- clear() -/
theorem c_Row_clear (l : Launch) (D : va_G) (cJ cI cR : ClassId) (b n : Nat) (E : Nat → va_E) (sz : Nat) (r : Nat) (f : Nat → Int64) (t : Int32) (hr : b ≤ r ∧ r + 1 < b + n) (hr1 : E r = rowO r t) (hr2 : E (r + 1) = rowA cJ f) : Met l yX4_clear wsX4_clear { frames := 0, cells := 0, slots := 0, locals := 0 } (cP D vwCl (tys3 cJ cI cR) b n E sz [.ref r]) (cQv D vwCl (tys3 cJ cI cR) b n (fun E' => E' = va_up (va_up E (r + 1) (rowA cJ (fun _ => 0))) r (rowO r (-1)))) 0 0 (PA b) := by
  refine Met.ofW (cc := cX4_clear) (maxL := 2) (ret := none) (by decide) rfl ?_
  intro p e s m args below meth c s₁ B hml hv
  obtain ⟨rfl, hsz, hB⟩ := hv
  have hx := B.exec
  have hb := B.bytes
  have hret := B.returns
  have hts := atoms_spec (ws := wsX4_clear) B.pre
  have hown : s.vm.findClass RX4 = some m.cls := findClass_of_methodNamed B.named
  have hlocks := B.notSynchronized
  subst hsz
  have hz := PS.start hB
  have hl := lv_entry ([.ref r]) (n := 2) (Nat.le_of_ble_eq_true rfl)
  rw [lg_entry_eq]
  generalize (lg_sl ([.ref r]) ++ List.replicate (2 - (lg_sl ([.ref r])).length) Slot.unset).toArray = ls at hl ⊢
  have hl : lv_has ls 2 [(0, .ref r)] := hl
  have hw0 : ∀ w ∈ u_ws RX4 TX4 2, w ∈ wsX4_clear := by decide +kernel
  have hw1 := hts (.fieldLink RX4 15 "GaloisDesk$Row" "top" "I") (by decide +kernel)
  have hw2 := hts (.fieldLink RX4 9 "GaloisDesk$Row" "c" "[J") (by decide +kernel)
  refine lv_iconst (v := 0) hx hb dX4_clear_0 (by decide) ?_
  refine lv_istore_n (lv' := [(1, .int 0), (0, .ref r)]) hx hb dX4_clear_1 rfl hl (by decide) rfl (fun ls hl => ?_)
  have e0 : E = va_up E (r + 1) (rowA cJ (fun j => if j < 0 then 0 else f j)) := by
    funext q; by_cases hq : q = r + 1
    · subst hq; rw [va_up_self]; rw [hr2]; simp
    · rw [va_up_ne _ _ hq]
  rw [e0] at hz
  clear e0
  have loop : ∀ (k i : Nat), i + k = 13 → ∀ (H : Heap) (locs : List Loc) (ls : Array Slot), PS D vwCl (tys3 cJ cI cR) b n s (va_up E (r + 1) (rowA cJ (fun j => if j < i then 0 else f j))) H locs → lv_has ls 2 [(1, .int (nI i)), (0, .ref r)] → W p l e (headSpec wsX4_clear { frames := 0, cells := 0, slots := 0, locals := 0 }).room s m ([.ref r] : List Value).toArray below meth c H locs 0 0 (MQ below (cQv D vwCl (tys3 cJ cI cR) b n (fun E' => E' = va_up (va_up E (r + 1) (rowA cJ (fun _ => 0))) r (rowO r (-1)))) ([.ref r] : List Value).toArray s 0 0 (PA b)) (F0 m 2 ls []) := by
    clear hz hl
    intro k
    induction k with
    | zero =>
      intro i hi H locs ls hz hl
      have hi : 13 = i := by omega
      subst hi
      refine lv_iload_n hx hb dX4_clear_2 rfl (lv_at hl 0 rfl) ?_
      refine lv_bipush (v := 13) hx hb dX4_clear_3 (by decide) ?_
      refine lv_icmp_ge (tgt := 21) hx hb dX4_clear_5 (by decide) (fun _ => ?_) (fun q => ?_)
      · skip
        have hz := PS.normJ (g := fun _ => 0) hz (fun j hj => if_pos hj)
        refine lv_aload_n hx hb dX4_clear_21 rfl (lv_at hl 1 rfl) ?_
        refine lv_iconst (v := (-1)) hx hb dX4_clear_22 (by decide) ?_
        refine pw_put (C := RX4) (T := TX4) (N := 2) (ci := 3) (ty := .int) (v := .int (-1)) hx hb hts hw0 tyX4 tyX4_ok nmX4 hown hz (by omega) ((va_up_ne _ _ (by omega)).trans hr1) rfl 1 (by decide) hw1 (fun _ h9 => h9) rfl (by decide +kernel) rfl rfl (Nat.le_of_ble_eq_true rfl) dX4_clear_23 (fun H locs hz => ?_)
        have hz : PS D vwCl (tys3 cJ cI cR) b n s (va_up (va_up E (r + 1) (rowA cJ (fun _ => 0))) r (.inr (3, [.ref (r + 1), .int (-1)]))) H locs := hz
        exact pw_vret hx hb hret hlocks hz (rfl) dX4_clear_26
      · skip
        exact absurd (by decide) q
    | succ k ih =>
      intro i hi H locs ls hz hl
      have hlt : i < 13 := by omega
      refine lv_iload_n hx hb dX4_clear_2 rfl (lv_at hl 0 rfl) ?_
      refine lv_bipush (v := 13) hx hb dX4_clear_3 (by decide) ?_
      refine lv_icmp_ge (tgt := 21) hx hb dX4_clear_5 (by decide) (fun q => ?_) (fun _ => ?_)
      · skip
        exact absurd q (nI_ge (b := 13) hlt (by decide))
      · skip
        refine lv_aload_n hx hb dX4_clear_8 rfl (lv_at hl 1 rfl) ?_
        refine pw_get (C := RX4) (T := TX4) (N := 2) (ci := 3) (v := .ref (r + 1)) hx hb hts hw0 hown hz (by omega) ((va_up_ne _ _ (by omega)).trans hr1) rfl 0 (by decide) hw2 (fun _ h9 => h9) rfl dX4_clear_9 ?_
        refine lv_iload_n hx hb dX4_clear_12 rfl (lv_at hl 0 rfl) ?_
        refine lv_lconst (v := 0) hx hb dX4_clear_13 (by decide) ?_
        refine pw_last hx hb hz (by omega) (va_up_self _ _ _) 0 rfl (vp_in_nI hlt (by decide)) dX4_clear_14 (fun H locs hz => ?_)
        have hz : PS D vwCl (tys3 cJ cI cR) b n s (va_up (va_up E (r + 1) (rowA cJ (fun j => if j < i then 0 else f j))) (r + 1) (.inl (cJ, 13, .inr (.inl (vp_updL (fun j => if j < i then 0 else f j) (Int32.toNatClampNeg (nI i)) 0))))) H locs := hz
        have e1 : (vp_updL (fun j => if j < i then 0 else f j) (Int32.toNatClampNeg (nI i)) 0) = (fun j => if j < i + 1 then 0 else f j) := by rw [nI_clamp (by omega)]; exact updI (fun _ => 0) f i
        rw [e1, bx_uu] at hz
        refine lv_iinc (v := (nI (i + 1))) (lv' := [(1, .int (nI (i + 1))), (0, .ref r)]) hx hb dX4_clear_15 hl (k := 0) rfl (by exact nI_1 i) (by decide) rfl (fun ls hl => ?_)
        refine lv_goto (tgt := 2) hx hb dX4_clear_18 (by decide) ?_
        exact ih (i + 1) (by omega) H locs ls hz hl
  exact loop 13 0 rfl _ _ ls hz hl

set_option maxHeartbeats 400000 in
set_option maxRecDepth 100000 in
/-- become(other) -/
theorem c_Row_become (l : Launch) (D : va_G) (cJ cI cR : ClassId) (b n : Nat) (E : Nat → va_E) (sz : Nat) (r : Nat) (f : Nat → Int64) (t : Int32) (hr : b ≤ r ∧ r + 1 < b + n) (hr1 : E r = rowO r t) (hr2 : E (r + 1) = rowA cJ f) (u : Nat) (f2 : Nat → Int64) (t2 : Int32) (hu : b ≤ u ∧ u + 1 < b + n) (hu1 : E u = rowO u t2) (hu2 : E (u + 1) = rowA cJ f2) (hne : r + 1 < u ∨ u + 1 < r) : Met l yX4_become wsX4_become { frames := 1, cells := 0, slots := 0, locals := 40 } (cP D vwCl (tys3 cJ cI cR) b n E sz [.ref r, .ref u]) (cQv D vwCl (tys3 cJ cI cR) b n (fun E' => E' = va_up (va_up E (r + 1) (rowA cJ f2)) r (rowO r t2))) 0 0 (PA b) := by
  refine Met.ofW (cc := cX4_become) (maxL := 2) (ret := none) (by decide) rfl ?_
  intro p e s m args below meth c s₁ B hml hv
  obtain ⟨rfl, hsz, hB⟩ := hv
  have hx := B.exec
  have hb := B.bytes
  have hret := B.returns
  have hts := atoms_spec (ws := wsX4_become) B.pre
  have hown : s.vm.findClass RX4 = some m.cls := findClass_of_methodNamed B.named
  have hlocks := B.notSynchronized
  subst hsz
  have hz := PS.start hB
  have hl := lv_entry ([.ref r, .ref u]) (n := 2) (Nat.le_of_ble_eq_true rfl)
  rw [lg_entry_eq]
  generalize (lg_sl ([.ref r, .ref u]) ++ List.replicate (2 - (lg_sl ([.ref r, .ref u])).length) Slot.unset).toArray = ls at hl ⊢
  have hl : lv_has ls 2 [(0, .ref r), (1, .ref u)] := hl
  have hw0 : ∀ w ∈ u_ws RX4 TX4 2, w ∈ wsX4_become := by decide +kernel
  have hw1 := hts (.fieldLink RX4 9 "GaloisDesk$Row" "c" "[J") (by decide +kernel)
  have hw2 := hts (.methodLink RX4 19 arraycopyName) (by decide +kernel)
  have hw3 := hts (.native arraycopyName) (by decide +kernel)
  have hw4 := hts (.static arraycopyName) (by decide +kernel)
  have hw5 := hts (.initialized "java/lang/System") (by decide +kernel)
  have hw6 := hts (.fieldLink RX4 15 "GaloisDesk$Row" "top" "I") (by decide +kernel)
  refine lv_aload_n hx hb dX4_become_0 rfl (lv_at hl 1 rfl) ?_
  refine pw_get (C := RX4) (T := TX4) (N := 2) (ci := 3) (v := .ref (u + 1)) hx hb hts hw0 hown hz (by omega) hu1 rfl 0 (by decide) hw1 (fun _ h9 => h9) rfl dX4_become_1 ?_
  refine lv_iconst (v := 0) hx hb dX4_become_4 (by decide) ?_
  refine lv_aload_n hx hb dX4_become_5 rfl (lv_at hl 0 rfl) ?_
  refine pw_get (C := RX4) (T := TX4) (N := 2) (ci := 3) (v := .ref (r + 1)) hx hb hts hw0 hown hz (by omega) hr1 rfl 0 (by decide) hw1 (fun _ h9 => h9) rfl dX4_become_6 ?_
  refine lv_iconst (v := 0) hx hb dX4_become_9 (by decide) ?_
  refine lv_bipush (v := 13) hx hb dX4_become_10 (by decide) ?_
  refine pw_copyl hx hb (by rw [hml]; exact hl.1.symm) hown hw2 hw3 hw4 hw5 hz (by omega) (by omega) hu2 hr2 0 0 rfl rfl (by decide +kernel) (by decide +kernel) (by decide +kernel) (by decide +kernel) (by decide +kernel) (Nat.le_of_ble_eq_true rfl) (Nat.le_of_ble_eq_true rfl) dX4_become_12 (fun H locs hz => ?_)
  have hz := PS.normJ (g := f2) hz (fun j hj => by rw [cl_0, cl_13]; exact (pk_cpy_in (sp := 0) (dp := 0) (n := 13) (Nat.zero_le _) (by omega)).trans (congrArg f2 (by omega)))
  refine lv_aload_n hx hb dX4_become_15 rfl (lv_at hl 0 rfl) ?_
  refine lv_aload_n hx hb dX4_become_16 rfl (lv_at hl 1 rfl) ?_
  refine pw_get (C := RX4) (T := TX4) (N := 2) (ci := 3) (v := .int t2) hx hb hts hw0 hown hz (by omega) ((va_up_ne _ _ (by omega)).trans hu1) rfl 1 (by decide) hw6 (fun _ h9 => h9) rfl dX4_become_17 ?_
  refine pw_put (C := RX4) (T := TX4) (N := 2) (ci := 3) (ty := .int) (v := .int t2) hx hb hts hw0 tyX4 tyX4_ok nmX4 hown hz (by omega) ((va_up_ne _ _ (by omega)).trans hr1) rfl 1 (by decide) hw6 (fun _ h9 => h9) rfl (by decide +kernel) rfl rfl (Nat.le_of_ble_eq_true rfl) dX4_become_20 (fun H locs hz => ?_)
  have hz : PS D vwCl (tys3 cJ cI cR) b n s (va_up (va_up E (r + 1) (rowA cJ f2)) r (.inr (3, [.ref (r + 1), .int t2]))) H locs := hz
  exact pw_vret hx hb hret hlocks hz (rfl) dX4_become_23

def atR (f : Nat → Int64) (k : Int32) : Int64 := if k < 0 ∨ ¬ k < 13 then 0 else f k.toNatClampNeg
theorem atR_in {k : Int32} (h1 : ¬ k < 0) (h2 : k < 13) : vp_in k 13 := by
  obtain ⟨j, hj, rfl⟩ := nI_of h1
  exact vp_in_nI ((nI_ltI hj (by decide)).mp h2) (by decide)

set_option maxHeartbeats 400000 in
set_option maxRecDepth 100000 in
/-- at(k) -/
theorem c_Row_at (l : Launch) (D : va_G) (cJ cI cR : ClassId) (b n : Nat) (E : Nat → va_E) (sz : Nat) (r : Nat) (f : Nat → Int64) (t : Int32) (hr : b ≤ r ∧ r + 1 < b + n) (hr1 : E r = rowO r t) (hr2 : E (r + 1) = rowA cJ f) (k : Int32) : Met l yX4_at wsX4_at { frames := 0, cells := 0, slots := 0, locals := 0 } (cP D vwCl (tys3 cJ cI cR) b n E sz [.ref r, .int k]) (cQl D vwCl (tys3 cJ cI cR) b n (fun v E' => v = atR f k ∧ E' = E)) 0 0 (PA b) := by
  refine Met.ofW (cc := cX4_at) (maxL := 2) (ret := (some .long)) (by decide) rfl ?_
  intro p e s m args below meth c s₁ B hml hv
  obtain ⟨rfl, hsz, hB⟩ := hv
  have hx := B.exec
  have hb := B.bytes
  have hret := B.returns
  have hts := atoms_spec (ws := wsX4_at) B.pre
  have hown : s.vm.findClass RX4 = some m.cls := findClass_of_methodNamed B.named
  have hlocks := B.notSynchronized
  subst hsz
  have hz := PS.start hB
  have hl := lv_entry ([.ref r, .int k]) (n := 2) (Nat.le_of_ble_eq_true rfl)
  rw [lg_entry_eq]
  generalize (lg_sl ([.ref r, .int k]) ++ List.replicate (2 - (lg_sl ([.ref r, .int k])).length) Slot.unset).toArray = ls at hl ⊢
  have hl : lv_has ls 2 [(0, .ref r), (1, .int k)] := hl
  have hw0 : ∀ w ∈ u_ws RX4 TX4 2, w ∈ wsX4_at := by decide +kernel
  have hw1 := hts (.fieldLink RX4 9 "GaloisDesk$Row" "c" "[J") (by decide +kernel)
  refine lv_iload_n hx hb dX4_at_0 rfl (lv_at hl 1 rfl) ?_
  refine lv_if_lt (tgt := 10) hx hb dX4_at_1 (by decide) (fun q1 => ?_) (fun q1 => ?_)
  · skip
    refine lv_lconst (v := 0) hx hb dX4_at_10 (by decide) ?_
    refine lv_goto (tgt := 20) hx hb dX4_at_11 (by decide) ?_
    exact pw_lret hx hb hret hlocks hz ⟨by rw [atR, if_pos (Or.inl q1)], rfl⟩ dX4_at_20
  · skip
    refine lv_iload_n hx hb dX4_at_4 rfl (lv_at hl 1 rfl) ?_
    refine lv_bipush (v := 13) hx hb dX4_at_5 (by decide) ?_
    refine lv_icmp_lt (tgt := 14) hx hb dX4_at_7 (by decide) (fun q2 => ?_) (fun q2 => ?_)
    · skip
      refine lv_aload_n hx hb dX4_at_14 rfl (lv_at hl 0 rfl) ?_
      refine pw_get (C := RX4) (T := TX4) (N := 2) (ci := 3) (v := .ref (r + 1)) hx hb hts hw0 hown hz (by omega) hr1 rfl 0 (by decide) hw1 (fun _ h9 => h9) rfl dX4_at_15 ?_
      refine lv_iload_n hx hb dX4_at_18 rfl (lv_at hl 1 rfl) ?_
      have hin : vp_in k 13 := atR_in q1 q2
      refine pw_lald hx hb hz (by omega) hr2 0 rfl (hin) dX4_at_19 ?_
      exact pw_lret hx hb hret hlocks hz ⟨by rw [atR, if_neg (fun h => h.elim q1 (fun h => h q2))], rfl⟩ dX4_at_20
    · skip
      refine lv_lconst (v := 0) hx hb dX4_at_10 (by decide) ?_
      refine lv_goto (tgt := 20) hx hb dX4_at_11 (by decide) ?_
      exact pw_lret hx hb hret hlocks hz ⟨by rw [atR, if_pos (Or.inr q2)], rfl⟩ dX4_at_20

set_option maxHeartbeats 400000 in
set_option maxRecDepth 100000 in
/-- lead() -/
theorem c_Row_lead (l : Launch) (D : va_G) (cJ cI cR : ClassId) (b n : Nat) (E : Nat → va_E) (sz : Nat) (r : Nat) (f : Nat → Int64) (t : Int32) (hr : b ≤ r ∧ r + 1 < b + n) (hr1 : E r = rowO r t) (hr2 : E (r + 1) = rowA cJ f) : Met l yX4_lead wsX4_lead { frames := 1, cells := 0, slots := 0, locals := 21 } (cP D vwCl (tys3 cJ cI cR) b n E sz [.ref r]) (cQl D vwCl (tys3 cJ cI cR) b n (fun v E' => v = atR f t ∧ E' = E)) 0 0 (PA b) := by
  refine Met.ofW (cc := cX4_lead) (maxL := 1) (ret := (some .long)) (by decide) rfl ?_
  intro p e s m args below meth c s₁ B hml hv
  obtain ⟨rfl, hsz, hB⟩ := hv
  have hx := B.exec
  have hb := B.bytes
  have hret := B.returns
  have hts := atoms_spec (ws := wsX4_lead) B.pre
  have hown : s.vm.findClass RX4 = some m.cls := findClass_of_methodNamed B.named
  have hlocks := B.notSynchronized
  subst hsz
  have hz := PS.start hB
  have hl := lv_entry ([.ref r]) (n := 1) (Nat.le_of_ble_eq_true rfl)
  rw [lg_entry_eq]
  generalize (lg_sl ([.ref r]) ++ List.replicate (1 - (lg_sl ([.ref r])).length) Slot.unset).toArray = ls at hl ⊢
  have hl : lv_has ls 1 [(0, .ref r)] := hl
  have hw0 : ∀ w ∈ u_ws RX4 TX4 2, w ∈ wsX4_lead := by decide +kernel
  have hw1 := hts (.fieldLink RX4 15 "GaloisDesk$Row" "top" "I") (by decide +kernel)
  refine lv_aload_n hx hb dX4_lead_0 rfl (lv_at hl 0 rfl) ?_
  refine lv_aload_n hx hb dX4_lead_1 rfl (lv_at hl 0 rfl) ?_
  refine pw_get (C := RX4) (T := TX4) (N := 2) (ci := 3) (v := .int t) hx hb hts hw0 hown hz (by omega) hr1 rfl 1 (by decide) hw1 (fun _ h9 => h9) rfl dX4_lead_2 ?_
  refine pw_calll hz (va_runV (As := [.int t]) (rest := []) ⟨hx, hb, hml, hown, hts⟩ (c_Row_at l D cJ cI cR b n _ _ r f t hr hr1 hr2 t) (cwV 1 hts gX4_lead_X4_at rfl rfl rfl (by decide +kernel) ⟨Nat.le_of_ble_eq_true rfl, Nat.le_of_ble_eq_true rfl⟩) (hz.preV (by omega) hr1 rfl) rfl rfl hl.1 rfl (lv_room (Nat.le_of_ble_eq_true rfl)) dX4_lead_5 ⟨Nat.le_of_ble_eq_true rfl, Nat.le_of_ble_eq_true rfl⟩) (fun r_1 Ev H locs hp hz => ?_)
  obtain ⟨hr_1, hp⟩ := hp
  subst hr_1
  rw [hp] at hz
  exact pw_lret hx hb hret hlocks hz ⟨rfl, rfl⟩ dX4_lead_8

set_option maxHeartbeats 400000 in
set_option maxRecDepth 100000 in
/-- isWithin of a row with no place -/
theorem c_Row_isWithin_0 (l : Launch) (D : va_G) (cJ cI cR : ClassId) (b n : Nat) (E : Nat → va_E) (sz : Nat) (r : Nat) (f : Nat → Int64) (x : Int64) (hr : b ≤ r ∧ r + 1 < b + n) (hr1 : E r = rowO r (-1)) (hr2 : E (r + 1) = rowA cJ f) : Met l yX4_isWithin wsX4_isWithin { frames := 0, cells := 0, slots := 0, locals := 0 } (cP D vwCl (tys3 cJ cI cR) b n E sz [.ref r, .long x]) (cQi D vwCl (tys3 cJ cI cR) b n (fun v E' => v = 1 ∧ E' = E)) 0 0 (PA b) := by
  refine Met.ofW (cc := cX4_isWithin) (maxL := 4) (ret := (some .boolean)) (by decide) rfl ?_
  intro p e s m args below meth c s₁ B hml hv
  obtain ⟨rfl, hsz, hB⟩ := hv
  have hx := B.exec
  have hb := B.bytes
  have hret := B.returns
  have hts := atoms_spec (ws := wsX4_isWithin) B.pre
  have hown : s.vm.findClass RX4 = some m.cls := findClass_of_methodNamed B.named
  have hlocks := B.notSynchronized
  subst hsz
  have hz := PS.start hB
  have hl := lv_entry ([.ref r, .long x]) (n := 4) (Nat.le_of_ble_eq_true rfl)
  rw [lg_entry_eq]
  generalize (lg_sl ([.ref r, .long x]) ++ List.replicate (4 - (lg_sl ([.ref r, .long x])).length) Slot.unset).toArray = ls at hl ⊢
  have hl : lv_has ls 4 [(0, .ref r), (1, .long x)] := hl
  have hw0 : ∀ w ∈ u_ws RX4 TX4 2, w ∈ wsX4_isWithin := by decide +kernel
  have hw1 := hts (.fieldLink RX4 15 "GaloisDesk$Row" "top" "I") (by decide +kernel)
  refine lv_iconst (v := 0) hx hb dX4_isWithin_0 (by decide) ?_
  refine lv_istore_n (lv' := [(3, .int 0), (0, .ref r), (1, .long x)]) hx hb dX4_isWithin_1 rfl hl (by decide) rfl (fun ls hl => ?_)
  refine lv_iload_n hx hb dX4_isWithin_2 rfl (lv_at hl 0 rfl) ?_
  refine lv_aload_n hx hb dX4_isWithin_3 rfl (lv_at hl 1 rfl) ?_
  refine pw_get (C := RX4) (T := TX4) (N := 2) (ci := 3) (v := .int (-1)) hx hb hts hw0 hown hz (by omega) hr1 rfl 1 (by decide) hw1 (fun _ h9 => h9) rfl dX4_isWithin_4 ?_
  refine lv_icmp_gt (tgt := 41) hx hb dX4_isWithin_7 (by decide) (fun _ => ?_) (fun q => ?_)
  · skip
    refine lv_iconst (v := 1) hx hb dX4_isWithin_41 (by decide) ?_
    exact pw_zret hx hb hret hlocks (Or.inr rfl) hz ⟨rfl, rfl⟩ dX4_isWithin_42
  · skip
    exact absurd (by decide) q
