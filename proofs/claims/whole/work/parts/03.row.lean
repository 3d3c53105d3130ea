/-! THE CLASS Row: its methods over any pool that holds the row. A row stands at r, its array at r + 1. -/
abbrev tys3 (cJ cI cR : ClassId) : List (ClassId × FieldType) := [(cJ, .long), (cI, .int), (cR, .object RX4)]
abbrev rowO (r : Nat) (t : Int32) : va_E := .inr (3, [.ref (r + 1), .int t])
abbrev rowA (cJ : ClassId) (f : Nat → Int64) : va_E := .inl (cJ, 13, .inr (.inl f))
/-- the highest place below k that isn't 0, as Java's int; -1 where there is none -/
def dg (f : Nat → Int64) : Nat → Int32
  | 0 => -1
  | k + 1 => if f k = 0 then dg f k else nI k

set_option maxHeartbeats 4000000 in
set_option maxRecDepth 100000 in
/-- settle(): top is the place of the highest that is not 0 -/
theorem c_Row_settle (l : Launch) (D : va_G) (cJ cI cR : ClassId) (b n : Nat) (E : Nat → va_E) (sz : Nat) (r : Nat) (f : Nat → Int64) (t : Int32) (hr : b ≤ r ∧ r + 1 < b + n) (h1 : E r = rowO r t) (h2 : E (r + 1) = rowA cJ f) : Met l yX4_settle wsX4_settle { frames := 0, cells := 0, slots := 0, locals := 0 } (cP D vwCl (tys3 cJ cI cR) b n E sz [.ref r]) (cQv D vwCl (tys3 cJ cI cR) b n (fun E' => E' = va_up E r (rowO r (dg f 13)))) 0 0 (PA b) := by
  refine Met.ofW (cc := cX4_settle) (maxL := 2) (ret := none) (by decide) rfl ?_
  intro p e s m args below meth c s₁ B hml hv
  obtain ⟨rfl, hsz, hB⟩ := hv
  have hx := B.exec
  have hb := B.bytes
  have hret := B.returns
  have hts := atoms_spec (ws := wsX4_settle) B.pre
  have hown : s.vm.findClass RX4 = some m.cls := findClass_of_methodNamed B.named
  have hlocks := B.notSynchronized
  subst hsz
  have hz := PS.start hB
  have hl := lv_entry ([.ref r]) (n := 2) (Nat.le_of_ble_eq_true rfl)
  rw [lg_entry_eq]
  generalize (lg_sl ([.ref r]) ++ List.replicate (2 - (lg_sl ([.ref r])).length) Slot.unset).toArray = ls at hl ⊢
  have hl : lv_has ls 2 [(0, .ref r)] := hl
  have hw0 : ∀ w ∈ u_ws RX4 TX4 2, w ∈ wsX4_settle := by decide +kernel
  have hw1 := hts (.fieldLink RX4 15 "GaloisDesk$Row" "top" "I") (by decide +kernel)
  have hw2 := hts (.fieldLink RX4 9 "GaloisDesk$Row" "c" "[J") (by decide +kernel)
  refine lv_aload_n hx hb dX4_settle_0 rfl (lv_at hl 0 rfl) ?_
  refine lv_iconst (v := (-1)) hx hb dX4_settle_1 (by decide) ?_
  refine pw_put (C := RX4) (T := TX4) (N := 2) (ci := 3) (ty := .int) (v := .int (-1)) hx hb hts hw0 tyX4 tyX4_ok nmX4 hown hz (by omega) h1 rfl 1 (by decide) hw1 (fun _ h9 => h9) rfl (by decide +kernel) rfl rfl (Nat.le_of_ble_eq_true rfl) dX4_settle_2 (fun H locs hz => ?_)
  have hz : PS D vwCl (tys3 cJ cI cR) b n s (va_up E r (.inr (3, [.ref (r + 1), .int (-1)]))) H locs := hz
  refine lv_iconst (v := 0) hx hb dX4_settle_5 (by decide) ?_
  refine lv_istore_n (lv' := [(1, .int 0), (0, .ref r)]) hx hb dX4_settle_6 rfl hl (by decide) rfl (fun ls hl => ?_)
  have loop : ∀ (k i : Nat), i + k = 13 → ∀ (H : Heap) (locs : List Loc) (ls : Array Slot), PS D vwCl (tys3 cJ cI cR) b n s (va_up E r (rowO r (dg f i))) H locs → lv_has ls 2 [(1, .int (nI i)), (0, .ref r)] → W p l e (headSpec wsX4_settle { frames := 0, cells := 0, slots := 0, locals := 0 }).room s m ([.ref r] : List Value).toArray below meth c H locs 0 0 (MQ below (cQv D vwCl (tys3 cJ cI cR) b n (fun E' => E' = va_up E r (rowO r (dg f 13)))) ([.ref r] : List Value).toArray s 0 0 (PA b)) (F0 m 7 ls []) := by
    intro k
    induction k with
    | zero =>
      intro i hi H locs ls hz hl
      have hi : i = 13 := by omega
      subst hi
      refine lv_iload_n hx hb dX4_settle_7 rfl (lv_at hl 0 rfl) ?_
      refine lv_bipush (v := 13) hx hb dX4_settle_8 (by decide) ?_
      refine lv_icmp_ge (tgt := 35) hx hb dX4_settle_10 (by decide) (fun _ => ?_) (fun q => ?_)
      · skip
        exact pw_vret hx hb hret hlocks hz rfl dX4_settle_35
      · skip
        exact absurd (by decide) q
    | succ k ih =>
      intro i hi H locs ls hz hl
      have hlt : i < 13 := by omega
      refine lv_iload_n hx hb dX4_settle_7 rfl (lv_at hl 0 rfl) ?_
      refine lv_bipush (v := 13) hx hb dX4_settle_8 (by decide) ?_
      refine lv_icmp_ge (tgt := 35) hx hb dX4_settle_10 (by decide) (fun q => ?_) (fun _ => ?_)
      · skip
        exact absurd q (nI_ge (b := 13) hlt (by decide))
      · skip
        refine lv_aload_n hx hb dX4_settle_13 rfl (lv_at hl 1 rfl) ?_
        refine pw_get (C := RX4) (T := TX4) (N := 2) (ci := 3) (v := .ref (r + 1)) hx hb hts hw0 hown hz (by omega) (va_up_self _ _ _) rfl 0 (by decide) hw2 (fun _ h9 => h9) rfl dX4_settle_14 ?_
        refine lv_iload_n hx hb dX4_settle_17 rfl (lv_at hl 0 rfl) ?_
        refine pw_lald hx hb hz (by omega) ((va_up_ne _ _ (by omega)).trans h2) 0 rfl (vp_in_nI hlt (by decide)) dX4_settle_18 ?_
        rw [show f (Int32.toNatClampNeg (nI i)) = f i from by rw [nI_clamp (by omega)]]
        refine lv_lconst (v := 0) hx hb dX4_settle_19 (by decide) ?_
        refine W.lcmp hx hb dX4_settle_20 ?_
        refine W.eq (g2 := F0 m 21 ls [.int (lg_cmp (f i) 0)]) rfl ?_
        refine lv_if_eq (tgt := 29) hx hb dX4_settle_21 (by decide) (fun q => ?_) (fun q => ?_)
        · skip
          have e : dg f i = dg f (i + 1) := by simp [dg, (lg_cmp_eq _ _).mp q]
          rw [e] at hz
          refine lv_iinc (v := (nI (i + 1))) (lv' := [(1, .int (nI (i + 1))), (0, .ref r)]) hx hb dX4_settle_29 hl (k := 0) rfl (by exact nI_1 i) (by decide) rfl (fun ls hl => ?_)
          refine lv_goto (tgt := 7) hx hb dX4_settle_32 (by decide) ?_
          exact ih (i + 1) (by omega) H locs ls hz hl
        · skip
          refine lv_aload_n hx hb dX4_settle_24 rfl (lv_at hl 1 rfl) ?_
          refine lv_iload_n hx hb dX4_settle_25 rfl (lv_at hl 0 rfl) ?_
          refine pw_put (C := RX4) (T := TX4) (N := 2) (ci := 3) (ty := .int) (v := .int (nI i)) hx hb hts hw0 tyX4 tyX4_ok nmX4 hown hz (by omega) (va_up_self _ _ _) rfl 1 (by decide) hw1 (fun _ h9 => h9) rfl (by decide +kernel) rfl rfl (Nat.le_of_ble_eq_true rfl) dX4_settle_26 (fun H locs hz => ?_)
          have hz : PS D vwCl (tys3 cJ cI cR) b n s (va_up (va_up E r (rowO r (dg f i))) r (.inr (3, [.ref (r + 1), .int (nI i)]))) H locs := hz
          have e : va_up (va_up E r (rowO r (dg f i))) r (rowO r (nI i)) = va_up E r (rowO r (dg f (i + 1))) := by rw [bx_uu, dg, if_neg (fun h => q ((lg_cmp_eq _ _).mpr h))]
          rw [e] at hz
          refine lv_iinc (v := (nI (i + 1))) (lv' := [(1, .int (nI (i + 1))), (0, .ref r)]) hx hb dX4_settle_29 hl (k := 0) rfl (by exact nI_1 i) (by decide) rfl (fun ls hl => ?_)
          refine lv_goto (tgt := 7) hx hb dX4_settle_32 (by decide) ?_
          exact ih (i + 1) (by omega) H locs ls hz hl
  exact loop 13 0 rfl H locs ls hz hl
