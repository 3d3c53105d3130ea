theorem lu_lt {q b k m n : Nat} (h : q < b + (k + m)) (hm : m ≤ n) : q < b + (k + n) := by omega
theorem lu_ne {q b k m n : Nat} (h : q < b + (k + m)) (hm : m ≤ n) : q ≠ b + (k + n) := by omega
theorem lu_lt0 {q b k n : Nat} (h : q < b + k) : q < b + (k + n) := by omega
theorem lu_ne0 {q b k n : Nat} (h : q < b + k) : q ≠ b + (k + n) := by omega
theorem lc_lt {b k m n : Nat} (h : m < n) : b + (k + m) < b + (k + n) := by omega
theorem lc_ne {b k m n : Nat} (h : m < n) : b + (k + m) ≠ b + (k + n) := by omega
theorem lc_en {b k m n : Nat} (h : n < m) : b + (k + m) ≠ b + (k + n) := by omega
theorem lc_nt {b k m : Nat} (h : 0 < m) : b + (k + m) ≠ b + k := by omega
theorem lt_lt {b k n : Nat} (h : 0 < n) : b + k < b + (k + n) := by omega
theorem lt_ne {b k n : Nat} (h : 0 < n) : b + k ≠ b + (k + n) := by omega
theorem kp_ne {q b k m : Nat} (h : b + (k + m) ≤ q) (hm : 0 < m) : q ≠ b + k := by omega
theorem kp_lt {q b k m s n : Nat} (h : q < b + (k + m) + s) (hn : m + s ≤ n) : q < b + (k + n) := by omega
theorem kp_ltf {q b k m c n : Nat} (h : q < b + (k + m) + 1 + 2 * c) (hn : m + 1 + 2 * c ≤ n) : q < b + (k + n) := by omega
theorem ka_3 (b k j i : Nat) : b + (k + j) + i = b + k + (j + i) := by omega
/-! CONSTRUCTORS. A new object stands at b + k, the pool has k + 1 cells then, and the heap ends there. -/
/-- cnt fresh rows behind their array at a -/
def freshAt (cJ cR : ClassId) (a cnt : Nat) (E : Nat → va_E) : Prop := (∃ g : Nat → Option Nat, E a = .inl (cR, cnt, .inr (.inr (.inr (.inr g)))) ∧ ∀ j, j < cnt → g j = some (a + 1 + 2 * j)) ∧ ∀ j, j < cnt → E (a + 1 + 2 * j) = rowO (a + 1 + 2 * j) (-1) ∧ E (a + 1 + 2 * j + 1) = rowA cJ (fun _ => 0)
theorem freshAt.keep {cJ cR : ClassId} {a cnt : Nat} {E E' : Nat → va_E} (h : freshAt cJ cR a cnt E) (hk : ∀ q, a ≤ q → q < a + 1 + 2 * cnt → E' q = E q) : freshAt cJ cR a cnt E' := by
  obtain ⟨⟨g, h1, h2⟩, h3⟩ := h
  refine ⟨⟨g, by rw [hk a (Nat.le_refl _) (by omega)]; exact h1, h2⟩, fun j hj => ?_⟩
  rw [hk (a + 1 + 2 * j) (by omega) (by omega), hk (a + 1 + 2 * j + 1) (by omega) (by omega)]
  exact h3 j hj

set_option maxHeartbeats 400000 in
set_option maxRecDepth 100000 in
/-- Row(): an array of thirteen zeros; top is -1 -/
theorem c_Row_new (l : Launch) (D : va_G) (cJ cI cR : ClassId) (b : Nat) (E : Nat → va_E) (sz k : Nat) (hsz0 : sz = b + (k + 1)) (hthis : E (b + k) = .inr (3, [.null, .int 0])) : Met l yX4_init wsX4_init { frames := 1, cells := 1, slots := 13, locals := 12 } (cP D vwCl (tys3 cJ cI cR) b (k + 1) E sz [.ref (b + k)]) (cQm D vwCl (tys3 cJ cI cR) b (k + 2) (fun E' => E' (b + k) = rowO (b + k) (-1) ∧ E' (b + k + 1) = rowA cJ (fun _ => 0) ∧ ∀ a, a < b + k → E' a = E a)) 1 13 (PA b) := by
  refine Met.ofW (cc := cX4_init) (maxL := 1) (ret := none) (by decide) rfl ?_
  intro p e s m args below meth c s₁ B hml hv
  obtain ⟨rfl, hsz, hB⟩ := hv
  have hx := B.exec
  have hb := B.bytes
  have hret := B.returns
  have hts := atoms_spec (ws := wsX4_init) B.pre
  have hown : s.vm.findClass RX4 = some m.cls := findClass_of_methodNamed B.named
  have hlocks := B.notSynchronized
  have hin : meth.name = "<init>" := (name_of_methodNamed B.named B.method).1
  subst hsz
  have hz := PS.start hB
  have hl := lv_entry ([.ref (b + k)]) (n := 1) (Nat.le_of_ble_eq_true rfl)
  rw [lg_entry_eq]
  generalize (lg_sl ([.ref (b + k)]) ++ List.replicate (1 - (lg_sl ([.ref (b + k)])).length) Slot.unset).toArray = ls at hl ⊢
  have hl : lv_has ls 1 [(0, .ref (b + k))] := hl
  have hw0 := hts (.methodLink RX4 3 objectInit) (by decide +kernel)
  have hw1 := hts (.instanceMethod objectInit) (by decide +kernel)
  have hw2 := hts (.code objectInit ⟨#[0xb1]⟩ 1 none) (List.mem_of_getElem? (i := 3) rfl)
  have hw3 := hts (.arrayClass .long) (by decide +kernel)
  have hw4 : ∀ w ∈ u_ws RX4 TX4 2, w ∈ wsX4_init := by decide +kernel
  have hw5 := hts (.fieldLink RX4 9 "GaloisDesk$Row" "c" "[J") (by decide +kernel)
  have hw6 := hts (.fieldLink RX4 15 "GaloisDesk$Row" "top" "I") (by decide +kernel)
  have hH : s.heap.size = b + (k + 1) := hsz0
  refine lv_aload_n hx hb dX4_init_0 rfl (lv_at hl 0 rfl) ?_
  refine W.objInit hx hb hown hw0 hw1 hw2 rfl (by rw [hml]; exact hl.1) rfl dX4_init_1 (Nat.le_of_ble_eq_true rfl) (Nat.le_of_ble_eq_true rfl) ?_
  refine W.eq (g2 := F0 m 4 ls []) rfl ?_
  refine lv_aload_n hx hb dX4_init_4 rfl (lv_at hl 0 rfl) ?_
  refine lv_bipush (v := 13) hx hb dX4_init_5 (by decide) ?_
  refine pw_newa (atype := .long) (ty := .long) (N' := 13) (a0 := (13, .inr (.inl (fun _ => 0)))) hx hb hw3 rfl hz hH 0 rfl (fun _ h => by cases h) (fun cA => by rw [vp_cell_l]; rfl) (by decide +kernel) (by decide +kernel) (by show 13 * 8 ≤ 536870912; omega) (Nat.le_of_ble_eq_true rfl) (Nat.le_of_ble_eq_true rfl) dX4_init_7 (fun H hz hH => ?_)
  have hH : H.size = b + (k + 2) := hH
  obtain ⟨E1, hE1⟩ : ∃ X, X = va_up E (b + (k + 1)) (.inl (cJ, 13, .inr (.inl (fun _ => 0)))) := ⟨_, rfl⟩
  have hz : PS D vwCl (tys3 cJ cI cR) b (k + 2) s E1 H [] := by rw [hE1]; exact hz
  have q1 : ∀ a : Nat, a ≠ (b + (k + 1)) → E1 a = E a := fun a h => by rw [hE1]; exact va_up_ne _ _ h
  have p1 : E1 (b + (k + 1)) = .inl (cJ, 13, .inr (.inl (fun _ => 0))) := by rw [hE1]; exact va_up_self _ _ _
  refine pw_putFS (C := RX4) (T := TX4) (N := 2) (ci := 3) (ty := .array .long) (v := .ref (b + (k + 1))) hx hb hts hw4 tyX4 tyX4_ok nmX4 hown hz hH (by omega) ((q1 _ (lt_ne (Nat.le_of_ble_eq_true rfl))).trans hthis) rfl 0 (by decide) hw5 (fun _ h9 => h9) rfl hin rfl (by decide +kernel) rfl rfl (Nat.le_of_ble_eq_true rfl) dX4_init_9 (fun H locs hz hH => ?_)
  obtain ⟨E2, hE2⟩ : ∃ X, X = va_up E1 (b + k) (.inr (3, [.ref (b + (k + 1)), .int 0])) := ⟨_, rfl⟩
  have hz : PS D vwCl (tys3 cJ cI cR) b (k + 2) s E2 H locs := by rw [hE2]; exact hz
  have q2 : ∀ a : Nat, a ≠ (b + k) → E2 a = E1 a := fun a h => by rw [hE2]; exact va_up_ne _ _ h
  have p2 : E2 (b + k) = .inr (3, [.ref (b + (k + 1)), .int 0]) := by rw [hE2]; exact va_up_self _ _ _
  refine lv_aload_n hx hb dX4_init_12 rfl (lv_at hl 0 rfl) ?_
  refine lv_iconst (v := (-1)) hx hb dX4_init_13 (by decide) ?_
  refine pw_putS (C := RX4) (T := TX4) (N := 2) (ci := 3) (ty := .int) (v := .int (-1)) hx hb hts hw4 tyX4 tyX4_ok nmX4 hown hz hH (by omega) p2 rfl 1 (by decide) hw6 (fun _ h9 => h9) rfl (by decide +kernel) rfl rfl (Nat.le_of_ble_eq_true rfl) dX4_init_14 (fun H locs hz hH => ?_)
  obtain ⟨E3, hE3⟩ : ∃ X, X = va_up E2 (b + k) (.inr (3, [.ref (b + (k + 1)), .int (-1)])) := ⟨_, rfl⟩
  have hz : PS D vwCl (tys3 cJ cI cR) b (k + 2) s E3 H locs := by rw [hE3]; exact hz
  have q3 : ∀ a : Nat, a ≠ (b + k) → E3 a = E2 a := fun a h => by rw [hE3]; exact va_up_ne _ _ h
  have p3 : E3 (b + k) = .inr (3, [.ref (b + (k + 1)), .int (-1)]) := by rw [hE3]; exact va_up_self _ _ _
  exact pw_mret hx hb hret hlocks hz hH (⟨p3, ((q3 _ (lc_nt (Nat.le_of_ble_eq_true rfl))).trans ((q2 _ (lc_nt (Nat.le_of_ble_eq_true rfl))).trans p1)), fun a h => ((q3 a (Nat.ne_of_lt h)).trans ((q2 a (Nat.ne_of_lt h)).trans (q1 a (lu_ne0 h))))⟩) dX4_init_17

set_option maxHeartbeats 400000 in
set_option maxRecDepth 100000 in
/-- freshRows(count) -/
theorem c_freshRows (l : Launch) (D : va_G) (cJ cI cR : ClassId) (b : Nat) (E : Nat → va_E) (sz k : Nat) (cnt : Nat) (hcnt : cnt ≤ 8) (hsz0 : sz = b + k) : Met l yX6_freshRows wsX6_freshRows { frames := 2, cells := 1 + 2 * cnt, slots := cnt + 15 * cnt, locals := 32 } (cP D vwCl (tys3 cJ cI cR) b k E sz [.int (nI cnt)]) (cQr D vwCl (tys3 cJ cI cR) b (k + (1 + 2 * cnt)) (fun ra E' => ra = b + k ∧ freshAt cJ cR (b + k) cnt E' ∧ ∀ a, a < b + k → E' a = E a)) (1 + 2 * cnt) (cnt + 15 * cnt) (PA b) := by
  refine Met.ofW (cc := cX6_freshRows) (maxL := 3) (ret := (some (.array (.object "GaloisDesk$Row")))) (by decide) rfl ?_
  intro p e s m args below meth c s₁ B hml hv
  obtain ⟨rfl, hsz, hB⟩ := hv
  have hx := B.exec
  have hb := B.bytes
  have hret := B.returns
  have hts := atoms_spec (ws := wsX6_freshRows) B.pre
  have hown : s.vm.findClass RX6 = some m.cls := findClass_of_methodNamed B.named
  have hlocks := B.notSynchronized
  subst hsz
  have hz := PS.start hB
  have hl := lv_entry ([.int (nI cnt)]) (n := 3) (Nat.le_of_ble_eq_true rfl)
  rw [lg_entry_eq]
  generalize (lg_sl ([.int (nI cnt)]) ++ List.replicate (3 - (lg_sl ([.int (nI cnt)])).length) Slot.unset).toArray = ls at hl ⊢
  have hl : lv_has ls 3 [(0, .int (nI cnt))] := hl
  have hw0 := hts (.classLink RX6 17 RX4) (by decide +kernel)
  have hw1 : ∀ w ∈ u_ws RX4 TX4 2, w ∈ wsX6_freshRows := by decide +kernel
  have hw2 := hts (.instantiable RX4 2) (by decide +kernel)
  have hw3 := hts (.initialized RX4) (by decide +kernel)
  have hw4 := hts (.instanceMethod yX4_init) (by decide +kernel)
  have hH : s.heap.size = b + k := hsz0
  refine lv_iload_n hx hb dX6_freshRows_0 rfl (lv_at hl 0 rfl) ?_
  refine pw_newq (C := RX4) (N' := cnt) hx hb hown hw0 hz.2.2.2.2.1 hz hH 2 rfl (nI_pos (by omega)) (nI_clamp (by omega)) (by omega) (by show 0 + 1 ≤ 1 + 2 * cnt; omega) (by show 0 + cnt ≤ cnt + 15 * cnt; omega) dX6_freshRows_1 (fun H hz hH => ?_)
  refine lv_astore_n (lv' := [(1, .ref (b + k)), (0, .int (nI cnt))]) hx hb dX6_freshRows_4 rfl hl (by decide) rfl (fun ls hl => ?_)
  refine lv_iconst (v := 0) hx hb dX6_freshRows_5 (by decide) ?_
  refine lv_istore_n (lv' := [(2, .int 0), (1, .ref (b + k)), (0, .int (nI cnt))]) hx hb dX6_freshRows_6 rfl hl (by decide) rfl (fun ls hl => ?_)
  have loop : ∀ (j i : Nat), i + j = cnt → ∀ (E2 : Nat → va_E) (H : Heap) (locs : List Loc) (ls : Array Slot), PS D vwCl (tys3 cJ cI cR) b (k + (1 + 2 * i)) s E2 H locs → H.size = b + (k + (1 + 2 * i)) → (∀ a, a < b + k → E2 a = E a) → (∃ g : Nat → Option Nat, E2 (b + k) = .inl (cR, cnt, .inr (.inr (.inr (.inr g)))) ∧ ∀ j, j < i → g j = some (b + k + 1 + 2 * j)) → (∀ j, j < i → E2 (b + k + 1 + 2 * j) = rowO (b + k + 1 + 2 * j) (-1) ∧ E2 (b + k + 1 + 2 * j + 1) = rowA cJ (fun _ => 0)) → lv_has ls 3 [(2, .int (nI i)), (1, .ref (b + k)), (0, .int (nI cnt))] → W p l e (headSpec wsX6_freshRows { frames := 2, cells := 1 + 2 * cnt, slots := cnt + 15 * cnt, locals := 32 }).room s m ([.int (nI cnt)] : List Value).toArray below meth c H locs (1 + 2 * i) (cnt + 15 * i) (MQ below (cQr D vwCl (tys3 cJ cI cR) b (k + (1 + 2 * cnt)) (fun ra E' => ra = b + k ∧ freshAt cJ cR (b + k) cnt E' ∧ ∀ a, a < b + k → E' a = E a)) ([.int (nI cnt)] : List Value).toArray s (1 + 2 * cnt) (cnt + 15 * cnt) (PA b)) (F0 m 7 ls []) := by
    intro j
    induction j with
    | zero =>
      intro i hi E2 H locs ls hz hH f1 f2 f3 hl
      have hi : cnt = i := by omega
      subst hi
      refine lv_iload_n hx hb dX6_freshRows_7 rfl (lv_at hl 0 rfl) ?_
      refine lv_iload_n hx hb dX6_freshRows_8 rfl (lv_at hl 2 rfl) ?_
      refine lv_icmp_ge (tgt := 28) hx hb dX6_freshRows_9 (by decide) (fun _ => ?_) (fun q => ?_)
      · skip
        refine lv_aload_n hx hb dX6_freshRows_28 rfl (lv_at hl 1 rfl) ?_
        exact pw_aret hx hb hret (Or.inr ⟨_, rfl⟩) hlocks hz hH ⟨rfl, ⟨f2, f3⟩, f1⟩ dX6_freshRows_29
      · skip
        exact absurd (nI_le (Nat.le_refl _) (by omega)) q
    | succ j ih =>
      intro i hi E2 H locs ls hz hH f1 f2 f3 hl
      have hlt : i < cnt := by omega
      obtain ⟨g, f2, f4⟩ := f2
      refine lv_iload_n hx hb dX6_freshRows_7 rfl (lv_at hl 0 rfl) ?_
      refine lv_iload_n hx hb dX6_freshRows_8 rfl (lv_at hl 2 rfl) ?_
      refine lv_icmp_ge (tgt := 28) hx hb dX6_freshRows_9 (by decide) (fun q => ?_) (fun _ => ?_)
      · skip
        exact absurd q (nI_ge hlt (by omega))
      · skip
        refine lv_aload_n hx hb dX6_freshRows_12 rfl (lv_at hl 1 rfl) ?_
        refine lv_iload_n hx hb dX6_freshRows_13 rfl (lv_at hl 0 rfl) ?_
        refine pw_new (ci := 3) (fs := [.null, .int 0]) (C := RX4) (T := TX4) (N := 2) hx hb hts hw1 tyX4 tyX4_ok hown hw0 hw2 hw3 hz hH rfl (fun j hj => by rcases (show j = 0 ∨ j = 1 by omega) with rfl | rfl <;> rfl) (by show 1 + 2 * i + 1 ≤ 1 + 2 * cnt; omega) (by show cnt + 15 * i + 2 ≤ cnt + 15 * cnt; omega) dX6_freshRows_14 (fun H hz hH => ?_)
        refine lv_dup hx hb dX6_freshRows_17 rfl ?_
        refine pw_callm hz (va_runIN (As := []) (rest := [.ref (b + (k + (1 + 2 * i))), .int (nI i), .ref (b + k)]) ⟨hx, hb, hml, hown, hts⟩ (c_Row_new l D cJ cI cR b _ H.size (k + (1 + 2 * i)) hH (va_up_self _ _ _)) ⟨va_cnB 0 hts gX6_freshRows_X4_init_n19 rfl rfl rfl hz.2.2.2.2.2.1.1 hw3 (by decide +kernel) ⟨Nat.le_of_ble_eq_true rfl, Nat.le_of_ble_eq_true rfl⟩, rfl, hw4⟩ hz.preS rfl rfl hl.1 rfl (lv_room (Nat.le_of_ble_eq_true rfl)) dX6_freshRows_18 ⟨by show 1 + 2 * i + 1 + 1 ≤ 1 + 2 * cnt; omega, by show cnt + 15 * i + 2 + 13 ≤ cnt + 15 * cnt; omega⟩) (fun E3 H locs hp hz hH => ?_)
        have hz : PS D vwCl (tys3 cJ cI cR) b (k + (1 + 2 * (i + 1))) s E3 H locs := hz
        have hH : H.size = b + (k + (1 + 2 * (i + 1))) := hH
        obtain ⟨hp1, hp2, hp3⟩ := hp
        have hp4 : ∀ a, a < b + (k + (1 + 2 * i)) → E3 a = E2 a := fun a h => (hp3 a h).trans (va_up_ne _ _ (by omega))
        refine pw_astqS (f := g) hx hb hz hH (by omega) ((hp4 _ (by omega)).trans f2) 2 3 rfl (by omega) hp1 rfl (vp_in_nI hlt (by omega)) dX6_freshRows_21 (fun H locs hz hH => ?_)
        refine lv_iinc (v := (nI (i + 1))) (lv' := [(2, .int (nI (i + 1))), (1, .ref (b + k)), (0, .int (nI cnt))]) hx hb dX6_freshRows_22 hl (k := 0) rfl (by exact nI_1 i) (by decide) rfl (fun ls hl => ?_)
        refine lv_goto (tgt := 7) hx hb dX6_freshRows_25 (by decide) ?_
        refine W.cs (cells' := 1 + 2 * (i + 1)) (slots' := cnt + 15 * (i + 1)) (by omega) (by omega) ?_
        refine ih (i + 1) (by omega) _ H locs ls hz hH (fun a h => (va_up_ne _ _ (by omega)).trans ((hp4 a (by omega)).trans (f1 a h))) ⟨_, va_up_self _ _ _, fun q hq => ?_⟩ (fun q hq => ?_) hl
        · rw [nI_clamp (by omega)]
          by_cases hqi : q = i
          · subst hqi; rw [va_up_self]; congr 1; omega
          · rw [va_up_ne _ _ hqi]; exact f4 q (by omega)
        · rw [va_up_ne _ _ (by omega), va_up_ne _ _ (by omega)]
          by_cases hqi : q = i
          · subst hqi; have e : b + k + 1 + 2 * q = b + (k + (1 + 2 * q)) := by omega
            rw [e]; exact ⟨hp1, hp2⟩
          · rw [hp4 _ (by omega), hp4 _ (by omega)]; exact f3 q (by omega)
  refine W.cs (cells' := 1 + 2 * 0) (slots' := cnt + 15 * 0) (by omega) (by omega) ?_
  exact loop cnt 0 (by omega) _ H _ ls hz hH (fun a h => va_up_ne _ _ (by omega)) ⟨_, va_up_self _ _ _, fun _ h => absurd h (Nat.not_lt_zero _)⟩ (fun _ h => absurd h (Nat.not_lt_zero _)) hl
