abbrev oS (x : Int32) : Prop := ¬ x < 0 ∧ x < 8
abbrev oK (x : Int32) : Prop := ¬ x < 0 ∧ x ≤ 6
abbrev oW (x y : Int32) : Prop := ¬ x < -y ∧ x ≤ y
theorem oS_nI {x : Int32} (h : oS x) : ∃ j : Nat, j < 8 ∧ x = nI j := by
  obtain ⟨j, hj, rfl⟩ := nI_of h.1
  exact ⟨j, (nI_ltI hj (by decide)).mp h.2, rfl⟩
theorem oK_nI {x : Int32} (h : oK x) : ∃ j : Nat, j < 7 ∧ x = nI j := by
  obtain ⟨j, hj, rfl⟩ := nI_of h.1
  exact ⟨j, Nat.lt_succ_of_le ((nI_leI hj (by decide)).mp h.2), rfl⟩
theorem nI_oS {j : Nat} (h : j < 8) : oS (nI j) := ⟨nI_pos (by omega), nI_lt h (by decide)⟩
theorem nI_oK {j : Nat} (h : j < 7) : oK (nI j) := ⟨nI_pos (by omega), nI_le (b := 6) (by omega) (by decide)⟩
section XC
variable {p : Program} {l : Launch} {e : Env} {R : Room} {s : State} {m : MethodId} {args : Array Value} {below : List Frame} {meth : Method} {c : Code} {H : Heap} {locs : List Loc} {cells slots : Nat} {Q : State → Prop}
variable {cc : ByteArray} {pc : Nat} {ls : Array Slot} {rest st0 : List Value} {Qc : Array Value → State → Outcome → State → Prop} {av : Array Value}
variable {D : va_G} {cl : List vw_C} {tys : List (ClassId × FieldType)} {b n : Nat} {E : Nat → va_E} {px : (Nat → va_E) → Prop} {mc ms k1 k2 : Nat}
/-- a check that throws, in a body without a table: it goes on to the caller -/
theorem pw_xcall (hz : PS D cl tys b n s E H locs) (hnt : ∀ x ∈ c.exceptionTable.toList, False) (hlocks : meth.locks = false) (hp : px E) (hc : cells + mc ≤ k1) (hs : slots + ms ≤ k2) (hr : vx_Run p l e R s m args below meth c H locs cells slots mc ms (F0 m pc ls st0) rest (cQv D cl tys b n (fun _ => False) av) (cX D cl b n (fun E' => E' = E)) (PA b)) :
    W p l e R s m args below meth c H locs cells slots (vx_MQ below Qc (cX D cl b n px) args s k1 k2 (PA b)) (F0 m pc ls st0) := by
  refine vx_callv hr hz.2.1 (fun _ _ h => h) (fun _ h => h) (fun _ _ h => h) (fun Ex ce q9 u t H1 locs1 ht _ hpx hBX _ _ hS hce hcv hcl => ?_) (fun u t H1 locs1 _ _ hf _ _ _ _ => hf.elim)
  obtain ⟨rfl, hP⟩ := hBX
  refine vx_out (fun x h => (hnt x h).elim) hlocks hce hcv hcl (fun t2 h2 _ => ⟨E, hp, ⟨rfl, ?_⟩, hS.F h2⟩) hS.2.2 hc hs
  rw [h2, ← ht, ← hpx]
  exact hP
end XC

abbrev o3 (x y z : Int32) : Prop := oS x ∧ oS y ∧ oS z

set_option maxHeartbeats 400000 in
set_option maxRecDepth 100000 in
/-- checkThreeSlots -/
theorem c_checkThree_ok (l : Launch) (D : va_G) (cJ cI cR : ClassId) (b n : Nat) (E : Nat → va_E) (sz : Nat) (x y z : Int32) (h : o3 x y z) : Met l yX6_checkThreeSlots wsX6_checkThreeSlots { frames := 1, cells := 0, slots := 0, locals := 20 } (cP D vwCl (tys3 cJ cI cR) b n E sz [.int x, .int y, .int z]) (cQv D vwCl (tys3 cJ cI cR) b n (fun E' => E' = E)) 0 0 (PA b) := by
  refine Met.ofW (cc := cX6_checkThreeSlots) (maxL := 3) (ret := none) (by decide) rfl ?_
  intro p e s m args below meth c s₁ B hml hv
  obtain ⟨rfl, hsz, hB⟩ := hv
  have hx := B.exec
  have hb := B.bytes
  have hret := B.returns
  have hts := atoms_spec (ws := wsX6_checkThreeSlots) B.pre
  have hown : s.vm.findClass RX6 = some m.cls := findClass_of_methodNamed B.named
  have hlocks := B.notSynchronized
  subst hsz
  have hz := PS.start hB
  have hl := lv_entry ([.int x, .int y, .int z]) (n := 3) (Nat.le_of_ble_eq_true rfl)
  rw [lg_entry_eq]
  generalize (lg_sl ([.int x, .int y, .int z]) ++ List.replicate (3 - (lg_sl ([.int x, .int y, .int z])).length) Slot.unset).toArray = ls at hl ⊢
  have hl : lv_has ls 3 [(0, .int x), (1, .int y), (2, .int z)] := hl
  refine lv_iload_n hx hb dX6_checkThreeSlots_0 rfl (lv_at hl 0 rfl) ?_
  refine pw_callv hz (va_runS (As := [.int x]) (rest := []) ⟨hx, hb, hml, hown, hts⟩ (c_checkSlot_ok l D cJ cI cR b n _ _ (x) h.1) (va_cwS 1 hts gX6_checkThreeSlots_X6_checkSlot rfl rfl rfl (by decide +kernel) ⟨Nat.le_of_ble_eq_true rfl, Nat.le_of_ble_eq_true rfl⟩) hz.preS rfl rfl hl.1 rfl (lv_room (Nat.le_of_ble_eq_true rfl)) dX6_checkThreeSlots_1 ⟨Nat.le_of_ble_eq_true rfl, Nat.le_of_ble_eq_true rfl⟩) (fun Ev H locs hp hz => ?_)
  rw [hp] at hz
  refine lv_iload_n hx hb dX6_checkThreeSlots_4 rfl (lv_at hl 1 rfl) ?_
  refine pw_callv hz (va_runS (As := [.int y]) (rest := []) ⟨hx, hb, hml, hown, hts⟩ (c_checkSlot_ok l D cJ cI cR b n _ _ (y) h.2.1) (va_cwS 1 hts gX6_checkThreeSlots_X6_checkSlot rfl rfl rfl (by decide +kernel) ⟨Nat.le_of_ble_eq_true rfl, Nat.le_of_ble_eq_true rfl⟩) hz.preS rfl rfl hl.1 rfl (lv_room (Nat.le_of_ble_eq_true rfl)) dX6_checkThreeSlots_5 ⟨Nat.le_of_ble_eq_true rfl, Nat.le_of_ble_eq_true rfl⟩) (fun Ev H locs hp hz => ?_)
  rw [hp] at hz
  refine lv_iload_n hx hb dX6_checkThreeSlots_8 rfl (lv_at hl 2 rfl) ?_
  refine pw_callv hz (va_runS (As := [.int z]) (rest := []) ⟨hx, hb, hml, hown, hts⟩ (c_checkSlot_ok l D cJ cI cR b n _ _ (z) h.2.2) (va_cwS 1 hts gX6_checkThreeSlots_X6_checkSlot rfl rfl rfl (by decide +kernel) ⟨Nat.le_of_ble_eq_true rfl, Nat.le_of_ble_eq_true rfl⟩) hz.preS rfl rfl hl.1 rfl (lv_room (Nat.le_of_ble_eq_true rfl)) dX6_checkThreeSlots_9 ⟨Nat.le_of_ble_eq_true rfl, Nat.le_of_ble_eq_true rfl⟩) (fun Ev H locs hp hz => ?_)
  rw [hp] at hz
  exact pw_vret hx hb hret hlocks hz (rfl) dX6_checkThreeSlots_12

set_option maxHeartbeats 400000 in
set_option maxRecDepth 100000 in
/-- checkThree throws -/
theorem c_checkThree_no (l : Launch) (hst : l.stackTraces = false) (D : va_G) (cJ cI cR : ClassId) (b n : Nat) (E : Nat → va_E) (sz : Nat) (x y z : Int32) (h : ¬ o3 x y z) : vx_Met l yX6_checkThreeSlots wsX6_checkThreeSlots { frames := 7, cells := 1, slots := 6, locals := 102 } (cP D vwCl (tys3 cJ cI cR) b n E sz [.int x, .int y, .int z]) (cQv D vwCl (tys3 cJ cI cR) b n (fun _ => False)) (cX D vwCl b n (fun E' => E' = E)) 1 6 (PA b) := by
  refine vx_ofW (cc := cX6_checkThreeSlots) (maxL := 3) (ret := none) (by decide) rfl ?_
  intro p e s m args below meth c s₁ B hml hnt hv
  obtain ⟨rfl, hsz, hB⟩ := hv
  have hx := B.exec
  have hb := B.bytes
  have hret := B.returns
  have hts := atoms_spec (ws := wsX6_checkThreeSlots) B.pre
  have hown : s.vm.findClass RX6 = some m.cls := findClass_of_methodNamed B.named
  have hlocks := B.notSynchronized
  subst hsz
  have hz := PS.start hB
  have hl := lv_entry ([.int x, .int y, .int z]) (n := 3) (Nat.le_of_ble_eq_true rfl)
  rw [lg_entry_eq]
  generalize (lg_sl ([.int x, .int y, .int z]) ++ List.replicate (3 - (lg_sl ([.int x, .int y, .int z])).length) Slot.unset).toArray = ls at hl ⊢
  have hl : lv_has ls 3 [(0, .int x), (1, .int y), (2, .int z)] := hl
  refine lv_iload_n hx hb dX6_checkThreeSlots_0 rfl (lv_at hl 0 rfl) ?_
  by_cases k1 : oS (x)
  · skip
    refine pw_callv hz (va_runS (As := [.int x]) (rest := []) ⟨hx, hb, hml, hown, hts⟩ (c_checkSlot_ok l D cJ cI cR b n _ _ (x) k1) (va_cwS 1 hts gX6_checkThreeSlots_X6_checkSlot rfl rfl rfl (by decide +kernel) ⟨Nat.le_of_ble_eq_true rfl, Nat.le_of_ble_eq_true rfl⟩) hz.preS rfl rfl hl.1 rfl (lv_room (Nat.le_of_ble_eq_true rfl)) dX6_checkThreeSlots_1 ⟨Nat.le_of_ble_eq_true rfl, Nat.le_of_ble_eq_true rfl⟩) (fun Ev H locs hp hz => ?_)
    rw [hp] at hz
    refine lv_iload_n hx hb dX6_checkThreeSlots_4 rfl (lv_at hl 1 rfl) ?_
    by_cases k2 : oS (y)
    · skip
      refine pw_callv hz (va_runS (As := [.int y]) (rest := []) ⟨hx, hb, hml, hown, hts⟩ (c_checkSlot_ok l D cJ cI cR b n _ _ (y) k2) (va_cwS 1 hts gX6_checkThreeSlots_X6_checkSlot rfl rfl rfl (by decide +kernel) ⟨Nat.le_of_ble_eq_true rfl, Nat.le_of_ble_eq_true rfl⟩) hz.preS rfl rfl hl.1 rfl (lv_room (Nat.le_of_ble_eq_true rfl)) dX6_checkThreeSlots_5 ⟨Nat.le_of_ble_eq_true rfl, Nat.le_of_ble_eq_true rfl⟩) (fun Ev H locs hp hz => ?_)
      rw [hp] at hz
      refine lv_iload_n hx hb dX6_checkThreeSlots_8 rfl (lv_at hl 2 rfl) ?_
      by_cases k3 : oS (z)
      · skip
        refine pw_callv hz (va_runS (As := [.int z]) (rest := []) ⟨hx, hb, hml, hown, hts⟩ (c_checkSlot_ok l D cJ cI cR b n _ _ (z) k3) (va_cwS 1 hts gX6_checkThreeSlots_X6_checkSlot rfl rfl rfl (by decide +kernel) ⟨Nat.le_of_ble_eq_true rfl, Nat.le_of_ble_eq_true rfl⟩) hz.preS rfl rfl hl.1 rfl (lv_room (Nat.le_of_ble_eq_true rfl)) dX6_checkThreeSlots_9 ⟨Nat.le_of_ble_eq_true rfl, Nat.le_of_ble_eq_true rfl⟩) (fun Ev H locs hp hz => ?_)
        rw [hp] at hz
        exact (h ⟨k1, k2, k3⟩).elim
      · skip
        exact pw_xcall hz hnt hlocks rfl (Nat.le_of_ble_eq_true rfl) (Nat.le_of_ble_eq_true rfl) (vx_runS (As := [.int z]) (rest := []) ⟨hx, hb, hml, hown, hts⟩ (c_checkSlot_no l hst D cJ cI cR b n _ _ (z) k3) (va_cwS 1 hts gX6_checkThreeSlots_X6_checkSlot rfl rfl rfl (by decide +kernel) ⟨Nat.le_of_ble_eq_true rfl, Nat.le_of_ble_eq_true rfl⟩) hz.preS rfl rfl hl.1 rfl (lv_room (Nat.le_of_ble_eq_true rfl)) dX6_checkThreeSlots_9 ⟨Nat.le_of_ble_eq_true rfl, Nat.le_of_ble_eq_true rfl⟩)
    · skip
      exact pw_xcall hz hnt hlocks rfl (Nat.le_of_ble_eq_true rfl) (Nat.le_of_ble_eq_true rfl) (vx_runS (As := [.int y]) (rest := []) ⟨hx, hb, hml, hown, hts⟩ (c_checkSlot_no l hst D cJ cI cR b n _ _ (y) k2) (va_cwS 1 hts gX6_checkThreeSlots_X6_checkSlot rfl rfl rfl (by decide +kernel) ⟨Nat.le_of_ble_eq_true rfl, Nat.le_of_ble_eq_true rfl⟩) hz.preS rfl rfl hl.1 rfl (lv_room (Nat.le_of_ble_eq_true rfl)) dX6_checkThreeSlots_5 ⟨Nat.le_of_ble_eq_true rfl, Nat.le_of_ble_eq_true rfl⟩)
  · skip
    exact pw_xcall hz hnt hlocks rfl (Nat.le_of_ble_eq_true rfl) (Nat.le_of_ble_eq_true rfl) (vx_runS (As := [.int x]) (rest := []) ⟨hx, hb, hml, hown, hts⟩ (c_checkSlot_no l hst D cJ cI cR b n _ _ (x) k1) (va_cwS 1 hts gX6_checkThreeSlots_X6_checkSlot rfl rfl rfl (by decide +kernel) ⟨Nat.le_of_ble_eq_true rfl, Nat.le_of_ble_eq_true rfl⟩) hz.preS rfl rfl hl.1 rfl (lv_room (Nat.le_of_ble_eq_true rfl)) dX6_checkThreeSlots_1 ⟨Nat.le_of_ble_eq_true rfl, Nat.le_of_ble_eq_true rfl⟩)

abbrev oP (x : Int32) : Prop := ∃ q : Nat, x = nI q ∧ 2 ≤ q ∧ q ≤ 997 ∧ ∀ d, 2 ≤ d → d * d ≤ q → q % d ≠ 0
theorem sq_ltN {a b q : Nat} (h : a ≤ b) (hb : b * b ≤ q) : a * a ≤ q := Nat.le_trans (Nat.mul_le_mul h h) hb
theorem sq_bdN {a q : Nat} (h : a * a ≤ q) (hq : q ≤ 997) : a < 32 := by
  rcases Nat.lt_or_ge a 32 with h1 | h1
  · exact h1
  · exact absurd (Nat.le_trans (Nat.mul_le_mul h1 h1) h) (by omega)

set_option maxHeartbeats 400000 in
set_option maxRecDepth 100000 in
/-- checkPrime -/
theorem c_checkPrime_ok (l : Launch) (D : va_G) (cJ cI cR : ClassId) (b n : Nat) (E : Nat → va_E) (sz : Nat) (x : Int32) (h : oP x) : Met l yX6_checkPrime wsX6_checkPrime { frames := 0, cells := 0, slots := 0, locals := 0 } (cP D vwCl (tys3 cJ cI cR) b n E sz [.int x]) (cQv D vwCl (tys3 cJ cI cR) b n (fun E' => E' = E)) 0 0 (PA b) := by
  refine Met.ofW (cc := cX6_checkPrime) (maxL := 2) (ret := none) (by decide) rfl ?_
  intro p e s m args below meth c s₁ B hml hv
  obtain ⟨rfl, hsz, hB⟩ := hv
  have hx := B.exec
  have hb := B.bytes
  have hret := B.returns
  have hts := atoms_spec (ws := wsX6_checkPrime) B.pre
  have hown : s.vm.findClass RX6 = some m.cls := findClass_of_methodNamed B.named
  have hlocks := B.notSynchronized
  subst hsz
  have hz := PS.start hB
  have hl := lv_entry ([.int x]) (n := 2) (Nat.le_of_ble_eq_true rfl)
  rw [lg_entry_eq]
  generalize (lg_sl ([.int x]) ++ List.replicate (2 - (lg_sl ([.int x])).length) Slot.unset).toArray = ls at hl ⊢
  have hl : lv_has ls 2 [(0, .int x)] := hl
  obtain ⟨q, rfl, hq1, hq2, hq3⟩ := h
  refine lv_iload_n hx hb dX6_checkPrime_0 rfl (lv_at hl 0 rfl) ?_
  refine lv_iconst (v := 2) hx hb dX6_checkPrime_1 (by decide) ?_
  refine lv_icmp_lt (tgt := 12) hx hb dX6_checkPrime_2 (by decide) (fun c1 => ?_) (fun c1 => ?_)
  · skip
    exact absurd c1 (nI_nlt (b := 2) (by omega) (by omega))
  · skip
    refine lv_iload_n hx hb dX6_checkPrime_5 rfl (lv_at hl 0 rfl) ?_
    refine lv_sipush (v := 997) hx hb dX6_checkPrime_6 (by decide) ?_
    refine lv_icmp_le (tgt := 22) hx hb dX6_checkPrime_9 (by decide) (fun c2 => ?_) (fun c2 => ?_)
    · skip
      refine lv_iconst (v := 2) hx hb dX6_checkPrime_22 (by decide) ?_
      refine lv_istore_n (lv' := [(1, .int 2), (0, .int (nI q))]) hx hb dX6_checkPrime_23 rfl hl (by decide) rfl (fun ls hl => ?_)
      have loop : ∀ (k i : Nat), i + k = 33 → 2 ≤ i → ∀ (ls : Array Slot), lv_has ls 2 [(1, .int (nI i)), (0, .int (nI q))] → W p l e (headSpec wsX6_checkPrime { frames := 0, cells := 0, slots := 0, locals := 0 }).room s m ([.int (nI q)] : List Value).toArray below meth c s.heap [] 0 0 (MQ below (cQv D vwCl (tys3 cJ cI cR) b n (fun E' => E' = E)) ([.int (nI q)] : List Value).toArray s 0 0 (PA b)) (F0 m 24 ls []) := by
        intro k
        induction k with
        | zero =>
          intro i hi h2 ls hl
          have hb2 : i * i ≤ 33 * 33 := Nat.mul_le_mul (by omega) (by omega)
          refine lv_iload_n hx hb dX6_checkPrime_24 rfl (lv_at hl 0 rfl) ?_
          refine lv_iload_n hx hb dX6_checkPrime_25 rfl (lv_at hl 0 rfl) ?_
          refine lv_imul hx hb dX6_checkPrime_26 ?_
          refine lv_iload_n hx hb dX6_checkPrime_27 rfl (lv_at hl 1 rfl) ?_
          refine lv_icmp_gt (tgt := 53) hx hb dX6_checkPrime_28 (by decide) (fun c3 => ?_) (fun c3 => ?_)
          · skip
            exact pw_vret hx hb hret hlocks hz rfl dX6_checkPrime_53
          · skip
            rw [pk_mul] at c3
            have hii : i * i ≤ q := Nat.not_lt.mp (fun h9 => c3 (nI_lt h9 (by omega)))
            have hi32 := sq_bdN hii hq2
            exact absurd hi32 (by omega)
        | succ k ih =>
          intro i hi h2 ls hl
          have hb2 : i * i ≤ 33 * 33 := Nat.mul_le_mul (by omega) (by omega)
          refine lv_iload_n hx hb dX6_checkPrime_24 rfl (lv_at hl 0 rfl) ?_
          refine lv_iload_n hx hb dX6_checkPrime_25 rfl (lv_at hl 0 rfl) ?_
          refine lv_imul hx hb dX6_checkPrime_26 ?_
          refine lv_iload_n hx hb dX6_checkPrime_27 rfl (lv_at hl 1 rfl) ?_
          refine lv_icmp_gt (tgt := 53) hx hb dX6_checkPrime_28 (by decide) (fun c3 => ?_) (fun c3 => ?_)
          · skip
            exact pw_vret hx hb hret hlocks hz rfl dX6_checkPrime_53
          · skip
            rw [pk_mul] at c3
            have hii : i * i ≤ q := Nat.not_lt.mp (fun h9 => c3 (nI_lt h9 (by omega)))
            have hi32 := sq_bdN hii hq2
            refine lv_iload_n hx hb dX6_checkPrime_31 rfl (lv_at hl 1 rfl) ?_
            refine lv_iload_n hx hb dX6_checkPrime_32 rfl (lv_at hl 0 rfl) ?_
            refine lv_irem hx hb dX6_checkPrime_33 (nI_ne0 (by omega) (by omega)) ?_
            rw [pk_rem (by omega) (by omega) (by omega)]
            refine lv_if_ne (tgt := 47) hx hb dX6_checkPrime_34 (by decide) (fun c4 => ?_) (fun c4 => ?_)
            · skip
              refine lv_iinc (v := (nI (i + 1))) (lv' := [(1, .int (nI (i + 1))), (0, .int (nI q))]) hx hb dX6_checkPrime_47 hl (k := 0) rfl (by exact nI_1 i) (by decide) rfl (fun ls hl => ?_)
              refine lv_goto (tgt := 24) hx hb dX6_checkPrime_50 (by decide) ?_
              exact ih (i + 1) (by omega) (by omega) ls hl
            · skip
              exact absurd ((nI_eq (a := q % i) (b := 0) (Nat.lt_of_le_of_lt (Nat.mod_le _ _) (by omega)) (by decide)).mp c4) (hq3 i h2 hii)
      exact loop 31 2 rfl (by omega) ls hl
    · skip
      exact absurd (nI_le (b := 997) hq2 (by decide)) c2

set_option maxHeartbeats 400000 in
set_option maxRecDepth 100000 in
theorem c_checkPrime_no (l : Launch) (hst : l.stackTraces = false) (D : va_G) (cJ cI cR : ClassId) (b n : Nat) (E : Nat → va_E) (sz : Nat) (x : Int32) (h : ¬ oP x) : vx_Met l yX6_checkPrime wsX6_checkPrime { frames := 6, cells := 1, slots := 6, locals := 82 } (cP D vwCl (tys3 cJ cI cR) b n E sz [.int x]) (cQv D vwCl (tys3 cJ cI cR) b n (fun _ => False)) (cX D vwCl b n (fun E' => E' = E)) 1 6 (PA b) := by
  refine vx_ofW (cc := cX6_checkPrime) (maxL := 2) (ret := none) (by decide) rfl ?_
  intro p e s m args below meth c s₁ B hml hnt hv
  obtain ⟨rfl, hsz, hB⟩ := hv
  have hx := B.exec
  have hb := B.bytes
  have hret := B.returns
  have hts := atoms_spec (ws := wsX6_checkPrime) B.pre
  have hown : s.vm.findClass RX6 = some m.cls := findClass_of_methodNamed B.named
  have hlocks := B.notSynchronized
  subst hsz
  have hz := PS.start hB
  have hl := lv_entry ([.int x]) (n := 2) (Nat.le_of_ble_eq_true rfl)
  rw [lg_entry_eq]
  generalize (lg_sl ([.int x]) ++ List.replicate (2 - (lg_sl ([.int x])).length) Slot.unset).toArray = ls at hl ⊢
  have hl : lv_has ls 2 [(0, .int x)] := hl
  have hw0 := hts (.classLink RX6 175 XIA) (by decide +kernel)
  have hw1 := hts (.initialized XIA) (by decide +kernel)
  refine lv_iload_n hx hb dX6_checkPrime_0 rfl (lv_at hl 0 rfl) ?_
  refine lv_iconst (v := 2) hx hb dX6_checkPrime_1 (by decide) ?_
  refine lv_icmp_lt (tgt := 12) hx hb dX6_checkPrime_2 (by decide) (fun c1 => ?_) (fun c1 => ?_)
  · skip
    obtain ⟨sa, hstr⟩ := hz.2.2.2.2.2.2.1.2.2.2.1
    exact pw_throw hx hb hst hown hw0 hw1 (fun w h => hts w (List.mem_cons_of_mem _ (List.mem_append_right _ h))) hstr hz (by rw [hml]; exact hl.1) hnt dX6_checkPrime_12 dX6_checkPrime_15 dX6_checkPrime_16 dX6_checkPrime_18 dX6_checkPrime_21 (Nat.le_of_ble_eq_true rfl) (Nat.le_of_ble_eq_true rfl) (Nat.le_of_ble_eq_true rfl) (Nat.le_of_ble_eq_true rfl) hlocks rfl (Nat.le_of_ble_eq_true rfl) (Nat.le_of_ble_eq_true rfl)
  · skip
    refine lv_iload_n hx hb dX6_checkPrime_5 rfl (lv_at hl 0 rfl) ?_
    refine lv_sipush (v := 997) hx hb dX6_checkPrime_6 (by decide) ?_
    refine lv_icmp_le (tgt := 22) hx hb dX6_checkPrime_9 (by decide) (fun c2 => ?_) (fun c2 => ?_)
    · skip
      obtain ⟨q, hq, rfl⟩ : ∃ q : Nat, q < 2 ^ 31 ∧ x = nI q := nI_of (fun h9 => c1 (Int32.lt_trans h9 (by decide)))
      have hq1 : 2 ≤ q := Nat.not_lt.mp (fun h9 => c1 (nI_lt h9 (by decide)))
      have hq2 : q ≤ 997 := (nI_leI hq (by decide)).mp c2
      obtain ⟨d0, hd1, hd2, hd3⟩ : ∃ d, 2 ≤ d ∧ d * d ≤ q ∧ q % d = 0 := Classical.byContradiction (fun hn => h ⟨q, rfl, hq1, hq2, fun d g1 g2 g3 => hn ⟨d, g1, g2, g3⟩⟩)
      refine lv_iconst (v := 2) hx hb dX6_checkPrime_22 (by decide) ?_
      refine lv_istore_n (lv' := [(1, .int 2), (0, .int (nI q))]) hx hb dX6_checkPrime_23 rfl hl (by decide) rfl (fun ls hl => ?_)
      have loop : ∀ (k i : Nat), i + k = 33 → 2 ≤ i → i ≤ d0 → ∀ (ls : Array Slot), lv_has ls 2 [(1, .int (nI i)), (0, .int (nI q))] → W p l e (headSpec wsX6_checkPrime { frames := 6, cells := 1, slots := 6, locals := 82 }).room s m ([.int (nI q)] : List Value).toArray below meth c s.heap [] 0 0 (vx_MQ below (cQv D vwCl (tys3 cJ cI cR) b n (fun _ => False)) (cX D vwCl b n (fun E' => E' = E)) ([.int (nI q)] : List Value).toArray s 1 6 (PA b)) (F0 m 24 ls []) := by
        intro k
        induction k with
        | zero =>
          intro i hi h2 h3 ls hl
          have hb2 : i * i ≤ 33 * 33 := Nat.mul_le_mul (by omega) (by omega)
          refine lv_iload_n hx hb dX6_checkPrime_24 rfl (lv_at hl 0 rfl) ?_
          refine lv_iload_n hx hb dX6_checkPrime_25 rfl (lv_at hl 0 rfl) ?_
          refine lv_imul hx hb dX6_checkPrime_26 ?_
          refine lv_iload_n hx hb dX6_checkPrime_27 rfl (lv_at hl 1 rfl) ?_
          refine lv_icmp_gt (tgt := 53) hx hb dX6_checkPrime_28 (by decide) (fun c3 => ?_) (fun c3 => ?_)
          · skip
            rw [pk_mul] at c3
            exact absurd c3 (nI_nlt (sq_ltN h3 hd2) (by omega))
          · skip
            rw [pk_mul] at c3
            have hii : i * i ≤ q := Nat.not_lt.mp (fun h9 => c3 (nI_lt h9 (by omega)))
            have hi32 := sq_bdN hii hq2
            exact absurd hi32 (by omega)
        | succ k ih =>
          intro i hi h2 h3 ls hl
          have hb2 : i * i ≤ 33 * 33 := Nat.mul_le_mul (by omega) (by omega)
          refine lv_iload_n hx hb dX6_checkPrime_24 rfl (lv_at hl 0 rfl) ?_
          refine lv_iload_n hx hb dX6_checkPrime_25 rfl (lv_at hl 0 rfl) ?_
          refine lv_imul hx hb dX6_checkPrime_26 ?_
          refine lv_iload_n hx hb dX6_checkPrime_27 rfl (lv_at hl 1 rfl) ?_
          refine lv_icmp_gt (tgt := 53) hx hb dX6_checkPrime_28 (by decide) (fun c3 => ?_) (fun c3 => ?_)
          · skip
            rw [pk_mul] at c3
            exact absurd c3 (nI_nlt (sq_ltN h3 hd2) (by omega))
          · skip
            rw [pk_mul] at c3
            have hii : i * i ≤ q := Nat.not_lt.mp (fun h9 => c3 (nI_lt h9 (by omega)))
            have hi32 := sq_bdN hii hq2
            refine lv_iload_n hx hb dX6_checkPrime_31 rfl (lv_at hl 1 rfl) ?_
            refine lv_iload_n hx hb dX6_checkPrime_32 rfl (lv_at hl 0 rfl) ?_
            refine lv_irem hx hb dX6_checkPrime_33 (nI_ne0 (by omega) (by omega)) ?_
            rw [pk_rem (by omega) (by omega) (by omega)]
            refine lv_if_ne (tgt := 47) hx hb dX6_checkPrime_34 (by decide) (fun c4 => ?_) (fun c4 => ?_)
            · skip
              have hne : i ≠ d0 := fun h9 => c4 (by rw [h9, hd3]; rfl)
              refine lv_iinc (v := (nI (i + 1))) (lv' := [(1, .int (nI (i + 1))), (0, .int (nI q))]) hx hb dX6_checkPrime_47 hl (k := 0) rfl (by exact nI_1 i) (by decide) rfl (fun ls hl => ?_)
              refine lv_goto (tgt := 24) hx hb dX6_checkPrime_50 (by decide) ?_
              exact ih (i + 1) (by omega) (by omega) (by omega) ls hl
            · skip
              obtain ⟨sa, hstr⟩ := hz.2.2.2.2.2.2.1.2.2.2.2.1
              exact pw_throw hx hb hst hown hw0 hw1 (fun w h => hts w (List.mem_cons_of_mem _ (List.mem_append_right _ h))) hstr hz (by rw [hml]; exact hl.1) hnt dX6_checkPrime_37 dX6_checkPrime_40 dX6_checkPrime_41 dX6_checkPrime_43 dX6_checkPrime_46 (Nat.le_of_ble_eq_true rfl) (Nat.le_of_ble_eq_true rfl) (Nat.le_of_ble_eq_true rfl) (Nat.le_of_ble_eq_true rfl) hlocks rfl (Nat.le_of_ble_eq_true rfl) (Nat.le_of_ble_eq_true rfl)
      exact loop 31 2 rfl (by omega) hd1 ls hl
    · skip
      obtain ⟨sa, hstr⟩ := hz.2.2.2.2.2.2.1.2.2.2.1
      exact pw_throw hx hb hst hown hw0 hw1 (fun w h => hts w (List.mem_cons_of_mem _ (List.mem_append_right _ h))) hstr hz (by rw [hml]; exact hl.1) hnt dX6_checkPrime_12 dX6_checkPrime_15 dX6_checkPrime_16 dX6_checkPrime_18 dX6_checkPrime_21 (Nat.le_of_ble_eq_true rfl) (Nat.le_of_ble_eq_true rfl) (Nat.le_of_ble_eq_true rfl) (Nat.le_of_ble_eq_true rfl) hlocks rfl (Nat.le_of_ble_eq_true rfl) (Nat.le_of_ble_eq_true rfl)
