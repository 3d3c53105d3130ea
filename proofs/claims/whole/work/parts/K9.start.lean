/-! THE LAW, from its entry -/
abbrev outA (cJ : ClassId) (f : Nat → Int64) : va_E := .inl (cJ, 1, .inr (.inl f))
set_option maxHeartbeats 4000000 in
set_option maxRecDepth 100000 in
/-- THE LAW, from its entry -/
theorem whole_start {p : Program} {e : Env} {s : State} {m : MethodId} {below : List Frame} {meth : Method} {c : Code} (l : Launch) (hst : l.stackTraces = false) {sb L : Nat} {xs : Nat → Int32} (hL : L ≤ 3072) (C0 : lw_At p s m meth c sb L xs) : W p l e room_1 s m #[Value.ref sb] below meth c s.heap [] 0 0 (lw_Z below #[Value.ref sb] s) (entryFrame m ([Value.ref sb] : List Value).toArray 7) := by
  obtain ⟨hx, hb, hret, hml, hown, hts0, hX, hbl, hlocks, hgv⟩ := id C0
  have hts : ∀ w ∈ wsL_law, w.before #[Value.ref sb] s = true := fun w h => hts0 w (wsL_law_in w h)
  obtain ⟨c0, iS0, hKn0⟩ := u_known (C := RX0) (T := TX0) (N := 10) (n := 10) hts0 inX0 (hts0 (.instantiable RX0 10) (by decide +kernel))
  obtain ⟨c1, iS1, hKn1⟩ := u_known (C := RX2) (T := TX2) (N := 4) (n := 4) hts0 inX2 (hts0 (.instantiable RX2 4) (by decide +kernel))
  obtain ⟨c2, iS2, hKn2⟩ := u_known (C := RX3) (T := TX3) (N := 4) (n := 4) hts0 inX3 (hts0 (.instantiable RX3 4) (by decide +kernel))
  obtain ⟨c3, iS3, hKn3⟩ := u_known (C := RX4) (T := TX4) (N := 2) (n := 2) hts0 inX4 (hts0 (.instantiable RX4 2) (by decide +kernel))
  obtain ⟨c4, iS4, hKn4⟩ := u_known (C := RX5) (T := TX5) (N := 10) (n := 10) hts0 inX5 (hts0 (.instantiable RX5 10) (by decide +kernel))
  obtain ⟨c5, iS5, hKn5⟩ := u_known (C := RX6) (T := TX6) (N := 9) (n := 9) hts0 inX6 (hts0 (.instantiable RX6 9) (by decide +kernel))
  obtain ⟨c6, iS6, hKn6⟩ := u_known (C := RX7) (T := TX7) (N := 25) (n := 25) hts0 inX7 (hts0 (.instantiable RX7 25) (by decide +kernel))
  obtain ⟨dC, dI, hKc⟩ : ∃ (dC : Nat → ClassId) (dI : Nat → Nat → Nat), ∀ (k : Nat) (q : vw_C), vwCl[k]? = some q → u_Kn s q.1 q.2.1 q.2.2 (dC k) (dI k) := by
    refine ⟨fun k => if k = 0 then c0 else if k = 1 then c1 else if k = 2 then c2 else if k = 3 then c3 else if k = 4 then c4 else if k = 5 then c5 else c6, fun k => if k = 0 then iS0 else if k = 1 then iS1 else if k = 2 then iS2 else if k = 3 then iS3 else if k = 4 then iS4 else if k = 5 then iS5 else iS6, ?_⟩
    intro k q hq
    match k, hq with
    | 0, hq => cases hq; exact hKn0
    | 1, hq => cases hq; exact hKn1
    | 2, hq => cases hq; exact hKn2
    | 3, hq => cases hq; exact hKn3
    | 4, hq => cases hq; exact hKn4
    | 5, hq => cases hq; exact hKn5
    | 6, hq => cases hq; exact hKn6
    | k + 7, hq => simp [vwCl] at hq
  obtain ⟨cJ, kJ, mJ, hJ1, hJ2, hJ3⟩ := Cond.arrayClass_spec (hts0 (.arrayClass .long) (by decide +kernel))
  obtain ⟨cI, kI, mI, hI1, hI2, hI3⟩ := Cond.arrayClass_spec (hts0 (.arrayClass .int) (by decide +kernel))
  have hao := hts0 (.arrayOver (.object RX4)) (by decide +kernel)
  obtain ⟨mR, cR, kR, hR1, -, hR3, hR4, hR5⟩ := Cond.arrayOver_spec hao
  have hK : va_K (dC, dI) vwCl (tys3 cJ cI cR) s := ⟨hKc, fun k q h => by
    match k, h with
    | 0, h => cases h; exact ⟨fun n z => ⟨(fun k h => by cases h), kJ, hJ2, mJ, hJ3⟩, hJ1⟩
    | 1, h => cases h; exact ⟨fun n z => ⟨(fun k h => by cases h), kI, hI2, mI, hI3⟩, hI1⟩
    | 2, h => cases h; exact ⟨fun n z => ⟨(fun k h => by cases h), kR, hR3, mR, hR4⟩, kR, mR, hR3, hR4, hR1, hR5⟩
    | k + 3, h => simp [tys3] at h⟩
  have hfl := flat_of_before _ hgv
  have hgn : GN s := ⟨va_Nw.of rfl (hts0 (.methodLinkNest RX6 19 yX4_init RX6) (by decide +kernel)), va_Nw.of rfl (hts0 (.methodLinkNest RX6 32 yX2_init RX6) (by decide +kernel)), va_Nw.of rfl (hts0 (.methodLinkNest RX6 47 yX0_init RX6) (by decide +kernel)), va_Nw.of rfl (hts0 (.methodLinkNest RX2 9 yX6_freshRows RX6) (by decide +kernel)), va_Nw.of rfl (hts0 (.methodLinkNest RX0 11 yX5_init RX6) (by decide +kernel)), va_Nw.of rfl (hts0 (.methodLinkNest RX5 11 yX3_init RX6) (by decide +kernel)), va_Nw.of rfl (hts0 (.methodLinkNest RX3 23 yX4_init RX6) (by decide +kernel)), va_Nw.of rfl (hts0 (.methodLinkNest RX5 20 yX4_init RX6) (by decide +kernel)), va_Nw.of rfl (hts0 (.methodLinkNest RX5 37 yX6_freshRows RX6) (by decide +kernel)), va_Nw.of rfl (hts0 (.methodLinkNest RX0 25 yX4_init RX6) (by decide +kernel)), va_Nw.of rfl (hts0 (.methodLinkNest RX0 50 yX2_init RX6) (by decide +kernel)), va_Nw.of rfl (hts0 (.methodLinkNest RX4 51 yX6_greatestDivisor RX6) (by decide +kernel)), va_Nw.of rfl (hts0 (.methodLinkNest RX0 106 yX6_greatestDivisor RX6) (by decide +kernel)), va_Nw.of rfl (hts0 (.methodLinkNest RX1 52 yX6_greatestDivisor RX6) (by decide +kernel))⟩
  have ht177 : ∃ a, vk_R RX6 177 "no such slot" a s := by
    obtain ⟨a, _, _, _, q1, -⟩ := Cond.exactly_spec (args := #[Value.ref sb]) (first := s) (o := none) (s := s) (idx := []) (t := .string RX6 177) (cls := "java/lang/String") (hfl (.exactly (.string RX6 177) "java/lang/String") (by decide +kernel))
    exact ⟨a, vk_R.of (hts0 (.stringRef RX6 177 "no such slot") (by decide +kernel)) q1⟩
  have ht182 : ∃ a, vk_R RX6 182 "no such coefficient" a s := by
    obtain ⟨a, _, _, _, q1, -⟩ := Cond.exactly_spec (args := #[Value.ref sb]) (first := s) (o := none) (s := s) (idx := []) (t := .string RX6 182) (cls := "java/lang/String") (hfl (.exactly (.string RX6 182) "java/lang/String") (by decide +kernel))
    exact ⟨a, vk_R.of (hts0 (.stringRef RX6 182 "no such coefficient") (by decide +kernel)) q1⟩
  have ht184 : ∃ a, vk_R RX6 184 "number out of bounds" a s := by
    obtain ⟨a, _, _, _, q1, -⟩ := Cond.exactly_spec (args := #[Value.ref sb]) (first := s) (o := none) (s := s) (idx := []) (t := .string RX6 184) (cls := "java/lang/String") (hfl (.exactly (.string RX6 184) "java/lang/String") (by decide +kernel))
    exact ⟨a, vk_R.of (hts0 (.stringRef RX6 184 "number out of bounds") (by decide +kernel)) q1⟩
  have ht186 : ∃ a, vk_R RX6 186 "prime out of bounds" a s := by
    obtain ⟨a, _, _, _, q1, -⟩ := Cond.exactly_spec (args := #[Value.ref sb]) (first := s) (o := none) (s := s) (idx := []) (t := .string RX6 186) (cls := "java/lang/String") (hfl (.exactly (.string RX6 186) "java/lang/String") (by decide +kernel))
    exact ⟨a, vk_R.of (hts0 (.stringRef RX6 186 "prime out of bounds") (by decide +kernel)) q1⟩
  have ht188 : ∃ a, vk_R RX6 188 "not a prime" a s := by
    obtain ⟨a, _, _, _, q1, -⟩ := Cond.exactly_spec (args := #[Value.ref sb]) (first := s) (o := none) (s := s) (idx := []) (t := .string RX6 188) (cls := "java/lang/String") (hfl (.exactly (.string RX6 188) "java/lang/String") (by decide +kernel))
    exact ⟨a, vk_R.of (hts0 (.stringRef RX6 188 "not a prime") (by decide +kernel)) q1⟩
  have hgt : GT s := ⟨ht177, ht182, ht184, ht186, ht188, va_Nw.of rfl (hts0 (.castable XIA XIA) (by decide +kernel)), va_Nw.of rfl (hts0 (.declares (Bundle.initS "java/lang/RuntimeException")) (by decide +kernel)), va_Nw.of rfl (hts0 (.declares (Bundle.initS "java/lang/Exception")) (by decide +kernel)), va_Nw.of rfl (hts0 (.declares (Bundle.initS Bundle.tN)) (by decide +kernel))⟩
  have hgs : GS s.heap.size s s.heap := ⟨vx_Zqof (hts0 (.laysStatic Bundle.tN "UNASSIGNED_STACK" Bundle.steD) (by decide +kernel)) (hts0 (.initialized Bundle.tN) (by decide +kernel)) (hfl (.isRef (.static Bundle.tN "UNASSIGNED_STACK" Bundle.steD)) (by decide +kernel)) (fun a h => Nat.not_le.mpr h), vx_Zqof (hts0 (.laysStatic Bundle.tN "SUPPRESSED_SENTINEL" Bundle.listD) (by decide +kernel)) (hts0 (.initialized Bundle.tN) (by decide +kernel)) (hfl (.isRef (.static Bundle.tN "SUPPRESSED_SENTINEL" Bundle.listD)) (by decide +kernel)) (fun a h => Nat.not_le.mpr h)⟩
  have hgp : GP s.heap.size s s.heap := by
    obtain ⟨t, ht, hT⟩ := va_Tof (f := fun j => .long (bigP j)) (N := 6) (A := PA s.heap.size) (by decide) (hfl (.arrayOf (.static RX6 "BIG_PRIMES" "[J") .long) (by decide +kernel)) (va_eqt (z := 6) (hfl (.eq (.length (.static RX6 "BIG_PRIMES" "[J")) (.int 6)) (by decide +kernel))) (fun j hj => by
      rcases (show j = 0 ∨ j = 1 ∨ j = 2 ∨ j = 3 ∨ j = 4 ∨ j = 5 by omega) with rfl | rfl | rfl | rfl | rfl | rfl
      · exact va_eqtl (hfl (.eq (.elem (.static RX6 "BIG_PRIMES" "[J") (.int 0)) (.long 33554467)) (by decide +kernel))
      · exact va_eqtl (hfl (.eq (.elem (.static RX6 "BIG_PRIMES" "[J") (.int 1)) (.long 33554473)) (by decide +kernel))
      · exact va_eqtl (hfl (.eq (.elem (.static RX6 "BIG_PRIMES" "[J") (.int 2)) (.long 33554501)) (by decide +kernel))
      · exact va_eqtl (hfl (.eq (.elem (.static RX6 "BIG_PRIMES" "[J") (.int 3)) (.long 33554503)) (by decide +kernel))
      · exact va_eqtl (hfl (.eq (.elem (.static RX6 "BIG_PRIMES" "[J") (.int 4)) (.long 33554509)) (by decide +kernel))
      · exact va_eqtl (hfl (.eq (.elem (.static RX6 "BIG_PRIMES" "[J") (.int 5)) (.long 33554519)) (by decide +kernel))) (fun a h => Nat.not_le.mpr h)
    exact ⟨t, va_Zof (hts0 (.laysStatic RX6 "BIG_PRIMES" "[J") (by decide +kernel)) (hts0 (.initialized RX6) (by decide +kernel)) ht (fun a h => Nat.not_le.mpr h), hT, va_Nw.of rfl (hts0 (.fieldLinkNest RX0 110 RX6 "BIG_PRIMES" "[J" RX6) (by decide +kernel))⟩
  obtain ⟨b, hbs⟩ : ∃ b, b = s.heap.size := ⟨_, rfl⟩
  have hG : GX b s := by rw [hbs]; exact ⟨Nat.le_refl _, va_AO.of hao, hgn, hgt, hgs, hgp⟩
  have hbA : ¬ PA b sb := by show ¬ b ≤ sb; omega
  have hz : PS (dC, dI) vwCl (tys3 cJ cI cR) b 0 s (fun _ => .inr (0, [])) s.heap [] := ⟨fun k q h => absurd (pl_of h).2.1 (by have := (pl_of h).1; omega), va_S.rf, hK, hG⟩
  have hH : s.heap.size = b + 0 := by omega
  have hl := lv_entry ([.ref sb]) (n := 7) (Nat.le_of_ble_eq_true rfl)
  rw [lg_entry_eq]
  generalize (lg_sl ([.ref sb]) ++ List.replicate (7 - (lg_sl ([.ref sb])).length) Slot.unset).toArray = ls at hl ⊢
  have hl : lv_has ls 7 [(0, .ref sb)] := hl
  refine pw_new (ci := 5) (fs := [.null, .null, .null, .null, .null, .null, .int 0, .null, .null]) (C := RX6) (T := TX6) (N := 9) hx hb hts0 inX6 tyX6 tyX6_ok hown (hts0 (.classLink RL 8 RX6) (by decide +kernel)) (hts0 (.instantiable RX6 9) (by decide +kernel)) (hts0 (.initialized RX6) (by decide +kernel)) hz hH rfl (fun j hj => by rcases (show j = 0 ∨ j = 1 ∨ j = 2 ∨ j = 3 ∨ j = 4 ∨ j = 5 ∨ j = 6 ∨ j = 7 ∨ j = 8 by omega) with rfl | rfl | rfl | rfl | rfl | rfl | rfl | rfl | rfl <;> rfl) (Nat.le_of_ble_eq_true rfl) (Nat.le_of_ble_eq_true rfl) dL_law_0 (fun H hz hH => ?_)
  have hz : PS (dC, dI) vwCl (tys3 cJ cI cR) b 1 s (va_up (fun _ => .inr (0, [])) b (.inr (5, [.null, .null, .null, .null, .null, .null, .int 0, .null, .null]))) H [] := hz
  have hH : H.size = b + 1 := hH
  refine lv_dup hx hb dL_law_3 rfl ?_
  refine pw_callm hz (va_runI (As := []) (rest := [.ref b]) ⟨hx, hb, hml, hown, hts⟩ (c_Desk_new l (dC, dI) cJ cI cR b _ H.size 0 hH (va_up_self _ _ _)) (cwI 0 hts gL_law_X6_init rfl rfl rfl (hts0 (.initialized RX6) (by decide +kernel)) (hts0 (.methodLink RL 45 yX6_init) (by decide +kernel)) (hts0 (.instanceMethod yX6_init) (by decide +kernel)) rfl (by decide +kernel) ⟨Nat.le_of_ble_eq_true rfl, Nat.le_of_ble_eq_true rfl⟩) hz.preS rfl rfl hl.1 rfl (lv_room (Nat.le_of_ble_eq_true rfl)) dL_law_4 ⟨Nat.le_of_ble_eq_true rfl, Nat.le_of_ble_eq_true rfl⟩) (fun E4 H locs hp hz hH => ?_)
  have hz : PS (dC, dI) vwCl (tys3 cJ cI cR) b 124 s E4 H locs := hz
  have hH : H.size = b + 124 := hH
  have hF : deskAt cJ cI cR b E4 := hp.1
  refine lv_astore_n (lv' := [(1, .ref b), (0, .ref sb)]) hx hb dL_law_7 rfl hl (by decide) rfl (fun ls hl => ?_)
  refine pw_new (ci := 6) (fs := [.int 0, .null, .int 0, .int 0, .null, .null, .int 0, .int 0, .int 0, .null, .null, .int 0, .null, .null, .int 0, .int 0, .int 0, .int 0, .null, .int 0, .long 0, .long 0, .long 0, .int 0, .long 0]) (C := RX7) (T := TX7) (N := 25) hx hb hts0 inX7 tyX7 tyX7_ok hown (hts0 (.classLink RL 46 RX7) (by decide +kernel)) (hts0 (.instantiable RX7 25) (by decide +kernel)) (hts0 (.initialized RX7) (by decide +kernel)) hz hH rfl (fun j hj => by rcases (show j = 0 ∨ j = 1 ∨ j = 2 ∨ j = 3 ∨ j = 4 ∨ j = 5 ∨ j = 6 ∨ j = 7 ∨ j = 8 ∨ j = 9 ∨ j = 10 ∨ j = 11 ∨ j = 12 ∨ j = 13 ∨ j = 14 ∨ j = 15 ∨ j = 16 ∨ j = 17 ∨ j = 18 ∨ j = 19 ∨ j = 20 ∨ j = 21 ∨ j = 22 ∨ j = 23 ∨ j = 24 by omega) with rfl | rfl | rfl | rfl | rfl | rfl | rfl | rfl | rfl | rfl | rfl | rfl | rfl | rfl | rfl | rfl | rfl | rfl | rfl | rfl | rfl | rfl | rfl | rfl | rfl <;> rfl) (Nat.le_of_ble_eq_true rfl) (Nat.le_of_ble_eq_true rfl) dL_law_8 (fun H hz hH => ?_)
  obtain ⟨E8, hE8⟩ : ∃ X, X = va_up E4 (b + 124) (.inr (6, [.int 0, .null, .int 0, .int 0, .null, .null, .int 0, .int 0, .int 0, .null, .null, .int 0, .null, .null, .int 0, .int 0, .int 0, .int 0, .null, .int 0, .long 0, .long 0, .long 0, .int 0, .long 0])) := ⟨_, rfl⟩
  have hz : PS (dC, dI) vwCl (tys3 cJ cI cR) b 125 s E8 H locs := by rw [hE8]; exact hz
  have hH : H.size = b + 125 := hH
  refine lv_dup hx hb dL_law_11 rfl ?_
  refine pw_callm hz (va_runI (As := []) (rest := [.ref (b + 124)]) ⟨hx, hb, hml, hown, hts⟩ (c_Model_new l (dC, dI) cJ cI cR b _ H.size 124 hH (by rw [hE8]; exact va_up_self _ _ _)) (cwI 0 hts gL_law_X7_init rfl rfl rfl (hts0 (.initialized RX7) (by decide +kernel)) (hts0 (.methodLink RL 48 yX7_init) (by decide +kernel)) (hts0 (.instanceMethod yX7_init) (by decide +kernel)) rfl (by decide +kernel) ⟨Nat.le_of_ble_eq_true rfl, Nat.le_of_ble_eq_true rfl⟩) hz.preS rfl rfl hl.1 rfl (lv_room (Nat.le_of_ble_eq_true rfl)) dL_law_12 ⟨Nat.le_of_ble_eq_true rfl, Nat.le_of_ble_eq_true rfl⟩) (fun E12 H locs hp hz hH => ?_)
  have hz : PS (dC, dI) vwCl (tys3 cJ cI cR) b 133 s E12 H locs := hz
  have hH : H.size = b + 133 := hH
  obtain ⟨hM, hk12⟩ := hp
  refine lv_astore_n (lv' := [(2, .ref (b + 124)), (1, .ref b), (0, .ref sb)]) hx hb dL_law_15 rfl hl (by decide) rfl (fun ls hl => ?_)
  refine lv_iconst (v := 1) hx hb dL_law_16 (by decide) ?_
  refine pw_newa (atype := .long) (ty := .long) (N' := 1) (a0 := (1, .inr (.inl (fun _ => 0)))) hx hb (hts0 (.arrayClass .long) (by decide +kernel)) rfl hz hH 0 rfl (fun _ h => by cases h) (fun cA => by rw [vp_cell_l]; rfl) (by decide +kernel) (by decide +kernel) (by show 1 * 8 ≤ 536870912; omega) (Nat.le_of_ble_eq_true rfl) (Nat.le_of_ble_eq_true rfl) dL_law_17 (fun H hz hH => ?_)
  obtain ⟨E17, hE17⟩ : ∃ X, X = va_up E12 (b + 133) (outA cJ (fun _ => 0)) := ⟨_, rfl⟩
  have hz : PS (dC, dI) vwCl (tys3 cJ cI cR) b 134 s E17 H locs := by rw [hE17]; exact hz
  have hO : E17 (b + 133) = outA cJ (fun _ => 0) := by rw [hE17]; exact va_up_self _ _ _
  have hk17 : ∀ q, q < b + 133 → E17 q = E12 q := fun q h => by rw [hE17]; exact va_up_ne _ _ (by omega)
  have hF : deskAt cJ cI cR b E17 := hF.keep (fun q h1 h2 => (hk17 q (by omega)).trans ((hk12 q (by omega)).trans (by rw [hE8]; exact va_up_ne _ _ (by omega))))
  have hM : modelAt cJ cI (b + 124) E17 := by
    obtain ⟨m0, m1, m2, m3, m4, m5, m6, m7, m8⟩ := hM
    exact ⟨(hk17 _ (by omega)).trans m0, (hk17 _ (by omega)).trans m1, (hk17 _ (by omega)).trans m2, (hk17 _ (by omega)).trans m3, (hk17 _ (by omega)).trans m4, (hk17 _ (by omega)).trans m5, (hk17 _ (by omega)).trans m6, (hk17 _ (by omega)).trans m7, (hk17 _ (by omega)).trans m8⟩
  refine lv_astore_n (lv' := [(3, .ref (b + 133)), (2, .ref (b + 124)), (1, .ref b), (0, .ref sb)]) hx hb dL_law_19 rfl hl (by decide) rfl (fun ls hl => ?_)
  refine lv_iconst (v := 0) hx hb dL_law_20 (by decide) ?_
  refine lv_istore (lv' := [(4, .int 0), (3, .ref (b + 133)), (2, .ref (b + 124)), (1, .ref b), (0, .ref sb)]) hx hb dL_law_21 hl (by decide) rfl (fun ls hl => ?_)
  refine W.widen (k := 200 + 0) (n := 3000 + 6 * 0) (by decide) (by decide) ?_
  have hok := ok_all hF hM hO
  have hzz : SS (K0 l (dC, dI) cJ cI cR b) s (I0 b) (L0 b) A0 H locs := SS_first hz hok
  exact law_loop (K := K0 l (dC, dI) cJ cI cR b) hst K0_ok C0 hbs sh_ShB hL 513 0 _ _ _ H locs ls rfl (Gd_first _ rfl (sh_ShB (l := l) (D := (dC, dI)) (cJ := cJ) (cI := cI) (cR := cR))) hzz hl
