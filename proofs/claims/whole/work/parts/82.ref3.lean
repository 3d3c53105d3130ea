/-! THE REFERENCE: get, add, multiply, derive -/
section
variable {K : Cx} {I : TI} {L : TL} {A : TA}
/-- which way a check went -/
theorem way0 {v : Int32} {p : Prop} (h : (v = 1 ∧ p) ∨ (v = 0 ∧ ¬ p)) (z : v = 0) : ¬ p := by
  rcases h with ⟨h1, -⟩ | ⟨-, h1⟩
  · rw [h1] at z; exact absurd z (by decide)
  · exact h1
theorem way1 {v : Int32} {p : Prop} (h : (v = 1 ∧ p) ∨ (v = 0 ∧ ¬ p)) (z : ¬ v = 0) : p := by
  rcases h with ⟨-, h1⟩ | ⟨h1, -⟩
  · exact h1
  · exact absurd h1 z
theorem m_get {m : Nat} {i k : Int32} {P : Nat → PP} (hm : isX7 K m) (hs : RSlots m L P) : ConI K yX7_get wsX7_get 1 22 I L A [.ref m, .int i, .int k] (fun v I' L' A' => ((okS i ∧ okI k 0 6) ∧ v.toInt = P (ix i) (ix k) ∧ I' = u2 I m 0 0 ∧ L' = L ∧ A' = A) ∨ (¬ (okS i ∧ okI k 0 6) ∧ I' = u2 I m 0 1 ∧ L' = L ∧ A' = A)) := by
  have no : ¬ (okS i ∧ okI k 0 6) → wp_X7_get_22 K m i k I L A m (fun v I' L' A' => ((okS i ∧ okI k 0 6) ∧ v.toInt = P (ix i) (ix k) ∧ I' = u2 I m 0 0 ∧ L' = L ∧ A' = A) ∨ (¬ (okS i ∧ okI k 0 6) ∧ I' = u2 I m 0 1 ∧ L' = L ∧ A' = A)) := by
    intro hn
    unfold wp_X7_get_22 wp_X7_get_23
    refine ⟨hm.1, _, m_refused hm (Or.inr rfl), ?_⟩
    rintro v I1 L1 A1 ⟨rfl, rfl, rfl, rfl⟩
    exact ⟨fun z => absurd z (by decide), fun _ => Or.inr ⟨hn, rfl, rfl, rfl⟩⟩
  apply w_X7_get
  unfold wp_X7_get
  refine ⟨_, m_isSlot, ?_⟩
  rintro v I1 L1 A1 ⟨h1, rfl, rfl, rfl⟩
  refine ⟨fun z => no (fun w => way0 h1 z w.1), fun z => ⟨_, m_isIn, ?_⟩⟩
  have hi := way1 h1 z
  rintro v I2 L2 A2 ⟨h2, rfl, rfl, rfl⟩
  refine ⟨fun z => no (fun w => way0 h2 z w.2), fun z => ?_⟩
  have hk := way1 h2 z
  obtain ⟨s, hs8, rfl⟩ := okS_n hi
  have hk6 : 0 ≤ k.toInt ∧ k.toInt ≤ 6 := hk
  obtain ⟨t, ht⟩ : ∃ t : Nat, k.toInt = t := ⟨k.toInt.toNat, by omega⟩
  have hix := rix (show s < 30 by omega) (show t < 8 by omega) (x := nI s) rfl ht
  unfold wp_X7_get_23
  refine ⟨hm.1, _, m_refused hm (Or.inl rfl), ?_⟩
  rintro v I4 L4 A4 ⟨rfl, rfl, rfl, rfl⟩
  refine ⟨fun _ => ⟨hm.1, rok hm (by omega) (by omega) hix, Or.inl ⟨⟨hi, hk⟩, ?_, rfl, rfl, rfl⟩⟩, fun w => absurd rfl w⟩
  rw [ix_of hix, ixn (by omega), ix_of ht, ← (hs s hs8).1, Int64.toInt_toInt32, ← rp_lt (by omega)]
  have b := (hs s hs8).2.2 t
  rw [(hs s hs8).1]
  exact Int.bmod_eq_of_le (by omega) (by omega)
/-- what a call that changes a slot does on the reference's side: rel says answer and slots -/
def refP (m : Nat) (ok : Prop) (rel : Int32 → (Nat → PP) → Prop) (I : TI) (L : TL) (A : TA) : Int32 → TI → TL → TA → Prop := fun v I' L' A' => (ok ∧ (∃ P', rel v P' ∧ RSlots m L' P') ∧ I' m 0 = 0 ∧ FrM m I I' L L' ∧ A' = A) ∨ (¬ ok ∧ I' = u2 I m 0 1 ∧ L' = L ∧ A' = A)
theorem no8 : ∀ j, j < 8 → ¬ j = 8 := fun j hj => by omega
set_option maxHeartbeats 1000000 in
theorem m_add {m : Nat} {t a b p q : Int32} {P : Nat → PP} (hm : isX7 K m) (hs : RSlots m L P) : ConI K yX7_add wsX7_add 2 46 I L A [.ref m, .int t, .int a, .int b, .int p, .int q] (refP m (okS t ∧ okS a ∧ okS b ∧ okI p (-10) 10 ∧ okI q (-10) 10) (fun v P' => keepA P (ix t) (pa (pc p.toInt (P (ix a))) (pc q.toInt (P (ix b)))) v P') I L A) := by
  have no : ¬ (okS t ∧ okS a ∧ okS b ∧ okI p (-10) 10 ∧ okI q (-10) 10) → wp_X7_add_49 K m t a b p q I L A (refP m (okS t ∧ okS a ∧ okS b ∧ okI p (-10) 10 ∧ okI q (-10) 10) (fun v P' => keepA P (ix t) (pa (pc p.toInt (P (ix a))) (pc q.toInt (P (ix b)))) v P') I L A) := by
    intro hn
    unfold wp_X7_add_49 wp_X7_add_50 wp_X7_add_63
    refine ⟨fun _ => ⟨hm.1, _, m_refused hm (Or.inr rfl), ?_⟩, fun z => absurd rfl z⟩
    rintro v I1 L1 A1 ⟨rfl, rfl, rfl, rfl⟩
    exact ⟨fun z => absurd z (by decide), fun _ => Or.inr ⟨hn, rfl, rfl, rfl⟩⟩
  apply w_X7_add
  unfold wp_X7_add
  refine ⟨_, m_isSlot, ?_⟩
  rintro v I1 L1 A1 ⟨h1, rfl, rfl, rfl⟩
  refine ⟨fun z => no (fun w => way0 h1 z w.1), fun z => ⟨_, m_isSlot, ?_⟩⟩
  have ht := way1 h1 z
  rintro v I1 L1 A1 ⟨h1, rfl, rfl, rfl⟩
  refine ⟨fun z => no (fun w => way0 h1 z w.2.1), fun z => ⟨_, m_isSlot, ?_⟩⟩
  have ha := way1 h1 z
  rintro v I1 L1 A1 ⟨h1, rfl, rfl, rfl⟩
  refine ⟨fun z => no (fun w => way0 h1 z w.2.2.1), fun z => ⟨_, m_isIn, ?_⟩⟩
  have hb := way1 h1 z
  rintro v I1 L1 A1 ⟨h1, rfl, rfl, rfl⟩
  refine ⟨fun z => no (fun w => way0 h1 z w.2.2.2.1), fun z => ⟨_, m_isIn, ?_⟩⟩
  have hp := way1 h1 z
  rintro v I1 L1 A1 ⟨h1, rfl, rfl, rfl⟩
  refine ⟨fun z => no (fun w => way0 h1 z w.2.2.2.2), fun z => ?_⟩
  have hq := way1 h1 z
  have hok : okS t ∧ okS a ∧ okS b ∧ okI p (-10) 10 ∧ okI q (-10) 10 := ⟨ht, ha, hb, hp, hq⟩
  clear no h1 z
  have hp10 : -10 ≤ p.toInt ∧ p.toInt ≤ 10 := hp
  have hq10 : -10 ≤ q.toInt ∧ q.toInt ≤ 10 := hq
  obtain ⟨t, ht8, rfl⟩ := okS_n ht
  obtain ⟨a, ha8, rfl⟩ := okS_n ha
  obtain ⟨b, hb8, rfl⟩ := okS_n hb
  rw [ixn (by omega), ixn (by omega), ixn (by omega)]
  unfold wp_X7_add_50 wp_X7_add_63
  refine ⟨fun z => absurd z (by decide), fun _ => ⟨hm.1, _, m_refused hm (Or.inl rfl), ?_⟩⟩
  rintro v I2 L2 A2 ⟨rfl, rfl, rfl, rfl⟩
  refine ⟨fun _ => ?_, fun z => absurd rfl z⟩
  unfold wp_X7_add_74
  refine ⟨fun μ I' L' A' x => ∃ i, i + μ = 8 ∧ x = nI i ∧ I' = u2 I1 m 0 0 ∧ (∀ k, k < i → rp L' m 8 k = p.toInt * P a k + q.toInt * P b k) ∧ RU m (· = 8) L2 L' ∧ A' = A2, 8, ⟨0, rfl, rfl, rfl, fun k hk => absurd hk (Nat.not_lt_zero _), RU.refl _ _ _, rfl⟩, ?_⟩
  rintro μ C hC I' L' A' _ ⟨i, hi, rfl, rfl, h1, h2, rfl⟩
  have hs' := hs.ru h2 no8
  refine ⟨fun z => ⟨hm.1, _, m_finish hm hs' ht8, ?_⟩, fun z => ?_⟩
  · rw [ile, li8, tI (by omega)] at z
    rintro v I3 L3 A3 ⟨⟨P', hk, hS⟩, hru, rfl, rfl⟩
    have hR : rp L' m 8 = pa (pc p.toInt (P a)) (pc q.toInt (P b)) := funext fun k => by
      show _ = p.toInt * P a k + q.toInt * P b k
      by_cases y : k < 8
      · exact h1 k (by omega)
      · rw [rp, if_neg y, (hs a ha8).2.1 k (by omega), (hs b hb8).2.1 k (by omega)]; simp
    rw [hR] at hk
    exact Or.inl ⟨hok, ⟨P', hk, hS⟩, u2_self _ _ _ _, fr_0 ((h2.mono (fun r hr => (show r < 9 by omega))).trans (hru.mono (fun r hr => (show r < 9 by omega)))), rfl⟩
  · rw [ile, li8, tI (by omega)] at z
    have hix := six4 (show i < 8 by omega) (x := nI i) rfl
    have hixa := rix (show a < 30 by omega) (show i < 8 by omega) (x := nI a) rfl (tI (k := i) (by omega))
    have hixb := rix (show b < 30 by omega) (show i < 8 by omega) (x := nI b) rfl (tI (k := i) (by omega))
    refine ⟨hm.1, rok hm (show a < 30 by omega) (show i < 8 by omega) hixa, rok hm (show b < 30 by omega) (show i < 8 by omega) hixb, rok hm (show 8 < 30 by omega) (show i < 8 by omega) hix, fun L3 e3 v hv => ?_⟩
    rw [ix_of hix, ix_of hixa, ix_of hixb] at e3
    have ea : (L' (m + 1) (8 * a + i)).toInt = P a i := by rw [← rp_lt (by omega), (hs' a ha8).1]
    have eb : (L' (m + 1) (8 * b + i)).toInt = P b i := by rw [← rp_lt (by omega), (hs' b hb8).1]
    have ba := (hs a ha8).2.2 i
    have bb := (hs b hb8).2.2 i
    refine hC (μ - 1) _ _ _ _ (by omega) ⟨i + 1, by omega, by rw [hv, sI], rfl, fun k hk => ?_, h2.trans (by rw [e3]; exact u2_ru (by omega)), rfl⟩
    rw [rp_lt (by omega), e3]
    by_cases y : k = i
    · subst y
      have m1 : (Int32.toInt64 p * L' (m + 1) (8 * a + k)).toInt = p.toInt * P a k := by rw [jmulB (m := 10) (n := 300) (by rw [Int32.toInt_toInt64]; omega) (by rw [ea]; omega) (by decide), Int32.toInt_toInt64, ea]
      have m2 : (Int32.toInt64 q * L' (m + 1) (8 * b + k)).toInt = q.toInt * P b k := by rw [jmulB (m := 10) (n := 300) (by rw [Int32.toInt_toInt64]; omega) (by rw [eb]; omega) (by decide), Int32.toInt_toInt64, eb]
      have c1 := mul_ab (show p.toInt.natAbs ≤ 10 by omega) (show (P a k).natAbs ≤ 300 by omega)
      have c2 := mul_ab (show q.toInt.natAbs ≤ 10 by omega) (show (P b k).natAbs ≤ 300 by omega)
      rw [u2_self, jadd (by rw [m1, m2]; omega) (by rw [m1, m2]; omega), m1, m2]
    · rw [u2_ne _ _ (fun w => y (by omega)), ← rp_lt (by omega)]
      exact h1 k (by omega)
end
