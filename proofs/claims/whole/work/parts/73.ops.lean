/-! THE DESK: set, get, add, multiply, derive, divide, common -/
section
variable {K : Cx} {I : TI} {L : TL} {A : TA}
theorem Slots.b {x : Nat} {P : Nat → PP} (h : Slots x I L A P) {j : Nat} (hj : j < 8) (k : Nat) : (pl L (sl x j) k).natAbs ≤ 300 := by
  rw [(h j hj).2.2.1]; have := (h j hj).2.2.2.2 k; omega
theorem fr_slot {x t : Nat} (ht : t < 8) {I' : TI} {L' : TL} (h : ChR (· = sl x t) I I' L L') : FrD x I I' L L' := h.fr (fun r hr => by have := sl_bd (x := x) ht; omega)
theorem fr_18 {x : Nat} {I' : TI} {L' : TL} (h : ChR (· = x + 18) I I' L L') : FrD x I I' L L' := h.fr (fun r hr => by omega)
theorem no18 {x : Nat} : ∀ j, j < 8 → ¬ sl x j = x + 18 := fun j hj => by have := sl_bd (x := x) hj; omega
/-- set -/
def setA (P : Nat → PP) (s k : Nat) (c : Int) : Nat → PP := upP P s (fun i => if i = k then c else P s i)
theorem s_set {x s k : Nat} {c : Int32} {P : Nat → PP} (hx : isX6 K x) (hs : Slots x I L A P) (h1 : s < 8) (h2 : k < 7) (h3 : -300 ≤ c.toInt) (h4 : c.toInt ≤ 300) : ConI K yX6_set wsX6_set 2 61 I L A [.ref x, .int (nI s), .int (nI k), .int c] (fun v I' L' A' => v = dgA (setA P s k c.toInt s) ∧ Slots x I' L' A (setA P s k c.toInt) ∧ FrD x I I' L L' ∧ A' = A) := by
  apply w_X6_set
  unfold wp_X6_set
  refine ⟨_, s_checkSlot h1, ?_⟩
  rintro I1 L1 A1 ⟨rfl, rfl, rfl⟩
  refine ⟨_, s_checkPlace h2, ?_⟩
  rintro I1 L1 A1 ⟨rfl, rfl, rfl⟩
  refine ⟨_, s_checkWithin (by decide) (by rw [li300]; omega) (by rw [li300]; omega), ?_⟩
  rintro I1 L1 A1 ⟨rfl, rfl, rfl⟩
  have hr := hx.2.2.1 s h1
  rw [ixn (by omega), (hs s h1).1]
  refine ⟨hx.1, hx.slot h1 rfl, hr.1, hr.ok (by omega), fun L2 e2 => ⟨hx.slot h1 rfl, ?_⟩⟩
  rw [ixn (by omega)] at e2
  refine ⟨_, s_settle hr, ?_⟩
  rintro I3 L3 A3 ⟨rfl, rfl, rfl⟩
  rw [(hs s h1).1]
  refine ⟨hx.slot h1 rfl, hr.1, ?_⟩
  have hpl : pl L3 (sl x s) = fun i => if i = k then c.toInt else P s i := funext fun i => by
    rw [← (hs s h1).2.2.1]
    by_cases w : i < 13
    · rw [pl_lt w, e2]
      by_cases y : i = k
      · rw [if_pos y, y, u2_self, Int32.toInt_toInt64]
      · rw [if_neg y, u2_ne _ _ (fun t => y t.2), pl_lt w]
    · rw [pl, if_neg w, if_neg (by omega), pl, if_neg w]
  have hsm : sm7 (fun i => if i = k then c.toInt else P s i) := ⟨fun i hi => by simp only; rw [if_neg (by omega)]; exact (hs s h1).2.2.2.1 i hi, fun i => by
    simp only
    split
    · omega
    · exact (hs s h1).2.2.2.2 i⟩
  have hc : ChR (· = sl x s) I1 (u2 I1 (sl x s) 1 (tpI (ln (L3 (sl x s + 1)) 13))) L1 L3 := ⟨fun y hy => u2_off _ _ hy, fun y hy => by rw [e2, u2_off _ _ (hy _ rfl)]⟩
  have hn := rn_ln (I := u2 I1 (sl x s) 1 (tpI (ln (L3 (sl x s + 1)) 13))) (u2_self _ _ _ _)
  have hS := hs.up hx hc hn hpl hsm
  refine ⟨?_, hS, fr_slot h1 hc, rfl⟩
  have := (hS s h1).2.1.1.1
  exact this
/-- get -/
theorem s_get {x s k : Nat} {P : Nat → PP} (hx : isX6 K x) (hs : Slots x I L A P) (h1 : s < 8) (h2 : k < 7) : ConI K yX6_get wsX6_get 2 60 I L A [.ref x, .int (nI s), .int (nI k)] (fun v I' L' A' => v.toInt = P s k ∧ I' = I ∧ L' = L ∧ A' = A) := by
  apply w_X6_get
  unfold wp_X6_get
  refine ⟨_, s_checkSlot h1, ?_⟩
  rintro I1 L1 A1 ⟨rfl, rfl, rfl⟩
  refine ⟨_, s_checkPlace h2, ?_⟩
  rintro I1 L1 A1 ⟨rfl, rfl, rfl⟩
  have hr := hx.2.2.1 s h1
  rw [ixn (by omega), (hs s h1).1]
  refine ⟨hx.1, hx.slot h1 rfl, hr.1, hr.ok (by omega), ?_, rfl, rfl, rfl⟩
  rw [ixn (by omega)]
  have e := congrFun (hs s h1).2.2.1 k
  rw [pl_lt (by omega)] at e
  have b := (hs s h1).2.2.2.2 k
  rw [Int64.toInt_toInt32, e]
  exact Int.bmod_eq_of_le (by omega) (by omega)
theorem keep_fr {x t : Nat} (ht : t < 8) {I1 I2 : TI} {L1 L2 : TL} (h1 : FrD x I I1 L L1) (h2 : ChR (· = sl x t) I1 I2 L1 L2) : FrD x I I2 L L2 := h1.trans (fr_slot ht h2)
/-- add -/
theorem s_add {x t a b : Nat} {p q : Int32} {P : Nat → PP} (hx : isX6 K x) (hs : Slots x I L A P) (ht : t < 8) (ha : a < 8) (hb : b < 8) (hp : -10 ≤ p.toInt ∧ p.toInt ≤ 10) (hq : -10 ≤ q.toInt ∧ q.toInt ≤ 10) : ConI K yX6_add wsX6_add 3 82 I L A [.ref x, .int (nI t), .int (nI a), .int (nI b), .int p, .int q] (fun v I' L' A' => (∃ P', keepA P t (pa (pc p.toInt (P a)) (pc q.toInt (P b))) v P' ∧ Slots x I' L' A P') ∧ FrD x I I' L L' ∧ A' = A) := by
  apply w_X6_add
  unfold wp_X6_add
  refine ⟨_, s_checkThreeSlots ht ha hb, ?_⟩
  rintro I1 L1 A1 ⟨rfl, rfl, rfl⟩
  refine ⟨_, s_checkWithin (by decide) (by rw [show (10 : Int32).toInt = 10 from by decide]; omega) (by rw [show (10 : Int32).toInt = 10 from by decide]; omega), ?_⟩
  rintro I1 L1 A1 ⟨rfl, rfl, rfl⟩
  refine ⟨_, s_checkWithin (by decide) (by rw [show (10 : Int32).toInt = 10 from by decide]; omega) (by rw [show (10 : Int32).toInt = 10 from by decide]; omega), ?_⟩
  rintro I1 L1 A1 ⟨rfl, rfl, rfl⟩
  rw [ixn (k := a) (by omega), ixn (k := b) (by omega), (hs a ha).1, (hs b hb).1]
  refine ⟨hx.1, hx.slot ha rfl, hx.slot hb rfl, hx.2.2.2.1.1, _, s_becomeSum hx.2.2.2.1 (hx.2.2.1 a ha) (hx.2.2.1 b hb), ?_⟩
  rintro I2 L2 A2 ⟨hr, hc, rfl⟩
  have hS := hs.ch hx hc no18
  have hpl : pl L2 (x + 18) = pa (pc p.toInt (P a)) (pc q.toInt (P b)) := funext fun k => by
    show _ = p.toInt * P a k + q.toInt * P b k
    have ea := congrFun (hs a ha).2.2.1 k
    have eb := congrFun (hs b hb).2.2.1 k
    by_cases w : k < 13
    · rw [pl_lt w] at ea eb
      have ba := (hs a ha).2.2.2.2 k
      have bb := (hs b hb).2.2.2.2 k
      have m1 : (Int32.toInt64 p * L1 (sl x a + 1) k).toInt = p.toInt * P a k := by rw [jmulB (m := 10) (n := 300) (by rw [Int32.toInt_toInt64]; omega) (by rw [ea]; omega) (by decide), Int32.toInt_toInt64, ea]
      have m2 : (Int32.toInt64 q * L1 (sl x b + 1) k).toInt = q.toInt * P b k := by rw [jmulB (m := 10) (n := 300) (by rw [Int32.toInt_toInt64]; omega) (by rw [eb]; omega) (by decide), Int32.toInt_toInt64, eb]
      have c1 := mul_ab (show p.toInt.natAbs ≤ 10 by omega) (show (P a k).natAbs ≤ 300 by omega)
      have c2 := mul_ab (show q.toInt.natAbs ≤ 10 by omega) (show (P b k).natAbs ≤ 300 by omega)
      rw [pl_lt w, hr.1 k w]
      show (Int32.toInt64 p * L1 (sl x a + 1) k + Int32.toInt64 q * L1 (sl x b + 1) k).toInt = _
      rw [jadd (by rw [m1, m2]; omega) (by rw [m1, m2]; omega), m1, m2]
    · rw [pl, if_neg w, (hs a ha).2.2.2.1 k (by omega), (hs b hb).2.2.2.1 k (by omega)]; simp
  refine ⟨_, s_keepResult hx hS ht hr.rn, ?_⟩
  rintro v I3 L3 A3 ⟨⟨P', hk, hS'⟩, hc3, rfl⟩
  rw [hpl] at hk
  exact ⟨⟨P', hk, hS'⟩, keep_fr ht (fr_18 hc) hc3, rfl⟩
/-- multiply -/
theorem s_multiply {x t a b : Nat} {P : Nat → PP} (hx : isX6 K x) (hs : Slots x I L A P) (ht : t < 8) (ha : a < 8) (hb : b < 8) : ConI K yX6_multiply wsX6_multiply 3 82 I L A [.ref x, .int (nI t), .int (nI a), .int (nI b)] (fun v I' L' A' => (∃ P', keepA P t (pm (P a) (P b)) v P' ∧ Slots x I' L' A P') ∧ FrD x I I' L L' ∧ A' = A) := by
  apply w_X6_multiply
  unfold wp_X6_multiply
  refine ⟨_, s_checkThreeSlots ht ha hb, ?_⟩
  rintro I1 L1 A1 ⟨rfl, rfl, rfl⟩
  rw [ixn (k := a) (by omega), ixn (k := b) (by omega), (hs a ha).1, (hs b hb).1]
  refine ⟨hx.1, hx.slot ha rfl, hx.slot hb rfl, hx.2.2.2.1.1, _, s_becomeProduct (M := 300) (N := 300) hx.2.2.2.1 (hx.2.2.1 a ha) (hx.2.2.1 b hb) (fun e => no18 a ha e.symm) (fun e => no18 b hb e.symm) (hs a ha).2.1.1 (hs b hb).2.1.1 (hs.b ha) (hs.b hb) (by decide), ?_⟩
  rintro I2 L2 A2 ⟨hv, hI, hc, rfl⟩
  have hS := hs.ch hx hc no18
  have hpl : pl L2 (x + 18) = pm (P a) (P b) := funext fun k => by
    rw [← (hs a ha).2.2.1, ← (hs b hb).2.2.1]
    by_cases w : k < 13
    · rw [pl_lt w, hv k w]
    · rw [pl, if_neg w, pm_dl 6 _ _ 6 (by rw [(hs a ha).2.2.1]; exact (hs a ha).2.2.2.1) (by rw [(hs b hb).2.2.1]; exact (hs b hb).2.2.2.1) k (by omega)]
  refine ⟨_, s_keepResult hx hS ht (rn_ln hI), ?_⟩
  rintro v I3 L3 A3 ⟨⟨P', hk, hS'⟩, hc3, rfl⟩
  rw [hpl] at hk
  exact ⟨⟨P', hk, hS'⟩, keep_fr ht (fr_18 hc) hc3, rfl⟩
/-- the derivative -/
def drv (f : PP) : PP := fun k => ((k : Int) + 1) * f (k + 1)
theorem s_derive {x t a : Nat} {P : Nat → PP} (hx : isX6 K x) (hs : Slots x I L A P) (ht : t < 8) (ha : a < 8) : ConI K yX6_derive wsX6_derive 3 82 I L A [.ref x, .int (nI t), .int (nI a)] (fun v I' L' A' => (∃ P', keepA P t (drv (P a)) v P' ∧ Slots x I' L' A P') ∧ FrD x I I' L L' ∧ A' = A) := by
  apply w_X6_derive
  unfold wp_X6_derive
  refine ⟨_, s_checkSlot ht, ?_⟩
  rintro I1 L1 A1 ⟨rfl, rfl, rfl⟩
  refine ⟨_, s_checkSlot ha, ?_⟩
  rintro I1 L1 A1 ⟨rfl, rfl, rfl⟩
  rw [ixn (by omega), (hs a ha).1]
  refine ⟨hx.1, hx.slot ha rfl, hx.2.2.2.1.1, _, s_becomeSlope hx.2.2.2.1 (hx.2.2.1 a ha) (fun e => no18 a ha e.symm) (hs a ha).2.1.1, ?_⟩
  rintro I2 L2 A2 ⟨hr, hc, rfl⟩
  have hS := hs.ch hx hc no18
  have hpl : pl L2 (x + 18) = drv (P a) := funext fun k => by
    have ea := congrFun (hs a ha).2.2.1 (k + 1)
    unfold drv
    by_cases w : k < 13
    · rw [pl_lt w, hr.1 k w]
      by_cases w2 : k < 12
      · rw [pl_lt (by omega)] at ea
        have ba := (hs a ha).2.2.2.2 (k + 1)
        simp only [if_pos w2]
        rw [jmulB (m := 13) (n := 300) (by rw [Int32.toInt_toInt64, tI (by omega)]; omega) (by rw [ea]; omega) (by decide), Int32.toInt_toInt64, tI (by omega), ea]
        rfl
      · simp only [if_neg w2]
        rw [(hs a ha).2.2.2.1 (k + 1) (by omega)]; simp
    · rw [pl, if_neg w, (hs a ha).2.2.2.1 (k + 1) (by omega)]; simp
  refine ⟨_, s_keepResult hx hS ht hr.rn, ?_⟩
  rintro v I3 L3 A3 ⟨⟨P', hk, hS'⟩, hc3, rfl⟩
  rw [hpl] at hk
  exact ⟨⟨P', hk, hS'⟩, keep_fr ht (fr_18 hc) hc3, rfl⟩
/-- divide -/
def divA (P : Nat → PP) (t a b : Nat) (v : Int32) (P' : Nat → PP) : Prop := (P b = p0 ∧ v = -3 ∧ P' = P) ∨ (P b ≠ p0 ∧ ∃ q, Pf q ∧ pm (P b) q = P a ∧ keepA P t q v P') ∨ (P b ≠ p0 ∧ ¬ dv (P b) (P a) ∧ v = -1 ∧ P' = P)
theorem len_0 {f : PP} (h : dl f 7) : lnP f 7 = 0 ↔ f = p0 := by
  refine ⟨fun e => ?_, fun e => by rw [e]; rfl⟩
  by_cases q : f = p0
  · exact q
  · obtain ⟨d, hd1, hd2, hd3⟩ := dg_ex f 7 h q
    rw [lnP_of hd3 (fun e he => by rw [show e = d by omega]; exact hd2) (by omega)] at e
    omega
theorem quo_ex {a b q : PP} (ha : sm7 a) (hb : b ≠ p0) (hbf : Pf b) (hq : Pf q) (e : pm b q = a) : quo a b q := by
  refine ⟨hq, e, fun k => ?_⟩
  by_cases z : a = p0
  · rcases pm_ne hbf hq (e.trans z) with w | w
    · exact absurd w hb
    · rw [w]; simp [p0]
  · have := (div_le hq hbf ha z (by rw [← e]; funext i; rw [pm_comm])).2 k
    omega
theorem s_divide {x t a b : Nat} {P : Nat → PP} (hx : isX6 K x) (hs : Slots x I L A P) (ht : t < 8) (ha : a < 8) (hb : b < 8) : ConI K yX6_divide wsX6_divide 3 92 I L A [.ref x, .int (nI t), .int (nI a), .int (nI b)] (fun v I' L' A' => (∃ P', divA P t a b v P' ∧ Slots x I' L' A P') ∧ FrD x I I' L L' ∧ A' = A) := by
  apply w_X6_divide
  unfold wp_X6_divide
  refine ⟨_, s_checkThreeSlots ht ha hb, ?_⟩
  rintro I1 L1 A1 ⟨rfl, rfl, rfl⟩
  rw [ixn (k := a) (by omega), ixn (k := b) (by omega), (hs a ha).1, (hs b hb).1]
  have hrb := hx.2.2.1 b hb
  have hra := hx.2.2.1 a ha
  have hnb := (hs b hb).2.1
  have hlen := hnb.1.2.1
  have hb18 := no18 (x := x) b hb
  have ha18 := no18 (x := x) a ha
  have bda := sl_bd (x := x) ha
  have bdb := sl_bd (x := x) hb
  refine ⟨hx.1, hx.slot hb rfl, hrb.1, fun q => ⟨hx.slot ha rfl, hx.slot hb rfl, hx.2.2.2.1.1, ?_⟩, fun q => ?_⟩
  · rw [hnb.1.1, ile, li0, tm1 (by omega)] at q
    obtain ⟨e, he⟩ : ∃ e, lnP (P b) 7 = e + 1 := ⟨lnP (P b) 7 - 1, by omega⟩
    rw [he] at hnb
    have hb0 : P b ≠ p0 := fun z => by rw [z] at he; cases he
    refine ⟨_, s_becomeQuotient (MA := 300) (MB := 300) hx.2.2.2.1 hra hrb hx.2.2.2.2.1 (fun z => ha18 z.symm) (fun z => hb18 z.symm) (by omega) (by omega) (by omega) (hs a ha).2.1.1 hnb.1 (hnb.2 e rfl) (hs.b ha) (hs.b hb) (by omega) (by omega), ?_⟩
    rintro r I2 L2 A2 ⟨hr, -, -, hc, rfl⟩
    have hS := hs.ch hx hc (fun j hj z => by have := sl_bd (x := x) hj; omega)
    have hfr : FrD x I1 I2 L1 L2 := hc.fr (fun r hr => by omega)
    rw [(hs a ha).2.2.1, (hs b hb).2.2.1] at hr
    refine ⟨fun z => ?_, fun z => ?_⟩
    · rcases hr with ⟨h1, -⟩ | ⟨-, h1⟩
      · rw [h1] at z; exact absurd z (by decide)
      · refine ⟨⟨P, Or.inr (Or.inr ⟨hb0, fun ⟨w, hw, ew⟩ => h1 w (quo_ex (hs a ha).2.2.2 hb0 ⟨7, (hs b hb).2.2.2.1⟩ hw ew), rfl, rfl⟩), hS⟩, hfr, rfl⟩
    · rcases hr with ⟨-, h1, h2⟩ | ⟨h1, -⟩
      · refine ⟨_, s_keepResult hx hS ht (rn_ln h2), ?_⟩
        rintro v I3 L3 A3 ⟨⟨P', hk, hS'⟩, hc3, rfl⟩
        exact ⟨⟨P', Or.inr (Or.inl ⟨hb0, _, h1.1, h1.2.1, hk⟩), hS'⟩, keep_fr ht hfr hc3, rfl⟩
      · exact absurd h1 z
  · rw [hnb.1.1, ile, li0, tm1 (by omega)] at q
    exact ⟨⟨P, Or.inl ⟨(len_0 (hs b hb).2.2.2.1).mp (by omega), rfl, rfl⟩, hs⟩, FrD.refl _ _ _, rfl⟩
end
