/-! THE DESK: its slots as polynomials -/
section
variable {K : Cx} {I : TI} {L : TL} {A : TA}
/-- the place of slot j's row -/
abbrev sl (x j : Nat) : Nat := x + 2 + 2 * j
theorem sl_ne {x j s : Nat} (h : j ≠ s) : ¬ sl x j = sl x s := by unfold sl; omega
theorem sl_bd {x t : Nat} (h : t < 8) : x + 2 ≤ sl x t ∧ sl x t + 1 < x + 18 := by unfold sl; omega
abbrev isX6 (K : Cx) (x : Nat) : Prop := cxS K x = shX6 x ∧ cxS K (x + 1) = .inr (2, 8) ∧ (∀ j, j < 8 → isRow K (sl x j)) ∧ isRow K (x + 18) ∧ isRow K (x + 20) ∧ isRow K (x + 22) ∧ isX0 K (x + 40)
/-- the degree as Java's int -/
def lnP (f : PP) : Nat → Nat
  | 0 => 0
  | n + 1 => if f n = 0 then lnP f n else n + 1
abbrev dgA (f : PP) : Int32 := tpI (lnP f 7)
theorem lnP_0 {f : PP} {d : Nat} (hd : dl f d) : ∀ n, d ≤ n → lnP f n = lnP f d
  | 0, h => by rw [show d = 0 by omega]
  | n + 1, h => by
    by_cases e : d = n + 1
    · rw [e]
    · rw [lnP, if_pos (hd n (by omega)), lnP_0 hd n (by omega)]
theorem lnP_of {f : PP} {d : Nat} (hd : dl f d) (h : ∀ e, d = e + 1 → f e ≠ 0) {n : Nat} (hn : d ≤ n) : lnP f n = d := by
  rw [lnP_0 hd n hn]
  rcases d with _ | e
  · rfl
  · rw [lnP, if_neg (h e rfl)]
theorem RowN.lnP {r d : Nat} (h : RowN I L r d) {n : Nat} (hn : d ≤ n) : lnP (pl L r) n = d := lnP_of h.1.dl h.2 hn
/-- the slots hold P -/
def Slots (x : Nat) (I : TI) (L : TL) (A : TA) (P : Nat → PP) : Prop := ∀ j, j < 8 → A (x + 1) j = sl x j ∧ RowN I L (sl x j) (lnP (P j) 7) ∧ pl L (sl x j) = P j ∧ sm7 (P j)
/-- what an operation of the desk may write -/
def FrD (x : Nat) (I I' : TI) (L L' : TL) : Prop := ∀ y, ¬ (x + 2 ≤ y ∧ y < x + 24) → ¬ (x + 40 ≤ y ∧ y < x + 109) → I' y = I y ∧ L' y = L y
theorem FrD.refl (x : Nat) (I : TI) (L : TL) : FrD x I I L L := fun _ _ _ => ⟨rfl, rfl⟩
theorem FrD.trans {x : Nat} {I' I'' : TI} {L' L'' : TL} (h : FrD x I I' L L') (h' : FrD x I' I'' L' L'') : FrD x I I'' L L'' := fun y h1 h2 => ⟨(h' y h1 h2).1.trans (h y h1 h2).1, (h' y h1 h2).2.trans (h y h1 h2).2⟩
theorem ChM.fr {x : Nat} {S : Nat → Prop} {I' : TI} {L' : TL} (h : ChM S (x + 40 + 2) I I' L L') (hS : ∀ r, S r → (x + 2 ≤ r ∧ r + 1 < x + 24) ∨ (x + 40 ≤ r ∧ r + 1 < x + 109)) : FrD x I I' L L' := fun y h1 h2 =>
  ⟨h.1 y (fun q => by have := hS y q; omega), h.2 y (fun q => h2 (by omega)) (fun r q e => by have := hS r q; omega)⟩
theorem ChR.fr {x : Nat} {S : Nat → Prop} {I' : TI} {L' : TL} (h : ChR S I I' L L') (hS : ∀ r, S r → (x + 2 ≤ r ∧ r + 1 < x + 24) ∨ (x + 40 ≤ r ∧ r + 1 < x + 109)) : FrD x I I' L L' := (h.m (x + 40 + 2)).fr hS
/-- slots that nothing wrote -/
theorem Slots.chm {x : Nat} {P : Nat → PP} {S : Nat → Prop} {I' : TI} {L' : TL} (hx : isX6 K x) (h : Slots x I L A P) (hc : ChM S (x + 40 + 2) I I' L L') (hS : ∀ j, j < 8 → ¬ S (sl x j)) : Slots x I' L' A P := fun j hj => by
  obtain ⟨h1, h2, h3, h4⟩ := h j hj
  have ho := hx.2.2.2.2.2.2.2.1.1
  exact ⟨h1, h2.chm hc ho (hx.2.2.1 j hj) (hS j hj), (pl_keep (hc.l ho (hx.2.2.1 j hj) (hS j hj))).trans h3, h4⟩
theorem Slots.ch {x : Nat} {P : Nat → PP} {S : Nat → Prop} {I' : TI} {L' : TL} (hx : isX6 K x) (h : Slots x I L A P) (hc : ChR S I I' L L') (hS : ∀ j, j < 8 → ¬ S (sl x j)) : Slots x I' L' A P := h.chm hx (hc.m _) hS
/-- slot s gets f -/
def upP (P : Nat → PP) (s : Nat) (f : PP) : Nat → PP := fun j => if j = s then f else P j
theorem Slots.up {x s d : Nat} {P : Nat → PP} {f : PP} {I' : TI} {L' : TL} (hx : isX6 K x) (h : Slots x I L A P) (hc : ChR (· = sl x s) I I' L L') (hn : RowN I' L' (sl x s) d) (hf : pl L' (sl x s) = f) (hs : sm7 f) : Slots x I' L' A (upP P s f) := fun j hj => by
  by_cases e : j = s
  · subst e
    refine ⟨(h j hj).1, ?_, by rw [hf]; exact (if_pos rfl).symm, by unfold upP; rw [if_pos rfl]; exact hs⟩
    unfold upP
    rw [if_pos rfl, ← hf, hn.lnP (by
      rcases d with _ | e
      · omega
      · have := hn.dg; rw [hf] at this; have := this.lt hs.1; omega)]
    exact hn
  · obtain ⟨h1, h2, h3, h4⟩ := h j hj
    have hne : ¬ sl x j = sl x s := sl_ne e
    unfold upP
    rw [if_neg e]
    exact ⟨h1, h2.ch hc hne, (pl_keep (hc.l hne)).trans h3, h4⟩
theorem isX6.slot {x : Nat} (hx : isX6 K x) {j : Nat} (hj : j < 8) {i : Int32} (hi : i = nI j) : aok (cxS K) (x + 1) 2 i := ⟨8, hx.2.1, by rw [hi]; exact inOf (tI (by omega)) hj⟩
theorem li8 : (8 : Int32).toInt = 8 := by decide
theorem li300 : (300 : Int32).toInt = 300 := by decide
theorem s_checkSlot {j : Nat} (hj : j < 8) : ConV K yX6_checkSlot wsX6_checkSlot 1 40 I L A [.int (nI j)] (fun I' L' A' => I' = I ∧ L' = L ∧ A' = A) := by
  apply w_X6_checkSlot
  unfold wp_X6_checkSlot
  refine ⟨fun q => ?_, fun q => ⟨fun q2 => ⟨rfl, rfl, rfl⟩, fun q2 => ?_⟩⟩
  · rw [ilt, li0, tI (by omega)] at q; omega
  · rw [ilt, li8, tI (by omega)] at q2; omega
theorem s_checkPlace {k : Nat} (hk : k < 7) : ConV K yX6_checkPlace wsX6_checkPlace 1 40 I L A [.int (nI k)] (fun I' L' A' => I' = I ∧ L' = L ∧ A' = A) := by
  apply w_X6_checkPlace
  unfold wp_X6_checkPlace
  refine ⟨fun q => ?_, fun q => ⟨fun q2 => ⟨rfl, rfl, rfl⟩, fun q2 => ?_⟩⟩
  · rw [ilt, li0, tI (by omega)] at q; omega
  · rw [ile, show (6 : Int32).toInt = 6 from by decide, tI (by omega)] at q2; omega
theorem s_checkWithin {c l : Int32} (h0 : 0 ≤ l.toInt) (h1 : -l.toInt ≤ c.toInt) (h2 : c.toInt ≤ l.toInt) : ConV K yX6_checkWithin wsX6_checkWithin 1 40 I L A [.int c, .int l] (fun I' L' A' => I' = I ∧ L' = L ∧ A' = A) := by
  have hl := Int32.toInt_lt l
  have hneg : (-l).toInt = -l.toInt := by rw [Int32.toInt_neg]; exact Int.bmod_eq_of_le (by omega) (by omega)
  apply w_X6_checkWithin
  unfold wp_X6_checkWithin
  refine ⟨fun q => ?_, fun q => ⟨fun q2 => ⟨rfl, rfl, rfl⟩, fun q2 => ?_⟩⟩
  · rw [ilt, hneg] at q; omega
  · rw [ile] at q2; omega
theorem s_checkThreeSlots {i j k : Nat} (hi : i < 8) (hj : j < 8) (hk : k < 8) : ConV K yX6_checkThreeSlots wsX6_checkThreeSlots 2 60 I L A [.int (nI i), .int (nI j), .int (nI k)] (fun I' L' A' => I' = I ∧ L' = L ∧ A' = A) := by
  apply w_X6_checkThreeSlots
  unfold wp_X6_checkThreeSlots
  refine ⟨_, s_checkSlot hi, ?_⟩
  rintro I1 L1 A1 ⟨rfl, rfl, rfl⟩
  refine ⟨_, s_checkSlot hj, ?_⟩
  rintro I1 L1 A1 ⟨rfl, rfl, rfl⟩
  refine ⟨_, s_checkSlot hk, ?_⟩
  rintro I1 L1 A1 ⟨rfl, rfl, rfl⟩
  exact ⟨rfl, rfl, rfl⟩
/-- what is kept of a result: the answer and the slots -/
def keepA (P : Nat → PP) (t : Nat) (R : PP) (v : Int32) (P' : Nat → PP) : Prop := (sm7 R ∧ v = dgA R ∧ P' = upP P t R) ∨ (¬ sm7 R ∧ v = -2 ∧ P' = P)
set_option maxHeartbeats 1000000 in
theorem s_keepResult {x t d : Nat} {P : Nat → PP} (hx : isX6 K x) (hs : Slots x I L A P) (ht : t < 8) (hn : RowN I L (x + 18) d) : ConI K yX6_keepResult wsX6_keepResult 2 61 I L A [.ref x, .int (nI t)] (fun v I' L' A' => (∃ P', keepA P t (pl L (x + 18)) v P' ∧ Slots x I' L' A P') ∧ ChR (fun y => y = sl x t) I I' L L' ∧ A' = A) := by
  have hd := hn.1.2.1
  have h18 := hx.2.2.2.1
  apply w_X6_keepResult
  unfold wp_X6_keepResult
  refine ⟨hx.1, h18.1, fun q => ?_, fun q => ⟨_, s_isWithin h18 hn.1.1 hd (by decide), ?_⟩⟩
  · rw [hn.1.1, ilt, show (6 : Int32).toInt = 6 from by decide, tm1 (by omega)] at q
    refine ⟨⟨P, Or.inr ⟨fun z => ?_, rfl, rfl⟩, hs⟩, ChR.refl _ _ _, rfl⟩
    obtain ⟨e, rfl⟩ : ∃ e, d = e + 1 := ⟨d - 1, by omega⟩
    have := hn.dg.lt z.1
    omega
  · rw [hn.1.1, ilt, show (6 : Int32).toInt = 6 from by decide, tm1 (by omega)] at q
    have hd7 : d ≤ 7 := by omega
    rintro r I1 L1 A1 ⟨hr, rfl, rfl, rfl⟩
    rw [show (300 : Int64).toInt = 300 from by decide] at hr
    have hall : (∀ k, k < d → -300 ≤ (L1 (x + 18 + 1) k).toInt ∧ (L1 (x + 18 + 1) k).toInt ≤ 300) ↔ sm7 (pl L1 (x + 18)) := by
      refine ⟨fun h => ⟨dl_mono hn.1.dl hd7, fun k => ?_⟩, fun h k hk => ?_⟩
      · by_cases w : k < d
        · rw [pl_lt (by omega)]; exact h k w
        · rw [hn.1.dl k (by omega)]; omega
      · have := h.2 k
        rw [pl_lt (by omega)] at this; exact this
    refine ⟨fun z => ?_, fun z => ⟨hx.slot ht rfl, ?_, ?_⟩⟩
    · rcases hr with ⟨h1, -⟩ | ⟨-, k, hk1, hk2⟩
      · rw [h1] at z; exact absurd z (by decide)
      · exact ⟨⟨P, Or.inr ⟨fun w => hk2 (hall.mpr w k hk1), rfl, rfl⟩, hs⟩, ChR.refl _ _ _, rfl⟩
    · rw [ixn (by omega), (hs t ht).1]; exact (hx.2.2.1 t ht).1
    · rcases hr with ⟨-, h1⟩ | ⟨h1, -⟩
      · have hsm := hall.mp h1
        rw [ixn (by omega), (hs t ht).1]
        refine ⟨_, s_become (hx.2.2.1 t ht) h18, ?_⟩
        rintro I2 L2 A2 ⟨rfl, rfl, rfl⟩
        have hpl : pl (us L1 (sl x t + 1) (L1 (x + 18 + 1))) (sl x t) = pl L1 (x + 18) := by unfold pl; rw [us_self]
        have hrn : RowN (u2 I1 (sl x t) 1 (I1 (x + 18) 1)) (us L1 (sl x t + 1) (L1 (x + 18 + 1))) (sl x t) d := ⟨⟨by rw [u2_self]; exact hn.1.1, hd, by rw [us_self]; exact hn.1.2.2⟩, by rw [hpl]; exact hn.2⟩
        refine ⟨⟨_, Or.inl ⟨hsm, ?_, rfl⟩, hs.up hx become_ch hrn hpl hsm⟩, become_ch, rfl⟩
        have hb := sl_bd (x := x) ht
        rw [u2_ne _ _ (fun w => by omega), hn.1.1]
        show tpI d = tpI (lnP _ 7)
        rw [hn.lnP hd7]
      · exact absurd h1 z
end
