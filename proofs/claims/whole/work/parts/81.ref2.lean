/-! THE REFERENCE: finish, set, get -/
section
variable {K : Cx} {I : TI} {L : TL} {A : TA}
/-- the reference's slots hold P -/
def RSlots (m : Nat) (L : TL) (P : Nat → PP) : Prop := ∀ j, j < 8 → rp L m j = P j ∧ sm7 (P j)
theorem RSlots.ru {m : Nat} {P : Nat → PP} {S : Nat → Prop} {L' : TL} (h : RSlots m L P) (hc : RU m S L L') (hS : ∀ j, j < 8 → ¬ S j) : RSlots m L' P := fun j hj => ⟨(hc.same (hS j hj)).trans (h j hj).1, (h j hj).2⟩
theorem RSlots.up {m t : Nat} {P : Nat → PP} {f : PP} {L' : TL} (h : RSlots m L P) (hc : RU m (· = t) L L') (hf : rp L' m t = f) (hs : sm7 f) : RSlots m L' (upP P t f) := fun j hj => by
  unfold upP
  by_cases e : j = t
  · rw [if_pos e, e]; exact ⟨hf, hs⟩
  · rw [if_neg e]; exact ⟨(hc.same e).trans (h j hj).1, (h j hj).2⟩
theorem lnP_87 {f : PP} (h : dl f 7) : lnP f 8 = lnP f 7 := by rw [lnP, if_pos (h 7 (by omega))]
theorem six4 {k : Nat} (hk : k < 8) {x : Int32} (hx : x = nI k) : ((64 : Int32) + x).toInt = ((8 * 8 + k : Nat) : Int) := by
  rw [iadd (by rw [hx, tI (by omega)]; have : (64 : Int32).toInt = 64 := by decide
               omega) (by rw [hx, tI (by omega)]; have : (64 : Int32).toInt = 64 := by decide
                          omega), hx, tI (by omega)]
  have : (64 : Int32).toInt = 64 := by decide
  omega
theorem jli300 : (300 : Int64).toInt = 300 := by decide
theorem jlim300 : (-300 : Int64).toInt = -300 := by decide
set_option maxHeartbeats 1000000 in
theorem m_finish {m t : Nat} {P : Nat → PP} (hm : isX7 K m) (hs : RSlots m L P) (ht : t < 8) : ConI K yX7_finish wsX7_finish 1 23 I L A [.ref m, .int (nI t)] (fun v I' L' A' => (∃ P', keepA P t (rp L m 8) v P' ∧ RSlots m L' P') ∧ RU m (· = t) L L' ∧ I' = I ∧ A' = A) := by
  have main : ∀ g : Int32, (g = 1 ∧ rp L m 8 7 = 0) ∨ (g = 0 ∧ rp L m 8 7 ≠ 0) → wp_X7_finish_20 K m (nI t) I L A g 0 (fun v I' L' A' => (∃ P', keepA P t (rp L m 8) v P' ∧ RSlots m L' P') ∧ RU m (· = t) L L' ∧ I' = I ∧ A' = A) := by
    intro g hg
    unfold wp_X7_finish_20
    refine ⟨fun μ I' L' A' x y => ∃ i, i + μ = 7 ∧ y = nI i ∧ ((x = 1 ∧ rp L m 8 7 = 0 ∧ ∀ k, k < i → -300 ≤ rp L m 8 k ∧ rp L m 8 k ≤ 300) ∨ (x = 0 ∧ ¬ sm7 (rp L m 8))) ∧ I' = I ∧ L' = L ∧ A' = A, 7, ⟨0, rfl, rfl, ?_, rfl, rfl, rfl⟩, ?_⟩
    · rcases hg with ⟨h1, h2⟩ | ⟨h1, h2⟩
      · exact Or.inl ⟨h1, h2, fun k hk => absurd hk (Nat.not_lt_zero _)⟩
      · exact Or.inr ⟨h1, fun z => h2 (z.1 7 (Nat.le_refl 7))⟩
    rintro μ C hC I' L' A' x _ ⟨i, hi, rfl, hx, rfl, rfl, rfl⟩
    refine ⟨fun q => ?_, fun q => ?_⟩
    · rw [ile, li7, tI (by omega)] at q
      have hi7 : i = 7 := by omega
      subst hi7
      refine ⟨fun z => ?_, fun z => ?_⟩
      · rcases hx with ⟨h1, -⟩ | ⟨-, h2⟩
        · rw [h1] at z; exact absurd z (by decide)
        · exact ⟨⟨P, Or.inr ⟨h2, rfl, rfl⟩, hs⟩, RU.refl _ _ _, rfl, rfl⟩
      · rcases hx with ⟨-, h2, h3⟩ | ⟨h1, -⟩
        · have hsm : sm7 (rp L' m 8) := ⟨fun k hk => by
            by_cases y : k = 7
            · rw [y]; exact h2
            · exact rp_dl L' m 8 k (by omega), fun k => by
            by_cases y : k < 7
            · exact h3 k y
            · by_cases y2 : k = 7
              · rw [y2, h2]; omega
              · rw [rp_dl L' m 8 k (by omega)]; omega⟩
          refine ⟨hm.1, _, m_copy hm (by omega) (show 8 < 30 by omega), ?_⟩
          rintro I2 L2 A2 ⟨hr, hc, rfl, rfl⟩
          refine ⟨_, m_degreeOf hm (by omega), ?_⟩
          rintro v I3 L3 A3 ⟨rfl, rfl, rfl, rfl⟩
          refine ⟨⟨_, Or.inl ⟨hsm, ?_, rfl⟩, hs.up hc hr hsm⟩, hc, rfl, rfl⟩
          rw [hr, lnP_87 hsm.1]
        · exact absurd h1 z
    · rw [ile, li7, tI (by omega)] at q
      have hix := six4 (show i < 8 by omega) (x := nI i) rfl
      have hok : aok (cxS K) (m + 1) 1 (64 + nI i) := rok hm (show 8 < 30 by omega) (show i < 8 by omega) hix
      have hv : (L' (m + 1) (ix (64 + nI i))).toInt = rp L' m 8 i := by rw [ix_of hix, rp_lt (by omega)]
      have bad : ¬ sm7 (rp L' m 8) → ∀ v : Int32, v = nI i + 1 → C I' L' A' 0 v := fun hb v hv' => hC (μ - 1) _ _ _ _ _ (by omega) ⟨i + 1, by omega, by rw [hv', sI], Or.inr ⟨rfl, hb⟩, rfl, rfl, rfl⟩
      refine ⟨fun z => bad ?_, fun z => ⟨hm.1, hok, fun z2 => bad ?_, fun z2 => ⟨hok, fun z3 => bad ?_, fun z3 v hv' => ?_⟩⟩⟩
      · rcases hx with ⟨h1, -⟩ | ⟨-, h2⟩
        · rw [h1] at z; exact absurd z (by decide)
        · exact h2
      · rw [jlt, hv, jli300] at z2
        exact fun w => by have := w.2 i; omega
      · rw [jlt, hv, jlim300] at z3
        exact fun w => by have := w.2 i; omega
      · rw [jlt, hv, jli300] at z2
        rw [jlt, hv, jlim300] at z3
        rcases hx with ⟨-, h2, h3⟩ | ⟨h1, -⟩
        · refine hC (μ - 1) _ _ _ _ _ (by omega) ⟨i + 1, by omega, by rw [hv', sI], Or.inl ⟨rfl, h2, fun k hk => ?_⟩, rfl, rfl, rfl⟩
          by_cases y : k = i
          · rw [y]; omega
          · exact h3 k (by omega)
        · exact absurd h1 z
  apply w_X7_finish
  unfold wp_X7_finish
  have h71 : (71 : Int32).toInt = ((8 * 8 + 7 : Nat) : Int) := by decide
  refine ⟨hm.1, rok hm (show 8 < 30 by omega) (show 7 < 8 by omega) h71, fun q => main 1 (Or.inl ⟨rfl, ?_⟩), fun q => main 0 (Or.inr ⟨rfl, ?_⟩)⟩
  · rw [ix_of h71, j0] at q
    rw [rp_lt (by omega)]; exact q
  · rw [ix_of h71, j0] at q
    rw [rp_lt (by omega)]; exact q
def okS (i : Int32) : Prop := 0 ≤ i.toInt ∧ i.toInt < 8
def okI (i lo hi : Int32) : Prop := lo.toInt ≤ i.toInt ∧ i.toInt ≤ hi.toInt
theorem m_isSlot {i : Int32} : ConI K yX7_isSlot wsX7_isSlot 0 0 I L A [.int i] (fun v I' L' A' => ((v = 1 ∧ okS i) ∨ (v = 0 ∧ ¬ okS i)) ∧ I' = I ∧ L' = L ∧ A' = A) := by
  apply w_X7_isSlot
  unfold wp_X7_isSlot okS
  refine ⟨fun q => ⟨Or.inr ⟨rfl, fun z => ?_⟩, rfl, rfl, rfl⟩, fun q => ⟨fun q2 => ⟨Or.inr ⟨rfl, fun z => ?_⟩, rfl, rfl, rfl⟩, fun q2 => ⟨Or.inl ⟨rfl, ?_⟩, rfl, rfl, rfl⟩⟩⟩
  · rw [ilt, li0] at q; omega
  · rw [ile, li8] at q2; omega
  · rw [ilt, li0] at q; rw [ile, li8] at q2; omega
theorem m_isIn {i lo hi : Int32} : ConI K yX7_isIn wsX7_isIn 0 0 I L A [.int i, .int lo, .int hi] (fun v I' L' A' => ((v = 1 ∧ okI i lo hi) ∨ (v = 0 ∧ ¬ okI i lo hi)) ∧ I' = I ∧ L' = L ∧ A' = A) := by
  apply w_X7_isIn
  unfold wp_X7_isIn okI
  refine ⟨fun q => ⟨Or.inr ⟨rfl, fun z => ?_⟩, rfl, rfl, rfl⟩, fun q => ⟨fun q2 => ⟨Or.inr ⟨rfl, fun z => ?_⟩, rfl, rfl, rfl⟩, fun q2 => ⟨Or.inl ⟨rfl, ?_⟩, rfl, rfl, rfl⟩⟩⟩
  · rw [ilt] at q; omega
  · rw [ilt] at q2; omega
  · rw [ilt] at q q2; omega
theorem m_refused {m : Nat} {i : Int32} (hm : isX7 K m) (hi : i = 0 ∨ i = 1) : ConI K yX7_refused wsX7_refused 0 0 I L A [.ref m, .int i] (fun v I' L' A' => v = i ∧ I' = u2 I m 0 i ∧ L' = L ∧ A' = A) := by
  apply w_X7_refused
  unfold wp_X7_refused
  refine ⟨hm.1, fun I2 e2 => ⟨fun q => ⟨?_, e2, rfl, rfl⟩, fun q => ⟨?_, e2, rfl, rfl⟩⟩⟩
  · rcases hi with rfl | rfl
    · rfl
    · exact absurd q (by decide)
  · rcases hi with rfl | rfl
    · exact absurd (by decide) q
    · rfl
theorem RSlots.i {m : Nat} {P : Nat → PP} (h : RSlots m L P) : RSlots m L P := h
theorem okS_n {i : Int32} (h : okS i) : ∃ j : Nat, j < 8 ∧ i = nI j := ⟨i.toInt.toNat, by have := h; unfold okS at this; omega, eqn (by have := h; unfold okS at this; omega)⟩
/-- what a reference's call with arguments that it takes may write: its own cells; and it says that it took them -/
def TF (m : Nat) (I I' : TI) (L L' : TL) : Prop := I' m 7 = I m 7 ∧ I' m 8 = I m 8 ∧ I' m 11 = I m 11 ∧ I' (m + 5) = I (m + 5) ∧ I' (m + 6) = I (m + 6) ∧ L' (m + 4) = L (m + 4)
def FrM (m : Nat) (I I' : TI) (L L' : TL) : Prop := (∀ y, ¬ (m ≤ y ∧ y < m + 9) → I' y = I y ∧ L' y = L y) ∧ I' m 0 = 0 ∧ TF m I I' L L'
theorem tf_0 {m : Nat} {S : Nat → Prop} {L' : TL} {v : Int32} (h : RU m S L L') : TF m I (u2 I m 0 v) L L' := ⟨u2_ne _ _ (by omega), u2_ne _ _ (by omega), u2_ne _ _ (by omega), u2_off _ _ (by omega), u2_off _ _ (by omega), h.1 _ (by omega)⟩
theorem fr_0 {m : Nat} {S : Nat → Prop} {L' : TL} (h : RU m S L L') : FrM m I (u2 I m 0 0) L L' := ⟨fun y hy => ⟨u2_off _ _ (by omega), h.1 y (by omega)⟩, u2_self _ _ _ _, tf_0 h⟩
/-- set, taken and refused -/
theorem m_set {m : Nat} {i k c : Int32} {P : Nat → PP} (hm : isX7 K m) (hs : RSlots m L P) : ConI K yX7_set wsX7_set 1 22 I L A [.ref m, .int i, .int k, .int c] (fun v I' L' A' => ((okS i ∧ okI k 0 6 ∧ okI c (-300) 300) ∧ v = dgA (setA P (ix i) (ix k) c.toInt (ix i)) ∧ RSlots m L' (setA P (ix i) (ix k) c.toInt) ∧ I' = u2 I m 0 0 ∧ RU m (fun r => r < 8) L L' ∧ A' = A) ∨ (¬ (okS i ∧ okI k 0 6 ∧ okI c (-300) 300) ∧ I' = u2 I m 0 1 ∧ L' = L ∧ A' = A)) := by
  have no : ¬ (okS i ∧ okI k 0 6 ∧ okI c (-300) 300) → wp_X7_set_35 K m i k c I L A m (fun v I' L' A' => ((okS i ∧ okI k 0 6 ∧ okI c (-300) 300) ∧ v = dgA (setA P (ix i) (ix k) c.toInt (ix i)) ∧ RSlots m L' (setA P (ix i) (ix k) c.toInt) ∧ I' = u2 I m 0 0 ∧ RU m (fun r => r < 8) L L' ∧ A' = A) ∨ (¬ (okS i ∧ okI k 0 6 ∧ okI c (-300) 300) ∧ I' = u2 I m 0 1 ∧ L' = L ∧ A' = A)) := by
    intro hn
    unfold wp_X7_set_35 wp_X7_set_36
    refine ⟨hm.1, _, m_refused hm (Or.inr rfl), ?_⟩
    rintro v I1 L1 A1 ⟨rfl, rfl, rfl, rfl⟩
    exact ⟨fun z => absurd z (by decide), fun _ => Or.inr ⟨hn, rfl, rfl, rfl⟩⟩
  apply w_X7_set
  unfold wp_X7_set
  refine ⟨_, m_isSlot, ?_⟩
  rintro v I1 L1 A1 ⟨h1, rfl, rfl, rfl⟩
  refine ⟨fun z => no ?_, fun z => ⟨_, m_isIn, ?_⟩⟩
  · rcases h1 with ⟨h1, -⟩ | ⟨-, h1⟩
    · rw [h1] at z; exact absurd z (by decide)
    · exact fun w => h1 w.1
  have hi : okS i := by
    rcases h1 with ⟨-, h1⟩ | ⟨h1, -⟩
    · exact h1
    · exact absurd h1 z
  rintro v I2 L2 A2 ⟨h2, rfl, rfl, rfl⟩
  refine ⟨fun z => no ?_, fun z => ⟨_, m_isIn, ?_⟩⟩
  · rcases h2 with ⟨h1, -⟩ | ⟨-, h1⟩
    · rw [h1] at z; exact absurd z (by decide)
    · exact fun w => h1 w.2.1
  have hk : okI k 0 6 := by
    rcases h2 with ⟨-, h1⟩ | ⟨h1, -⟩
    · exact h1
    · exact absurd h1 z
  rintro v I3 L3 A3 ⟨h3, rfl, rfl, rfl⟩
  refine ⟨fun z => no ?_, fun z => ?_⟩
  · rcases h3 with ⟨h1, -⟩ | ⟨-, h1⟩
    · rw [h1] at z; exact absurd z (by decide)
    · exact fun w => h1 w.2.2
  have hc : okI c (-300) 300 := by
    rcases h3 with ⟨-, h1⟩ | ⟨h1, -⟩
    · exact h1
    · exact absurd h1 z
  obtain ⟨s, hs8, rfl⟩ := okS_n hi
  have hk6 : 0 ≤ k.toInt ∧ k.toInt ≤ 6 := hk
  have hc6 : -300 ≤ c.toInt ∧ c.toInt ≤ 300 := hc
  obtain ⟨t, ht⟩ : ∃ t : Nat, k.toInt = t := ⟨k.toInt.toNat, by omega⟩
  have hix := rix (show s < 30 by omega) (show t < 8 by omega) (x := nI s) rfl ht
  unfold wp_X7_set_36
  refine ⟨hm.1, _, m_refused hm (Or.inl rfl), ?_⟩
  rintro v I4 L4 A4 ⟨rfl, rfl, rfl, rfl⟩
  refine ⟨fun _ => ⟨hm.1, rok hm (by omega) (by omega) hix, fun L10 e10 => ⟨_, m_degreeOf hm (by omega), ?_⟩⟩, fun w => absurd rfl w⟩
  rintro v I5 L5 A5 ⟨rfl, rfl, rfl, rfl⟩
  rw [ix_of hix] at e10
  have hru : RU m (· = s) L4 L5 := by rw [e10]; exact u2_ru (by omega)
  have hf : rp L5 m s = fun j => if j = t then c.toInt else P s j := funext fun j => by
    rw [← (hs s hs8).1]
    by_cases w : j < 8
    · rw [rp_lt w, e10]
      by_cases y : j = t
      · rw [if_pos y, y, u2_self, Int32.toInt_toInt64]
      · rw [if_neg y, u2_ne _ _ (fun q => y (by omega)), rp_lt w]
    · rw [rp, if_neg w, if_neg (by omega), rp, if_neg w]
  have hsm : sm7 (fun j => if j = t then c.toInt else P s j) := ⟨fun j hj => by simp only; rw [if_neg (by omega)]; exact (hs s hs8).2.1 j hj, fun j => by
    simp only
    split
    · omega
    · exact (hs s hs8).2.2 j⟩
  rw [ixn (by omega), ix_of ht]
  refine Or.inl ⟨⟨hi, hk, hc⟩, ?_, hs.up hru hf hsm, rfl, hru.mono (fun r hr => by omega), rfl⟩
  rw [hf, lnP_87 hsm.1]
  unfold setA upP
  rw [if_pos rfl]
end
