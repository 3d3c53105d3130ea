/-! THE REFERENCE: parts, addPart, takeOut -/
section
variable {K : Cx} {I : TI} {L : TL} {A : TA}
def pw (f : PP) : Nat → PP
  | 0 => pk0 1
  | k + 1 => pm f (pw f k)
def prd (q : Nat → PP) (n : Nat → Nat) : Nat → PP
  | 0 => pk0 1
  | c + 1 => pm (prd q n c) (pw (q c) (n c))
theorem pw_pf {f : PP} (hf : Pf f) : ∀ k, Pf (pw f k)
  | 0 => Pf.k 1
  | k + 1 => hf.mul (pw_pf hf k)
theorem pw_dg {f : PP} {d : Nat} (hf : dgI f d) : ∀ k, dgI (pw f k) (k * d)
  | 0 => by
    rw [Nat.zero_mul]
    exact ⟨by show (1 : Int) ≠ 0; decide, fun j hj => by cases j with
      | zero => omega
      | succ j => rfl⟩
  | k + 1 => by
    have := hf.mul (pw_dg hf k)
    rw [show (k + 1) * d = d + k * d by rw [Nat.add_mul, Nat.one_mul, Nat.add_comm]]
    exact this
/-- the parts told so far -/
def PtS (m : Nat) (I : TI) (L : TL) (c : Nat) (q : Nat → PP) (n : Nat → Nat) : Prop := I m 2 = nI c ∧ c ≤ 6 ∧ ∀ i, i < c → rp L m (12 + i) = q i ∧ I (m + 2) i = nI (n i) ∧ 0 < n i ∧ n i ≤ 8
def upN {α : Type} (q : Nat → α) (c : Nat) (x : α) : Nat → α := fun i => if i = c then x else q i
/-- what the taking out of parts may write of the ints -/
def FrI (m : Nat) (I I' : TI) : Prop := (∀ y, y ≠ m → y ≠ m + 2 → I' y = I y) ∧ ∀ k, k ≠ 2 → I' m k = I m k
theorem FrI.refl (m : Nat) (I : TI) : FrI m I I := ⟨fun _ _ _ => rfl, fun _ _ => rfl⟩
theorem FrI.trans {m : Nat} {I' I'' : TI} (h : FrI m I I') (h' : FrI m I' I'') : FrI m I I'' := ⟨fun y h1 h2 => (h'.1 y h1 h2).trans (h.1 y h1 h2), fun k hk => (h'.2 k hk).trans (h.2 k hk)⟩
theorem m_addPart {m r c k : Nat} {q : Nat → PP} {n : Nat → Nat} (hm : isX7 K m) (hr : r < 12) (hp : PtS m I L c q n) (hc : c < 6) (hk : 0 < k) (hk8 : k ≤ 8) : ConV K yX7_addPart wsX7_addPart 1 23 I L A [.ref m, .int (nI r), .int (nI k)] (fun I' L' A' => PtS m I' L' (c + 1) (upN q c (rp L m r)) (upN n c k) ∧ RU m (fun s => s = 12 + c) L L' ∧ FrI m I I' ∧ A' = A) := by
  obtain ⟨h1, h2, h3⟩ := hp
  apply w_X7_addPart
  unfold wp_X7_addPart
  have h12 : (12 : Int32) + I m 2 = nI (12 + c) := eqn (by
    have : (12 : Int32).toInt = 12 := by decide
    rw [h1, iadd (by rw [tI (by omega), this]; omega) (by rw [tI (by omega), this]; omega), tI (by omega), this]; omega)
  rw [h12]
  refine ⟨hm.1, _, m_copy hm (show 12 + c < 30 by omega) (show r < 30 by omega), ?_⟩
  rintro I1 L1 A1 ⟨hcp, hru, rfl, rfl⟩
  rw [h1]
  refine ⟨⟨8, hm.2.2.1, inOf (tI (by omega)) (by omega)⟩, fun I8 e8 I9 e9 => ?_⟩
  rw [ixn (by omega)] at e8
  have h82 : I8 m 2 = nI c := by rw [e8, u2_off _ _ (by omega)]; exact h1
  rw [h82, sI] at e9
  refine ⟨⟨by rw [e9, u2_self], by omega, fun i hi => ?_⟩, hru, ⟨fun y hy1 hy2 => by rw [e9, u2_off _ _ hy1, e8, u2_off _ _ hy2], fun j hj => by rw [e9, u2_ne _ _ (fun t => hj t.2), e8, u2_off _ _ (by omega)]⟩, rfl⟩
  unfold upN
  by_cases w : i = c
  · subst w
    rw [if_pos rfl, if_pos rfl, e9, u2_off _ _ (by omega), e8, u2_self]
    exact ⟨hcp, rfl, hk, hk8⟩
  · rw [if_neg w, if_neg w, e9, u2_off _ _ (by omega), e8, u2_ne _ _ (fun t => w t.2)]
    obtain ⟨a1, a2, a3⟩ := h3 i (by omega)
    exact ⟨(hru.same (show ¬ 12 + i = 12 + c by omega)).trans a1, a2, a3⟩
/-- the numbers of a division of g by t stay exact as m_divides asks -/
def dOK (t : PP) (e : Nat) (g : PP) : Prop := ∃ MA MB : Nat, (∀ k, (g k).natAbs ≤ MA) ∧ (∀ k, k < e → (t k).natAbs ≤ MB) ∧ MA * (1 + MB) ^ (lnP g 8 - e - 1) < 9223372036854775808 ∧ (MA * (1 + MB) ^ (lnP g 8 - e) < 9223372036854775808 ∨ (t 0 ≠ 0 ∧ 0 < e ∧ MA + (t 0).natAbs * (MA * (1 + MB) ^ (lnP g 8 - e - 1)) < 9223372036854775808 ∧ MA * (1 + MB) ^ (lnP g 8 - e - 1) + MA * MB < 9223372036854775808))
theorem dv.len {t g : PP} {e : Nat} (h : dv t g) (ht : dgI t e) (hg : dl g 8) (h0 : g ≠ p0) : e < lnP g 8 := by
  obtain ⟨d, hd1, hd2, hd3⟩ := dg_ex g 8 hg h0
  rw [lnP_of hd3 (fun x hx => by rw [show x = d by omega]; exact hd2) (by omega)]
  have := h.le ht ⟨hd2, hd3⟩
  omega
set_option maxHeartbeats 2000000 in
/-- takeOut(8): the part in row 10, as often as it goes -/
theorem m_takeOut {m c e : Nat} {q : Nat → PP} {n : Nat → Nat} {t g : PP} (hm : isX7 K m) (hp : PtS m I L c q n) (ht : rp L m 10 = t) (hg : rp L m 8 = g) (hg0 : g ≠ p0) (hte : dgI t e) (he : 0 < e) (hc6 : dv t g → c < 6) (hok : ∀ g', dv g' g → Pf g' → g' ≠ p0 → dl g' 8 ∧ dOK t e g' ∧ ∀ k, (t e * g' k).natAbs < 9223372036854775808) :
    ConV K yX7_takeOut wsX7_takeOut 3 74 I L A [.ref m, .int (nI 8)] (fun I' L' A' => (∃ k g', g = pm (pw t k) g' ∧ Pf g' ∧ rp L' m 8 = g' ∧ ¬ dv t g' ∧ ((k = 0 ∧ I' = I ∧ PtS m I' L' c q n ∧ ¬ dv t g) ∨ (0 < k ∧ PtS m I' L' (c + 1) (upN q c t) (upN n c k) ∧ dv t g))) ∧ rp L' m 10 = t ∧ RU m (fun s => s = 8 ∨ s = 9 ∨ s = 11 ∨ s = 12 + c) L L' ∧ FrI m I I' ∧ A' = A) := by
  have htf : Pf t := hte.pf
  have hgf : Pf g := ⟨8, by rw [← hg]; exact rp_dl L m 8⟩
  have hpt := hp
  obtain ⟨h1, h2, h3⟩ := hp
  apply w_X7_takeOut
  unfold wp_X7_takeOut wp_X7_takeOut_2
  refine ⟨fun μ I' L' A' x => ∃ (k : Nat) (g' : PP), g = pm (pw t k) g' ∧ Pf g' ∧ g' ≠ p0 ∧ rp L' m 8 = g' ∧ μ = lnP g' 8 ∧ k + μ ≤ 8 ∧ x = nI k ∧ (0 < k → dv t g) ∧ (k = 0 → L' = L ∨ g' = g) ∧ rp L' m 10 = t ∧ RU m (fun s => s = 8 ∨ s = 9 ∨ s = 11) L L' ∧ I' = I ∧ A' = A, lnP g 8, ⟨0, g, (by show g = pm (pk0 1) g; rw [pm_1l]), hgf, hg0, hg, rfl, by have := lnP_le g 8; omega, rfl, fun w => by omega, fun _ => Or.inl rfl, ht, RU.refl _ _ _, rfl, rfl⟩, ?_⟩
  rintro μ C hC I' L' A' _ ⟨k, g', hgk, hgf', hg0', h8, hμ, hkμ, rfl, hkd, hk0, h10, hru, rfl, rfl⟩
  have hgd : dv g' g := ⟨pw t k, pw_pf htf k, by rw [hgk]; funext j; rw [pm_comm]⟩
  obtain ⟨hdl8, hdok, hqb⟩ := hok g' hgd hgf' hg0'
  have hpt' : PtS m I' L' c q n := ⟨h1, h2, fun i hi => ⟨(hru.same (show ¬ (12 + i = 8 ∨ 12 + i = 9 ∨ 12 + i = 11) by omega)).trans (h3 i hi).1, (h3 i hi).2⟩⟩
  -- the end
  have fin : ∀ (L2 : TL), RU m (fun s => s = 8 ∨ s = 9 ∨ s = 11) L L2 → rp L2 m 8 = g' → rp L2 m 10 = t → ¬ dv t g' → wp_X7_takeOut_39 K m (nI 8) I' L2 A' (nI k) (fun I'' L'' A'' => (∃ k g', g = pm (pw t k) g' ∧ Pf g' ∧ rp L'' m 8 = g' ∧ ¬ dv t g' ∧ ((k = 0 ∧ I'' = I' ∧ PtS m I'' L'' c q n ∧ ¬ dv t g) ∨ (0 < k ∧ PtS m I'' L'' (c + 1) (upN q c t) (upN n c k) ∧ dv t g))) ∧ rp L'' m 10 = t ∧ RU m (fun s => s = 8 ∨ s = 9 ∨ s = 11 ∨ s = 12 + c) L L'' ∧ FrI m I' I'' ∧ A'' = A') := by
    intro L2 hru2 h82 h102 hnd
    have hpt2 : PtS m I' L2 c q n := ⟨h1, h2, fun i hi => ⟨(hru2.same (show ¬ (12 + i = 8 ∨ 12 + i = 9 ∨ 12 + i = 11) by omega)).trans (h3 i hi).1, (h3 i hi).2⟩⟩
    unfold wp_X7_takeOut_39
    refine ⟨fun z => ?_, fun z => ?_⟩
    · rw [ile, li0, tI (by omega)] at z
      have hk : k = 0 := by omega
      subst hk
      have hgg : g = g' := by rw [hgk]; show pm (pk0 1) g' = g'; rw [pm_1l]
      exact ⟨⟨0, g', hgk, hgf', h82, hnd, Or.inl ⟨rfl, rfl, hpt2, by rw [hgg]; exact hnd⟩⟩, h102, hru2.mono (fun s h => by omega), FrI.refl _ _, rfl⟩
    · rw [ile, li0, tI (by omega)] at z
      have hdg := hkd (by omega)
      refine ⟨hm.1, _, m_addPart (r := 10) hm (by omega) hpt2 (hc6 hdg) (show 0 < k by omega) (by omega), ?_⟩
      rintro I3 L3 A3 ⟨hpt3, hru3, hfr3, rfl⟩
      rw [h102] at hpt3
      exact ⟨⟨k, g', hgk, hgf', (hru3.same (show ¬ 8 = 12 + c by omega)).trans h82, hnd, Or.inr ⟨by omega, hpt3, hdg⟩⟩, (hru3.same (show ¬ 10 = 12 + c by omega)).trans h102, (hru2.mono (fun s h => by omega)).trans (hru3.mono (fun s h => by omega)), hfr3, rfl⟩
  refine ⟨hm.1, _, m_degreeOf hm (show 8 < 30 by omega), ?_⟩
  rintro v I1 L1 A1 ⟨rfl, rfl, rfl, rfl⟩
  refine ⟨_, m_degreeOf hm (show 10 < 30 by omega), ?_⟩
  rintro v I2 L2 A2 ⟨rfl, rfl, rfl, rfl⟩
  have hlt : lnP t 8 = e + 1 := lnP_of hte.2 (fun x hx => by rw [show x = e by omega]; exact hte.1) (by have := hte.lt (show dl t 8 by rw [← ht]; exact rp_dl L m 10); omega)
  have hle8 := lnP_le g' 8
  have hlt8 := lnP_le t 8
  rw [h8, h10, hlt]
  refine ⟨fun z => fin L2 hru h8 h10 (fun w => ?_), fun z => ?_⟩
  · rw [ilt, tm1 (by omega), tm1 (by omega)] at z
    have := w.len hte hdl8 hg0'
    omega
  · rw [ilt, tm1 (by omega), tm1 (by omega)] at z
    obtain ⟨MA, MB, d1, d2, d3, d4⟩ := hdok
    refine ⟨_, m_divides (y := 10) (a := 8) (e := e) (da := lnP g' 8) (MA := MA) (MB := MB) hm (by decide) (by decide) (by decide) (by decide) (by decide) (by decide) (by rw [h10]; exact hte) (by rw [h8]) (by rw [h8]; exact d1) (by rw [h10]; exact d2) d3 (by rw [h10]; exact d4), ?_⟩
    rintro v I3 L3 A3 ⟨hv, hru3, rfl, rfl⟩
    rw [h8, h10] at hv
    have hru3' : RU m (fun s => s = 8 ∨ s = 9 ∨ s = 11) L L3 := hru.trans (hru3.mono (fun s h => by omega))
    have h83 : rp L3 m 8 = g' := (hru3.same (show ¬ (8 = 9 ∨ 8 = 11) by omega)).trans h8
    have h103 : rp L3 m 10 = t := (hru3.same (show ¬ (10 = 9 ∨ 10 = 11) by omega)).trans h10
    refine ⟨fun z2 => fin L3 hru3' h83 h103 (fun ⟨s, hs, es⟩ => ?_), fun z2 => ⟨_, m_copy hm (show 8 < 30 by omega) (show 11 < 30 by omega), ?_⟩⟩
    · rcases hv with ⟨w, -⟩ | ⟨-, w⟩
      · rw [w] at z2; exact absurd z2 (by decide)
      · have hs0 : s ≠ p0 := fun y => hg0' (by rw [← es, y]; funext j; rw [pm_comm, pm_0l])
        have hsd : dv s g := dv.trans ⟨t, htf, by rw [← es]; funext j; rw [pm_comm]⟩ hgd
        exact w s hs (hok s hsd hs hs0).2.2 es
    · have hq : pm t (rp L3 m 11) = g' := by
        rcases hv with ⟨-, w⟩ | ⟨w, -⟩
        · exact w
        · exact absurd w z2
      rintro I4 L4 A4 ⟨h84, hru4, rfl, rfl⟩ v31 e31
      have hq0 : rp L3 m 11 ≠ p0 := fun y => hg0' (by rw [← hq, y]; funext j; rw [pm_comm, pm_0l])
      have hqf : Pf (rp L3 m 11) := ⟨8, rp_dl L3 m 11⟩
      have hlq : lnP (rp L3 m 11) 8 < lnP g' 8 := by
        obtain ⟨d, hd1, hd2, hd3⟩ := dg_ex (rp L3 m 11) 8 (rp_dl L3 m 11) hq0
        have h5 : dgI g' (e + d) := by rw [← hq]; exact hte.mul ⟨hd2, hd3⟩
        rw [lnP_of hd3 (fun x hx => by rw [show x = d by omega]; exact hd2) (by omega), lnP_of h5.2 (fun x hx => by rw [show x = e + d by omega]; exact h5.1) (by have := h5.lt hdl8; omega)]
        omega
      refine hC (lnP (rp L3 m 11) 8) _ _ _ _ (by omega) ⟨k + 1, rp L3 m 11, ?_, hqf, hq0, h84, rfl, by omega, by rw [e31, sI], fun _ => ?_, fun w => by omega, (hru4.same (show ¬ 10 = 8 by omega)).trans h103, hru3'.trans (hru4.mono (fun s h => by omega)), rfl, rfl⟩
      · rw [hgk, ← hq]
        show _ = pm (pm t (pw t k)) (rp L3 m 11)
        funext j
        rw [← pm_assoc, show pm (pw t k) t = pm t (pw t k) from funext fun i => pm_comm i _ _]
      · exact dv.trans ⟨rp L3 m 11, hqf, hq⟩ hgd
end
