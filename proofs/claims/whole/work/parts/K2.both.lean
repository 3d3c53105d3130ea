/-! BOTH SIDES: the desk at x, the reference at x + 124, the answer's array at x + 133: when they say the same. -/
section
variable {K : Cx} {I : TI} {L : TL} {A : TA}
def GD (x : Nat) (P : Nat → PP) (c : Nat) (q : Nat → PP) (n : Nat → Nat) (ct : Int) (l : List Nat) (I : TI) (L : TL) (A : TA) : Prop := Slots x I L A P ∧ ArrD x A ∧ TolD x I L A c q n ct ∧ PatD x I l
def GR (m : Nat) (P : Nat → PP) (c : Nat) (q : Nat → PP) (n : Nat → Nat) (ct : Int) (l : List Nat) (I : TI) (L : TL) : Prop := RSlots m L P ∧ RTd m I L c q n ct ∧ RPl m I l
def Gd (x : Nat) (I : TI) (L : TL) (A : TA) : Prop := ∃ P c q n ct l, GD x P c q n ct l I L A ∧ GR (x + 124) P c q n ct l I L ∧ ∀ i, i < c → dl (q i) 7
def ShB (K : Cx) (x : Nat) : Prop := isDesk K x ∧ isX7 K (x + 124) ∧ cxS K (x + 133) = .inr (1, 1)
theorem FLs.at {o c : Nat} {q : Nat → PP} {n : Nat → Nat} {I' : TI} {L' : TL} (hA : PermA A o) (h : FLs o I L A c q n) (hf : ∀ y, o ≤ y → y < o + 15 → I' y = I y ∧ L' y = L y) : FLs o I' L' A c q n := by
  refine ⟨by rw [(hf o (by omega) (by omega)).1]; exact h.1, h.2.1, fun i hi => ?_⟩
  obtain ⟨⟨d, h1⟩, h2, h3, h4⟩ := h.2.2 i hi
  have hb := hA.bd (show i < 6 by have := h.2.1; omega)
  exact ⟨⟨d, h1.keep (hf _ (by omega) (by omega)).1 (hf _ (by omega) (by omega)).2⟩, (pl_keep (hf _ (by omega) (by omega)).2).trans h2, by rw [(hf (o + 14) (by omega) (by omega)).1]; exact h3, h4⟩
theorem TolD.at {x c : Nat} {q : Nat → PP} {n : Nat → Nat} {ct : Int} {I' : TI} {L' : TL} (hA : ArrD x A) (h : TolD x I L A c q n ct) (hf : ∀ y, x + 24 ≤ y → y < x + 39 → I' y = I y ∧ L' y = L y) : TolD x I' L' A c q n ct := ⟨h.1.at hA.1 (fun y a b => hf y a (by omega)), by rw [(hf (x + 24) (by omega) (by omega)).1]; exact h.2⟩
theorem PatD.at {x : Nat} {l : List Nat} {I' : TI} (h : PatD x I l) (h6 : I' x 6 = I x 6) (h39 : I' (x + 39) = I (x + 39)) : PatD x I' l := by
  obtain ⟨h1, h2, h3⟩ := h
  exact ⟨by rw [h6]; exact h1, h2, fun i hi => by rw [h39]; exact h3 i hi⟩
theorem GD.keep {x c : Nat} {P : Nat → PP} {q : Nat → PP} {n : Nat → Nat} {ct : Int} {l : List Nat} {I' : TI} {L' : TL} (h : GD x P c q n ct l I L A) (hf : ∀ y, x ≤ y → y < x + 124 → I' y = I y ∧ L' y = L y) : GD x P c q n ct l I' L' A := by
  obtain ⟨h1, h2, h3, h4⟩ := h
  exact ⟨h1.fr (fun y a b => hf y (by omega) (by omega)), h2, h3.at h2 (fun y a b => hf y (by omega) (by omega)), h4.at (by rw [(hf x (by omega) (by omega)).1]) (hf (x + 39) (by omega) (by omega)).1⟩
theorem RSlots.at {m : Nat} {P : Nat → PP} {L' : TL} (h : RSlots m L P) (hf : L' (m + 1) = L (m + 1)) : RSlots m L' P := fun j hj => ⟨by rw [← (h j hj).1]; unfold rp; rw [hf], (h j hj).2⟩
theorem GR.tf {m c : Nat} {P : Nat → PP} {q : Nat → PP} {n : Nat → Nat} {ct : Int} {l : List Nat} {P' : Nat → PP} {I' : TI} {L' : TL} (h : GR m P c q n ct l I L) (hs : RSlots m L' P') (t : TF m I I' L L') : GR m P' c q n ct l I' L' := ⟨hs, h.2.1.tf t, RPd.tf h.2.2 t⟩
theorem TF.of {m : Nat} {I' : TI} {L' : TL} (hI : ∀ k, k ≠ 0 → I' m k = I m k) (h : ∀ y, m < y → y < m + 9 → I' y = I y) (hL : L' (m + 4) = L (m + 4)) : TF m I I' L L' := ⟨hI 7 (by omega), hI 8 (by omega), hI 11 (by omega), h (m + 5) (by omega) (by omega), h (m + 6) (by omega) (by omega), hL⟩
theorem GR.keep {m c : Nat} {P : Nat → PP} {q : Nat → PP} {n : Nat → Nat} {ct : Int} {l : List Nat} {I' : TI} {L' : TL} (h : GR m P c q n ct l I L) (hf : ∀ y, m ≤ y → y < m + 9 → I' y = I y ∧ L' y = L y) : GR m P c q n ct l I' L' := h.tf (h.1.at (hf (m + 1) (by omega) (by omega)).2) (TF.of (fun k _ => by rw [(hf m (by omega) (by omega)).1]) (fun y a b => (hf y (by omega) b).1) (hf (m + 4) (by omega) (by omega)).2)
theorem GR.thr {m c : Nat} {P : Nat → PP} {q : Nat → PP} {n : Nat → Nat} {ct : Int} {l : List Nat} (v : Int32) (h : GR m P c q n ct l I L) : GR m P c q n ct l (u2 I m 0 v) L := h.tf h.1 (TF.of (fun k hk => u2_ne _ _ (fun e => hk e.2)) (fun y a b => u2_off _ _ (by omega)) rfl)
theorem oS_ok {a : Int32} : oS a ↔ okS a := by
  unfold oS okS
  rw [ilt, ilt, show (0 : Int32).toInt = 0 from rfl, show (8 : Int32).toInt = 8 from rfl]
  omega
theorem oK_ok {a : Int32} : oK a ↔ okI a 0 6 := by
  unfold oK okI
  rw [ilt, ile, show (0 : Int32).toInt = 0 from rfl, show (6 : Int32).toInt = 6 from rfl]
  omega
theorem oW_300 {a : Int32} : oW a 300 ↔ okI a (-300) 300 := by
  unfold oW okI
  rw [ilt, ile, show (-300 : Int32).toInt = -300 by decide, show (300 : Int32).toInt = 300 by decide]
  omega
theorem oW_10 {a : Int32} : oW a 10 ↔ okI a (-10) 10 := by
  unfold oW okI
  rw [ilt, ile, show (-10 : Int32).toInt = -10 by decide, show (10 : Int32).toInt = 10 by decide]
  omega
/-- after the desk's answer w lies in out and the reference has come to the same -/
theorem both {x c : Nat} {P : Nat → PP} {q : Nat → PP} {n : Nat → Nat} {ct : Int} {l : List Nat} {I1 I2 : TI} {L0 L1 L2 : TL} {A1 A2 : TA} {w : Int64} (h : GD x P c q n ct l I1 L0 A1) (e1 : L1 = u2 L0 (x + 133) 0 w) (hf : ∀ y, ¬ (x + 124 ≤ y ∧ y < x + 124 + 9) → I2 y = I1 y ∧ L2 y = L1 y) (eA : A2 = A1) (hr : GR (x + 124) P c q n ct l I2 L2) (h7 : ∀ i, i < c → dl (q i) 7) : Gd x I2 L2 A2 ∧ L2 (x + 133) 0 = w := by
  subst eA
  refine ⟨⟨P, c, q, n, ct, l, h.keep (fun y a b => ?_), hr, h7⟩, ?_⟩
  · have := hf y (by omega)
    refine ⟨this.1, this.2.trans ?_⟩
    rw [e1, u2_off _ _ (by omega)]
  · rw [(hf (x + 133) (by omega)).2, e1, u2_self]
/-- refused on both sides -/
theorem both_no {x : Nat} {I2 : TI} {L2 : TL} {A2 : TA} (h : Gd x I L A) (e1 : I2 = u2 I (x + 124) 0 1) (e2 : L2 = L) (e3 : A2 = A) : Gd x I2 L2 A2 ∧ I2 (x + 124) 0 = 1 := by
  subst e1; subst e2; subst e3
  obtain ⟨P, c, q, n, ct, l, hd, hr, h7⟩ := h
  exact ⟨⟨P, c, q, n, ct, l, hd.keep (fun y a b => ⟨u2_off _ _ (by omega), rfl⟩), hr.thr 1, h7⟩, u2_self _ _ _ _⟩
end
