/-! THE SPLITTER: conjugates -/
section
variable {K : Cx} {I : TI} {L : TL} {A : TA}
theorem comp_pow {p k du : Nat} (hp : Pr (p : Int)) {f : PP} {u b o : PF} (hu : dl u.1 du) (h1 : ZP p f (letI := pfR; xP ^ (p ^ k) - u)) (h2 : ZP p f (letI := pfR; xP ^ p - b)) (h3 : ZP p f (letI := pfR; evG pfR du (fun k => kP (u.1 k)) b - o)) : ZP p f (letI := pfR; xP ^ (p ^ (k + 1)) - o) := by
  have hi : Idl pfR (ZP p f) := idl_p
  have hz : ZP p f (nmG pfR p) := zp_p
  have e1 := frob_ev hi hp hz xP du (fun k => kP (u.1 k)) (fun k => kP_fix hp _)
  rw [ev_xP hu] at e1
  have e2 := ev_cg hi h2 du (fun k => kP (u.1 k))
  have e3 := hi.pow2 h1 p
  have e4 : (letI := pfR; (xP ^ (p ^ k)) ^ p) = (letI := pfR; xP ^ (p ^ (k + 1))) := by
    rw [← pow_mulG, Nat.pow_succ]
  rw [e4] at e3
  exact hi.trans e3 (hi.trans e1 (hi.trans e2 h3))
theorem rix_l {I' : TI} {L' : TL} {r : Nat} {c : Int64} (h : RowIs I' L' r (fun k => if k = 0 then c else if k = 1 then 1 else 0)) : ∀ k, pl L' r k = if k = 0 then c.toInt else if k = 1 then 1 else 0 := fun k => by
  by_cases y : k < 13
  · rw [pl_lt y, h.1 k y]
    show (if k = 0 then c else if k = 1 then 1 else 0).toInt = _
    by_cases y0 : k = 0
    · rw [if_pos y0, if_pos y0]
    · rw [if_neg y0, if_neg y0]
      by_cases y1 : k = 1
      · rw [if_pos y1, if_pos y1]; rfl
      · rw [if_neg y1, if_neg y1]; rfl
  · rw [pl, if_neg y, if_neg (by omega), if_neg (by omega)]
theorem px_1 : px (pk0 1) = fun k => if k = 0 then 0 else if k = 1 then 1 else 0 := funext fun k => by
  cases k with
  | zero => rfl
  | succ k => cases k with
    | zero => rfl
    | succ k => rw [if_neg (by omega), if_neg (by omega)]; rfl
/-- the row of the conjugate j -/
def CJ1 (p n : Nat) (F : PP) (I : TI) (L : TL) (r j : Nat) : Prop := (∃ d', RowN I L r d') ∧ rsd p (pl L r) ∧ dl (pl L r) n ∧ cgf p F (pw (px (pk0 1)) (p ^ j)) (pl L r)
theorem CJ1.keep {p n r j : Nat} {F : PP} {I' : TI} {L' : TL} (h : CJ1 p n F I L r j) (hi : I' r = I r) (hl : L' (r + 1) = L (r + 1)) : CJ1 p n F I' L' r j := by
  obtain ⟨⟨d', h1⟩, h2, h3, h4⟩ := h
  have e : pl L' r = pl L r := pl_keep hl
  exact ⟨⟨d', h1.keep hi hl⟩, by rw [e]; exact h2, by rw [e]; exact h3, by rw [e]; exact h4⟩
set_option maxHeartbeats 1000000 in
theorem s_findConjugate {s d p n : Nat} {F : PP} (hs : isX5 K s) (hA : AX5 A s) (hd1 : 1 ≤ d) (hd3 : d ≤ 3) (hm : mdl L (s + 1) = p) (hP : Pm p) (hi : RowN I L (s + 7) (n + 1)) (hF : pl L (s + 7) = F) (rF : rsd p F) (lF : F n = 1) (hn0 : 0 < n) (hn6 : n ≤ 6) (hc : ∀ j, 1 ≤ j → j < d → CJ1 p n F I L (cj s j) j) : ConV K yX5_findConjugate wsX5_findConjugate 3 94 I L A [.ref s, .int (nI d)] (fun I' L' A' => CJ1 p n F I' L' (cj s d) d ∧ ChR (fun y => y = s + 11 ∨ y = cj s d ∨ y = s + 1) I I' L L' ∧ A' = A) := by
  have hp1 := hP.1.1
  have hp2 := hP.2
  have hd4 : d < 4 := by omega
  have hcj : cj s d = s + 18 + 2 * d := rfl
  apply w_X5_findConjugate
  unfold wp_X5_findConjugate
  refine ⟨fun z => ?_, fun z => ?_⟩
  · rw [ile, tI (by omega), li1] at z
    have : d = 1 := by omega
    subst this
    refine ⟨hs.1, hs.li.1, _, s_becomeLine hs.li, ?_⟩
    rintro I1 L1 A1 ⟨r1, c1, rfl⟩
    have e1 : pl L1 (s + 11) = px (pk0 1) := by rw [px_1]; exact funext fun k => rix_l r1 k
    have e7 : pl L1 (s + 7) = F := (pl_keep (c1.l (by omega))).trans hF
    have m1 : mdl L1 (s + 1) = p := by show (L1 (s + 1) 0).toInt = p; rw [c1.2 (s + 1) (fun r hr => by rw [hr]; omega)]; exact hm
    refine ⟨hs.cja hd4 (tI (by omega)), hs.x3.1, ?_⟩
    rw [ixn (by omega), hA.1 1 hd4]
    refine ⟨_, s_raise (p := p) (e := n) (n := p) hs.x3 (hs.cjr hd4) hs.li hs.im (by omega) (by omega) m1 (by omega) hp2 ?_ (by rw [e7]; exact rF) r1.rn.1 (hi.ch c1 (by omega)).1 (by rw [e7]; exact lF) ?_ (by omega) hn0 m1 (by omega), ?_⟩
    · rw [e1, px_1]
      intro k
      show 0 ≤ (if k = 0 then (0 : Int) else if k = 1 then 1 else 0) ∧ (if k = 0 then (0 : Int) else if k = 1 then 1 else 0) < p
      by_cases y0 : k = 0
      · rw [if_pos y0]; omega
      · rw [if_neg y0]
        by_cases y1 : k = 1
        · rw [if_pos y1]; omega
        · rw [if_neg y1]; omega
    · rw [ln_l (0 : Int64) 11]; omega
    rintro I2 L2 A2 ⟨h1, h2, h3, h4, c2, rfl⟩
    refine ⟨⟨h4, h2, h3, ?_⟩, (c1.mono (fun y hy => Or.inl hy)).trans (c2.mono (fun y hy => by rcases hy with h | h; exact Or.inr (Or.inl h); exact Or.inr (Or.inr h))), rfl⟩
    rw [e7, e1] at h1
    rw [Nat.pow_one]; exact h1
  · rw [ile, tI (by omega), li1] at z
    obtain ⟨k, rfl⟩ : ∃ k, d = k + 2 := ⟨d - 2, by omega⟩
    have hsub : (nI (k + 2) - 1).toInt = ((k + 1 : Nat) : Int) := by rw [tm1 (by omega)]; omega
    refine ⟨hs.1, hs.cja hd4 (tI (by omega)), hs.cja (by omega) hsub, hs.cja (j := 1) (by omega) (by decide), hs.x3.1, ?_⟩
    rw [ixn (by omega), ix_of hsub, ix1, hA.1 _ hd4, hA.1 (k + 1) (by omega), hA.1 1 (by omega)]
    have q1 : cj s (k + 1) = s + 18 + 2 * (k + 1) := rfl
    have q2 : cj s 1 = s + 18 + 2 * 1 := rfl
    obtain ⟨⟨du, nu⟩, ru, du', hu⟩ := hc (k + 1) (by omega) (by omega)
    obtain ⟨⟨db, nb⟩, rb, db', hb⟩ := hc 1 (by omega) (by omega)
    refine ⟨_, s_compose (p := p) (e := n) hs.x3 (hs.cjr hd4) (hs.cjr (j := k + 1) (by omega)) (hs.cjr (j := 1) (by omega)) hs.im (by omega) (by omega) (by omega) hm (by omega) hp2 ru rb (by rw [hF]; exact rF) nu.1 nb.1 hi.1 (by rw [hF]; exact lF) (by have := nb.le db'; omega) (by omega) hn0, ?_⟩
    rintro I2 L2 A2 ⟨h1, h2, h3, h4, c2, rfl⟩
    refine ⟨⟨h4, h2, h3, ?_⟩, c2.mono (fun y hy => by rcases hy with h | h; exact Or.inr (Or.inl h); exact Or.inr (Or.inr h)), rfl⟩
    rw [hF] at h1
    rw [Nat.pow_one] at hb
    exact comp_pow (k := k + 1) (u := plF L (cj s (k + 1))) (b := plF L (cj s 1)) (o := plF L2 (cj s (k + 2))) hP.1 nu.1.dl hu hb h1
end
