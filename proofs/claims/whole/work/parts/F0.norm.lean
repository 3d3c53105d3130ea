/-! THE SPLITTER: findNorm -/
section
variable {K : Cx} {I : TI} {L : TL} {A : TA}
theorem plF_eq {L : TL} {r : Nat} {f : PF} (h : pl L r = f.1) : plF L r = f := Subtype.ext h
theorem toI64 {k : Nat} (h : k < 2147483648) : (Int32.toInt64 (nI k)).toInt = (k : Int) := by rw [Int32.toInt_toInt64, tI h]
theorem line_eq (c : Int) : (fun k => if k = 0 then c else if k = 1 then 1 else 0) = pa (px (pk0 1)) (pk0 c) := funext fun k => by
  show _ = px (pk0 1) k + pk0 c k
  rw [px_1]
  show _ = (if k = 0 then (0 : Int) else if k = 1 then 1 else 0) + pk0 c k
  cases k with
  | zero => show c = 0 + c; omega
  | succ k =>
    show (if k + 1 = 0 then c else if k + 1 = 1 then 1 else 0) = (if k + 1 = 0 then (0 : Int) else if k + 1 = 1 then 1 else 0) + 0
    rw [if_neg (Nat.succ_ne_zero k), if_neg (Nat.succ_ne_zero k)]
    omega
set_option maxHeartbeats 1000000 in
/-- findNorm(piece, d, shift) -/
theorem s_findNorm {s u d sh p n e : Nat} {F : PP} {g : PF} (hs : isX5 K s) (hA : AX5 A s) (hu : isRow K u) (hus : s + 42 ≤ u) (hP : Pm p) (hp3 : 33554467 ≤ p) (hm : mdl L (s + 1) = p) (hd1 : 1 ≤ d) (hd3 : d ≤ 3) (hsh : sh < 1000000) (nu : RowN I L u (e + 1)) (pu : pl L u = g.1) (ru : rsd p g.1) (lu : g.1 e = 1) (he : 0 < e) (he6 : e ≤ 6) (hgF : dmP p g.1 F) (hn6 : n ≤ 6) (hc : ∀ j, 1 ≤ j → j < d → CJ1 p n F I L (cj s j) j) : ConV K yX5_findNorm wsX5_findNorm 2 68 I L A [.ref s, .ref u, .int (nI d), .int (nI sh)] (fun I' L' A' => ZP p g.1 (letI := pfR; plF L' (s + 11) - pdG pfR (fun k => xP ^ (p ^ k) + kP sh) d) ∧ rsd p (pl L' (s + 11)) ∧ (∃ d', d' ≤ 7 ∧ RowN I' L' (s + 11) d') ∧ ChR (fun y => y = s + 11 ∨ y = s + 13 ∨ y = s + 1) I I' L L' ∧ A' = A) := by
  have hp1 := hP.1.1
  have hp2 := hP.2
  have hid : Idl pfR (ZP p g.1) := idl_p
  have hs64 := toI64 (show sh < 2147483648 by omega)
  apply w_X5_findNorm
  unfold wp_X5_findNorm
  refine ⟨hs.1, hs.li.1, _, s_becomeLine hs.li, ?_⟩
  rintro I1 L1 A1 ⟨r1, c1, rfl⟩
  have e1 : pl L1 (s + 11) = pa (px (pk0 1)) (pk0 (sh : Int)) := by
    rw [← line_eq]
    funext k
    rw [rix_l r1 k, hs64]
  have rs1 : rsd p (pl L1 (s + 11)) := fun k => by
    rw [rix_l r1 k, hs64]
    by_cases y0 : k = 0
    · rw [if_pos y0]; omega
    · rw [if_neg y0]
      by_cases y1 : k = 1
      · rw [if_pos y1]; omega
      · rw [if_neg y1]; omega
  have n1 := r1.rn
  rw [ln_l _ 11] at n1
  unfold wp_X5_findNorm_12
  refine ⟨fun μ I' L' A' x => ∃ k, k + μ = d ∧ 1 ≤ k ∧ x = nI k ∧ ZP p g.1 (letI := pfR; plF L' (s + 11) - pdG pfR (fun k => xP ^ (p ^ k) + kP sh) k) ∧ rsd p (pl L' (s + 11)) ∧ (∃ d', d' ≤ 7 ∧ RowN I' L' (s + 11) d') ∧ ChR (fun y => y = s + 11 ∨ y = s + 13 ∨ y = s + 1) I I' L L' ∧ A' = A1, d - 1, ⟨1, by omega, Nat.le_refl _, rfl, ?_, rs1, ⟨2, by omega, n1⟩, c1.mono (fun y hy => Or.inl hy), rfl⟩, ?_⟩
  · have e2 : plF L1 (s + 11) = (letI := pfR; xP + kP sh) := plF_eq e1
    have e3 : pdG pfR (fun k => letI := pfR; xP ^ (p ^ k) + kP sh) 1 = (letI := pfR; 1 * (xP ^ (p ^ 0) + kP sh)) := rfl
    rw [e2, e3]
    have e4 : (letI := pfR; 1 * (xP ^ (p ^ 0) + kP sh)) = (letI := pfR; xP + kP sh) := by
      letI := pfR
      rw [Nat.pow_zero, Lean.Grind.Semiring.pow_succ, Lean.Grind.Semiring.pow_zero]; grind
    rw [e4]; exact hid.refl _
  rintro μ C hC I2 L2 A2 _ ⟨k, hk, hk1, rfl, hz, rl, ⟨dl', hdl, nl⟩, c2, rfl⟩
  have fin : k = d → ZP p g.1 (letI := pfR; plF L2 (s + 11) - pdG pfR (fun k => xP ^ (p ^ k) + kP sh) d) ∧ rsd p (pl L2 (s + 11)) ∧ (∃ d', d' ≤ 7 ∧ RowN I2 L2 (s + 11) d') ∧ ChR (fun y => y = s + 11 ∨ y = s + 13 ∨ y = s + 1) I I2 L L2 ∧ A2 = A2 := fun e => by
    subst e; exact ⟨hz, rl, ⟨dl', hdl, nl⟩, c2, rfl⟩
  refine ⟨fun z => fin ?_, fun z => ⟨fun z2 => fin ?_, fun z2 => ?_⟩⟩
  · rw [ile, tI (by omega), tI (by omega)] at z; omega
  · rw [ilt, li3, tI (by omega)] at z2; omega
  rw [ile, tI (by omega), tI (by omega)] at z
  have hk4 : k < 4 := by omega
  have hcj : cj s k = s + 18 + 2 * k := rfl
  have hrow := hs.cjr hk4
  refine ⟨hs.1, hs.cja hk4 (tI (by omega)), hs.he.1, ?_⟩
  rw [ixn (by omega), hA.1 k hk4]
  refine ⟨_, s_become hs.he hrow, ?_⟩
  rintro I3 L3 A3 ⟨e3, e3', rfl⟩
  have c3 : ChR (· = s + 13) I2 I3 L2 L3 := by rw [e3, e3']; exact become_ch
  have cA : ChR (fun y => y = s + 11 ∨ y = s + 13 ∨ y = s + 1) I I3 L L3 := c2.trans (c3.mono (fun y hy => by omega))
  obtain ⟨⟨dj, nj⟩, rj, dlj, hj⟩ := hc k hk1 (by omega)
  have p3 : pl L3 (s + 13) = pl L (cj s k) := by
    have : pl L3 (s + 13) = pl L2 (cj s k) := by unfold pl; rw [e3', us_self]
    rw [this, pl_keep (c2.l (by omega))]
  have m3 : mdl L3 (s + 1) = p := by show (L3 (s + 1) 0).toInt = p; rw [cA.2 (s + 1) (fun r hr => by omega)]; exact hm
  refine ⟨hs.x3.1, _, s_addAt (k := 0) (p := p) hs.x3.1 hs.he m3 (by omega) hp2 (by rw [p3]; exact rj) (by omega) (by rw [hs64]; omega), ?_⟩
  rintro I4 L4 A4 ⟨v4, r4, ⟨d4, n4⟩, c4, rfl⟩
  rw [hs64, p3] at v4
  have cB : ChR (fun y => y = s + 11 ∨ y = s + 13 ∨ y = s + 1) I I4 L L4 := cA.trans (c4.mono (fun y hy => by omega))
  have m4 : mdl L4 (s + 1) = p := by show (L4 (s + 1) 0).toInt = p; rw [cB.2 (s + 1) (fun r hr => by omega)]; exact hm
  have c24 : ChR (· = s + 13) I2 I4 L2 L4 := c3.trans c4
  have p11 : pl L4 (s + 11) = pl L2 (s + 11) := pl_keep (c24.l (by omega))
  have pu4 : pl L4 u = g.1 := (pl_keep (cB.l (by omega))).trans pu
  have hd4 : d4 ≤ 7 := by
    refine Nat.le_trans (n4.le (e := 7) (fun i hi => ?_)) (Nat.le_refl _)
    rw [v4 i, if_neg (by omega)]
    exact dlj i (by omega)
  refine ⟨_, s_multiplyModulo (p := p) (e := e) hs.x3 hs.li hs.li hs.he hu m4 (by omega) hp2 (by rw [p11]; exact rl) r4 (by rw [pu4]; exact ru) (nl.ch c24 (by omega)).1 n4.1 (nu.ch cB (by omega)).1 (by rw [pu4]; exact lu) hdl hd4, ?_⟩
  rintro I5 L5 A5 ⟨⟨q, hq, hcg⟩, r5, d5, ⟨d5', n5⟩, c5, rfl⟩ v hv
  rw [p11, pu4] at hcg
  have hmul : ZP p g.1 (letI := pfR; plF L2 (s + 11) * plF L4 (s + 13) - plF L5 (s + 11)) := cgf_of hq hcg
  refine hC (μ - 1) _ _ _ _ (by omega) ⟨k + 1, by omega, by omega, by rw [hv, sI], ?_, r5, ⟨d5', by have := n5.le d5; omega, n5⟩, cB.trans (c5.mono (fun y hy => by omega)), rfl⟩
  -- the factor
  have h4 : ZP p g.1 (letI := pfR; plF L4 (s + 13) - (xP ^ (p ^ k) + kP sh)) := by
    have h5 : ZP p g.1 (letI := pfR; xP ^ (p ^ k) - plF L (cj s k)) := hj.of_dv hgF
    have h6 : ZP p g.1 (letI := pfR; plF L4 (s + 13) - (plF L (cj s k) + kP sh)) := zc_zp (fun i => by
      show (p : Int) ∣ pl L4 (s + 13) i + -1 * (pl L (cj s k) i + pk0 (sh : Int) i)
      rw [v4 i]
      cases i with
      | zero =>
        rw [if_pos rfl]
        show (p : Int) ∣ (pl L (cj s k) 0 + sh) % p + -1 * (pl L (cj s k) 0 + sh)
        have := mod_dvd (pl L (cj s k) 0 + sh) p
        rwa [show (pl L (cj s k) 0 + ↑sh) % ↑p - (pl L (cj s k) 0 + ↑sh) = (pl L (cj s k) 0 + ↑sh) % ↑p + -1 * (pl L (cj s k) 0 + ↑sh) by omega] at this
      | succ i =>
        rw [if_neg (by omega)]
        show (p : Int) ∣ pl L (cj s k) (i + 1) + -1 * (pl L (cj s k) (i + 1) + 0)
        exact ⟨0, by omega⟩)
    refine hid.of (hid.sub h6 h5) ?_
    letI := pfR
    grind
  simp only [pdG]
  exact hid.trans (hid.sym hmul) (hid.mul2 hz h4)
end
