/-! THE REFERENCE: findRoots -/
section
variable {K : Cx} {I : TI} {L : TL} {A : TA}
theorem RtS.mono {B C D : Int} {m n n' : Nat} {w : Int} (h : RtS B C D m I L n w) (hn : n ≤ n') : RtS B C D m I L n' w := by
  obtain ⟨k, h1, h2, h3⟩ := h
  exact ⟨k, h1, by omega, h3⟩
/-- one place alone -/
theorem m_look1 {m n : Nat} {a : Int64} {B C D : Int} (hm : isX7 K m) (hc : CbF m L B C D) (hn : n < 1000) (ha : -600000 ≤ a.toInt) (hb : a.toInt ≤ 600000) (hR : RtS B C D m I L n a.toInt) : ConV K yX7_look wsX7_look 1 22 I L A [.ref m, .long a, .long a, .int 1] (fun I' L' A' => RtS B C D m I' L' (n + 1) (a.toInt + 1) ∧ FrG m I I' L L' ∧ A' = A) := by
  have := m_look (K := K) (A := A) (σ := 1) hm hc hn ha hb hR (Or.inl ⟨rfl, rfl⟩) (fun u v h1 h2 h3 => by omega)
  rw [if_pos (Int.le_refl _)] at this
  exact this
theorem fr_fin {m n : Nat} {B C D s S w : Int} {y0 : Int64} {Q : TI → TL → TA → Prop} (hm : isX7 K m) (hc : CbF m L B C D) (hn : n < 99) (hy0 : y0.toInt = w) (w1 : -600000 ≤ w) (w2 : w ≤ 600000) (hgt : S < w) (S2 : -B + s + 1 < 3 * S) (s0 : 0 ≤ s) (s3 : B * B - 3 * C < (s + 1) * (s + 1)) (hR : RtS B C D m I L n w) (hQ : ∀ I' L', RtS B C D m I' L' 100 600001 → FrG m I I' L L' → Q I' L' A) : wp_X7_findRoots_234 K m I L A 600000 y0 m Q := by
  have lf : (600000 : Int64).toInt = 600000 := by decide
  unfold wp_X7_findRoots_234
  refine ⟨hm.1, _, m_look (n := n) (σ := 1) hm hc (by omega) (by rw [hy0]; exact w1) (by rw [lf]; decide) (by rw [hy0]; exact hR) (Or.inl ⟨rfl, rfl⟩) (fun u v h1 h2 h3 => ?_), ?_⟩
  · rw [Int.one_mul, Int.one_mul]
    rw [hy0] at h1
    exact cb_up h2 (q_pos s0 (by omega) (by omega) s3)
  · rintro I9 L9 A9 ⟨hR9, f9, rfl⟩
    rw [hy0, lf, if_pos w2] at hR9
    exact hQ _ _ (hR9.mono (by omega)) f9
theorem fr_last {m : Nat} {B C D s F S w0 : Int} {Fv Sv x0 : Int64} {Q : TI → TL → TA → Prop} (hm : isX7 K m) (hc : CbF m L B C D) (hF : F = Fv.toInt) (hSd : S = Sv.toInt) (hF3 : (Fv + 3).toInt = F + 3) (hF2 : (Fv + 2).toInt = F + 2) (hS1 : (Sv + 1).toInt = S + 1) (hx0 : x0.toInt = w0) (bF : -500000 ≤ F ∧ F ≤ 500000) (bS : -500000 ≤ S ∧ S ≤ 500000) (hw1 : F + 3 ≤ w0 ∧ S - 2 ≤ w0 ∧ (w0 = F + 3 ∨ w0 = S - 2)) (S2 : -B + s + 1 < 3 * S) (s0 : 0 ≤ s) (s3 : B * B - 3 * C < (s + 1) * (s + 1)) (hR : RtS B C D m I L 5 w0) (hQ : ∀ I' L', RtS B C D m I' L' 100 600001 → FrG m I I' L L' → Q I' L' A) : wp_X7_findRoots_182 K m I L A 600000 Fv Sv x0 Q := by
  have l1 : (1 : Int64).toInt = 1 := rfl
  unfold wp_X7_findRoots_182
  refine ⟨fun μ I' L' A' x1 x7 x9 x11 => ∃ i : Nat, i + μ = 4 ∧ x1 = 600000 ∧ Fv = x7 ∧ Sv = x9 ∧ x11.toInt = w0 + i ∧ (i = 0 ∨ w0 + i ≤ S + 1) ∧ RtS B C D m I' L' (5 + i) (w0 + i) ∧ FrG m I I' L L' ∧ A' = A, 4, ⟨0, rfl, rfl, rfl, rfl, by rw [hx0, Int.natCast_zero, Int.add_zero], Or.inl rfl, by rw [Int.natCast_zero, Int.add_zero]; exact hR, FrG.refl _ _ _, rfl⟩, ?_⟩
  rintro μ Cd hCd I8 L8 A8 _ _ _ x11 ⟨i, hi, rfl, rfl, rfl, h11', hiS, hR8, f8, rfl⟩
  have hc8 := hc.fr f8
  refine ⟨fun q => ⟨fun q2 => ?_, fun q2 => ?_⟩, fun q => ?_⟩
  · rw [jlt, h11', ← hSd] at q
    rw [jle, hF2, ← hSd] at q2
    refine fr_fin (w := w0 + i) (s := s) (S := S) (n := 5 + i) hm hc8 (by omega) ?_ ?_ ?_ q S2 s0 s3 hR8 (fun I' L' h1 h2 => hQ I' L' h1 (f8.trans h2))
    · clear s3 hR8 hR; rw [hF3]; omega
    · clear s3; omega
    · clear s3; omega
  · rw [jlt, h11', ← hSd] at q
    rw [jle, hF2, ← hSd] at q2
    refine fr_fin (w := w0 + i) (s := s) (S := S) (n := 5 + i) hm hc8 (by omega) ?_ ?_ ?_ q S2 s0 s3 hR8 (fun I' L' h1 h2 => hQ I' L' h1 (f8.trans h2))
    · clear s3; rw [hS1]; omega
    · clear s3; omega
    · clear s3; omega
  · rw [jlt, h11', ← hSd] at q
    clear s3
    refine ⟨hm.1, _, m_look1 (n := 5 + i) hm hc8 (by omega) (by rw [h11']; omega) (by rw [h11']; omega) (by rw [h11']; exact hR8), ?_⟩
    rintro I9 L9 A9 ⟨hR9, f9, rfl⟩ v13 e13
    have h13 : v13.toInt = w0 + ((i + 1 : Nat) : Int) := by rw [e13, jadd (by rw [h11', l1]; omega) (by rw [h11', l1]; omega), h11', l1]; omega
    refine hCd (μ - 1) _ _ _ _ _ _ _ (by omega) ⟨i + 1, by omega, rfl, rfl, rfl, h13, Or.inr (by omega), ?_, f8.trans f9, rfl⟩
    rw [h11', show w0 + (i : Int) + 1 = w0 + ((i + 1 : Nat) : Int) by omega] at hR9
    exact hR9.mono (by omega)
set_option maxHeartbeats 2000000 in
theorem m_findRoots {m : Nat} {B C D : Int} (hm : isX7 K m) (hc : CbF m L B C D) : ConV K yX7_findRoots wsX7_findRoots 2 55 I L A [.ref m] (fun I' L' A' => RtS B C D m I' L' 100 600001 ∧ FrG m I I' L L' ∧ A' = A) := by
  have hc0 := hc
  obtain ⟨h20, h21, h22, b1, b2, b3⟩ := hc0
  have l0 : (0 : Int64).toInt = 0 := rfl
  have l1 : (1 : Int64).toInt = 1 := rfl
  have l2 : (2 : Int64).toInt = 2 := rfl
  have l3 : (3 : Int64).toInt = 3 := rfl
  have lf : (600000 : Int64).toInt = 600000 := by decide
  have lnf : (-600000 : Int64).toInt = -600000 := by decide
  have hBB := mul_ab b1 b1
  apply w_X7_findRoots
  unfold wp_X7_findRoots
  refine ⟨hm.1, fun I1 e1 v31 e31 => ?_⟩
  have f1 : FrG m I I1 L L := ⟨fun y hy => ⟨by rw [e1, u2_off _ _ hy], rfl⟩, fun k hk => by rw [e1, u2_ne _ _ (fun t => hk t.2)], fun _ _ => rfl⟩
  have R0 : RtS B C D m I1 L 0 (-600000) := ⟨0, by rw [e1, u2_self]; rfl, Nat.le_refl _, Or.inl ⟨rfl, fun z h1 h2 => by omega⟩⟩
  have hin : v31.toInt = B * B - 3 * C := by
    have : jc v31 (B * B - 3 * C) := by rw [e31]; exact ((jc_of h20).mul (jc_of h20)).sub ((jc_of l3).mul (jc_of h21))
    exact this.eq (by omega) (by omega)
  refine ⟨fun z => ?_, fun z => ?_⟩
  rotate_left
  · rw [jlt, l0, hin] at z
    refine ⟨_, m_look (n := 0) (σ := 1) hm hc (by decide) (by rw [lnf]; decide) (by rw [lf]; decide) (by rw [lnf]; exact R0) (Or.inl ⟨rfl, rfl⟩) (fun u v _ h2 _ => ?_), ?_⟩
    · rw [Int.one_mul, Int.one_mul]
      exact cb_up h2 (q_all (by omega) (by omega))
    · rintro I2 L2 A2 ⟨hR, f2, rfl⟩
      rw [lnf, lf, if_pos (by omega)] at hR
      exact ⟨hR.mono (by omega), f1.trans f2, rfl⟩
  rw [jlt, l0, hin] at z
  refine ⟨_, m_root (by rw [hin]; omega), ?_⟩
  rintro sv I2 L2 A2 ⟨⟨s0, s1, s2, s3⟩, rfl, rfl, rfl⟩
  rw [hin] at s2 s3
  obtain ⟨s, hs⟩ : ∃ s : Int, s = sv.toInt := ⟨_, rfl⟩
  rw [← hs] at s0 s1 s2 s3
  have hsb : s ≤ 400000 := by
    rcases Int.lt_or_le 400000 s with q | q
    · have := Int.mul_le_mul (show 400000 ≤ s by omega) (show 400000 ≤ s by omega) (by decide) (by omega)
      omega
    · exact q
  have hnB : (-(L2 m 20)).toInt = -B := by rw [jneg (by rw [h20]; omega), h20]
  have ha1 : (((-(L2 m 20)) - sv) - 1).toInt = -B - s - 1 := by
    have h1 : ((-(L2 m 20)) - sv).toInt = -B - s := by rw [jsub (by rw [hnB, ← hs]; omega) (by rw [hnB, ← hs]; omega), hnB, hs]
    rw [jsub (by rw [h1, l1]; omega) (by rw [h1, l1]; omega), h1, l1]
  have ha2 : (((-(L2 m 20)) + sv) + 1).toInt = -B + s + 1 := by
    have h1 : ((-(L2 m 20)) + sv).toInt = -B + s := by rw [jadd (by rw [hnB, ← hs]; omega) (by rw [hnB, ← hs]; omega), hnB, hs]
    rw [jadd (by rw [h1, l1]; omega) (by rw [h1, l1]; omega), h1, l1]
  refine ⟨_, m_below (by rw [ha1]; omega), ?_⟩
  rintro Fv I3 L3 A3 ⟨⟨F1, F2⟩, rfl, rfl, rfl⟩
  rw [ha1] at F1 F2
  refine ⟨_, m_below (by rw [ha2]; omega), ?_⟩
  rintro Gv I4 L4 A4 ⟨⟨G1, G2⟩, rfl, rfl, rfl⟩ Sv eS
  rw [ha2] at G1 G2
  obtain ⟨F, hF⟩ : ∃ F : Int, F = Fv.toInt := ⟨_, rfl⟩
  rw [← hF] at F1 F2
  have hS : Sv.toInt = Gv.toInt + 1 := by rw [eS, jadd (by rw [l1]; omega) (by rw [l1]; omega), l1]
  obtain ⟨S, hSd⟩ : ∃ S : Int, S = Sv.toInt := ⟨_, rfl⟩
  have S1 : 3 * S - 3 ≤ -B + s + 1 := by omega
  have S2 : -B + s + 1 < 3 * S := by omega
  have bF : -500000 ≤ F ∧ F ≤ 500000 := by clear s2 s3 hBB hin z; omega
  have bS : -500000 ≤ S ∧ S ≤ 500000 := by clear s2 s3 hBB hin z; omega
  have hFm : (Fv - 1).toInt = F - 1 := by rw [jsub (by rw [← hF, l1]; omega) (by rw [← hF, l1]; omega), ← hF, l1]
  refine ⟨_, m_look (n := 0) (σ := 1) hm hc (by decide) (by rw [lnf]; decide) (by rw [hFm]; omega) (by rw [lnf]; exact R0) (Or.inl ⟨rfl, rfl⟩) (fun u v _ h2 h3 => ?_), ?_⟩
  · rw [Int.one_mul, Int.one_mul]
    rw [hFm] at h3
    exact cb_up h2 (q_neg s0 (by omega) (by omega) s3)
  rintro I5 L5 A5 ⟨hR5, f5, rfl⟩
  rw [lnf, hFm, if_pos (by omega), show F - 1 + 1 = F by omega] at hR5
  have f15 := f1.trans f5
  -- three places
  unfold wp_X7_findRoots_102
  refine ⟨fun μ I' L' A' x1 x7 x9 x11 => ∃ i : Nat, i + μ = 3 ∧ x1 = 600000 ∧ Fv = x7 ∧ Sv = x9 ∧ x11.toInt = F + i ∧ RtS B C D m I' L' (1 + i) (F + i) ∧ FrG m I I' L4 L' ∧ A' = A5, 3, ⟨0, rfl, rfl, rfl, rfl, by rw [← hF]; omega, by rw [Int.natCast_zero, Int.add_zero]; exact hR5, f15, rfl⟩, ?_⟩
  rintro μ Cc hC I6 L6 A6 _ _ _ x11 ⟨i, hi, rfl, rfl, rfl, h11, hR6, f6, rfl⟩
  have hc6 := hc.fr f6
  have hF2 : (Fv + 2).toInt = F + 2 := by rw [jadd (by rw [← hF, l2]; omega) (by rw [← hF, l2]; omega), ← hF, l2]
  have hF3 : (Fv + 3).toInt = F + 3 := by rw [jadd (by rw [← hF, l3]; omega) (by rw [← hF, l3]; omega), ← hF, l3]
  have hS3 : (Sv - 3).toInt = S - 3 := by rw [jsub (by rw [← hSd, l3]; omega) (by rw [← hSd, l3]; omega), ← hSd, l3]
  have hS2 : (Sv - 2).toInt = S - 2 := by rw [jsub (by rw [← hSd, l2]; omega) (by rw [← hSd, l2]; omega), ← hSd, l2]
  have hS1 : (Sv + 1).toInt = S + 1 := by rw [jadd (by rw [← hSd, l1]; omega) (by rw [← hSd, l1]; omega), ← hSd, l1]
  refine ⟨fun w => ?_, fun w => ?_⟩
  rotate_left
  · rw [jlt, hF2, h11] at w
    refine ⟨hm.1, _, m_look1 (n := 1 + i) hm hc6 (by omega) (by rw [h11]; omega) (by rw [h11]; omega) (by rw [h11]; exact hR6), ?_⟩
    rintro I7 L7 A7 ⟨hR7, f7, rfl⟩ v28 e28
    have h28 : v28.toInt = F + ((i + 1 : Nat) : Int) := by rw [e28, jadd (by rw [h11, l1]; omega) (by rw [h11, l1]; omega), h11, l1]; omega
    refine hC (μ - 1) _ _ _ _ _ _ _ (by omega) ⟨i + 1, by omega, rfl, rfl, rfl, h28, ?_, f6.trans f7, rfl⟩
    rw [h11, show F + (i : Int) + 1 = F + ((i + 1 : Nat) : Int) by omega] at hR7
    exact hR7.mono (by omega)
  rw [jlt, hF2, h11] at w
  have hi3 : i = 3 := by omega
  subst hi3
  have hR6' : RtS B C D m I6 L6 4 (F + 3) := hR6
  refine ⟨hm.1, _, m_look (n := 4) (σ := -1) hm hc6 (by decide) (by rw [hF3]; omega) (by rw [hS3]; omega) (by rw [hF3]; exact hR6') (Or.inr ⟨rfl, rfl⟩) (fun u v h1 h2 h3 => ?_), ?_⟩
  · rw [hF3] at h1
    rw [hS3] at h3
    have := cb_dn (D := D) h2 (q_mid (x := 3 * u + B) (y := 3 * v + B) (s := s) (by omega) (by omega) (by omega) s2)
    omega
  rintro I7 L7 A7 ⟨hR7, f7, rfl⟩
  rw [hF3, hS3] at hR7
  have f17 := f6.trans f7
  -- the last places
  have last : ∀ x0 : Int64, (x0.toInt = if F + 3 ≤ S - 3 then S - 3 + 1 else F + 3) → wp_X7_findRoots_182 K m I7 L7 A7 600000 Fv Sv x0 (fun I' L' A' => RtS B C D m I' L' 100 600001 ∧ FrG m I I' L4 L' ∧ A' = A7) := fun x0 hx0 => by
    obtain ⟨w0, hw0⟩ : ∃ w0 : Int, w0 = if F + 3 ≤ S - 3 then S - 3 + 1 else F + 3 := ⟨_, rfl⟩
    rw [← hw0] at hx0 hR7
    have hw1 : F + 3 ≤ w0 ∧ S - 2 ≤ w0 ∧ (w0 = F + 3 ∨ w0 = S - 2) := by rw [hw0]; split <;> omega
    clear hw0
    exact fr_last (s := s) (F := F) (S := S) (w0 := w0) hm (hc.fr f17) hF hSd hF3 hF2 hS1 hx0 bF bS hw1 S2 s0 s3 hR7 (fun I' L' h1 h2 => ⟨h1, f17.trans h2, rfl⟩)
  refine ⟨fun q v20 e20 => last v20 ?_, fun q v21 e21 => last v21 ?_⟩
  · rw [jle, hS2, hF2] at q
    rw [e20, hF3, if_neg (by omega)]
  · rw [jle, hS2, hF2] at q
    rw [e21, hS2]
    split <;> omega
end
