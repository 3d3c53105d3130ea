/-! THE SPLITTER: its shape, load -/
section
variable {K : Cx} {I : TI} {L : TL} {A : TA}
/-- only places from a to below b are written -/
def Fr (a b : Nat) (I I' : TI) (L L' : TL) : Prop := ∀ y, ¬ (a ≤ y ∧ y < b) → I' y = I y ∧ L' y = L y
theorem Fr.refl (a b : Nat) (I : TI) (L : TL) : Fr a b I I L L := fun _ _ => ⟨rfl, rfl⟩
theorem Fr.trans {a b : Nat} {I' I'' : TI} {L' L'' : TL} (h : Fr a b I I' L L') (h' : Fr a b I' I'' L' L'') : Fr a b I I'' L L'' := fun y hy => ⟨(h' y hy).1.trans (h y hy).1, (h' y hy).2.trans (h y hy).2⟩
theorem Fr.mono {a b c d : Nat} {I' : TI} {L' : TL} (h : Fr a b I I' L L') (h1 : c ≤ a) (h2 : b ≤ d) : Fr c d I I' L L' := fun y hy => h y (fun w => hy ⟨by omega, by omega⟩)
theorem ChR.fab {a b : Nat} {S : Nat → Prop} {I' : TI} {L' : TL} (h : ChR S I I' L L') (hS : ∀ r, S r → a ≤ r ∧ r + 1 < b) : Fr a b I I' L L' := fun y hy => ⟨h.1 y (fun w => hy (by have := hS y w; omega)), h.2 y (fun r hr e => hy (by have := hS r hr; omega))⟩
theorem RowN.fr {a b r d : Nat} {I' : TI} {L' : TL} (h : RowN I L r d) (hf : Fr a b I I' L L') (hr : r + 1 < a ∨ b ≤ r) : RowN I' L' r d := h.keep (hf r (by omega)).1 (hf (r + 1) (by omega)).2
theorem fr_pl {a b r : Nat} {I' : TI} {L' : TL} (hf : Fr a b I I' L L') (hr : r + 1 < a ∨ b ≤ r) : pl L' r = pl L r := pl_keep (hf (r + 1) (by omega)).2
abbrev cj (s j : Nat) : Nat := s + 18 + 2 * j
abbrev eq5 (s j : Nat) : Nat := s + 27 + 2 * j
abbrev pc5 (s j : Nat) : Nat := s + 42 + 2 * j
def isX5 (K : Cx) (s : Nat) : Prop := cxS K s = shX5 s ∧ isX3 K (s + 1) ∧ isRow K (s + 7) ∧ isRow K (s + 9) ∧ isRow K (s + 11) ∧ isRow K (s + 13) ∧ isRow K (s + 15) ∧ cxS K (s + 17) = .inr (2, 4) ∧ (∀ j, j < 4 → isRow K (cj s j)) ∧ cxS K (s + 26) = .inr (2, 7) ∧ (∀ j, j < 7 → isRow K (eq5 s j)) ∧ cxS K (s + 41) = .inr (2, 6) ∧ ∀ j, j < 6 → isRow K (pc5 s j)
def AX5 (A : TA) (s : Nat) : Prop := (∀ j, j < 4 → A (s + 17) j = cj s j) ∧ (∀ j, j < 7 → A (s + 26) j = eq5 s j) ∧ ∀ j, j < 6 → A (s + 41) j = pc5 s j
theorem isX5.x3 {s : Nat} (h : isX5 K s) : isX3 K (s + 1) := h.2.1
theorem isX5.im {s : Nat} (h : isX5 K s) : isRow K (s + 7) := h.2.2.1
theorem isX5.re {s : Nat} (h : isX5 K s) : isRow K (s + 9) := h.2.2.2.1
theorem isX5.li {s : Nat} (h : isX5 K s) : isRow K (s + 11) := h.2.2.2.2.1
theorem isX5.he {s : Nat} (h : isX5 K s) : isRow K (s + 13) := h.2.2.2.2.2.1
theorem isX5.fo {s : Nat} (h : isX5 K s) : isRow K (s + 15) := h.2.2.2.2.2.2.1
theorem isX5.cjr {s j : Nat} (h : isX5 K s) (hj : j < 4) : isRow K (cj s j) := h.2.2.2.2.2.2.2.2.1 j hj
theorem isX5.eqr {s j : Nat} (h : isX5 K s) (hj : j < 7) : isRow K (eq5 s j) := h.2.2.2.2.2.2.2.2.2.2.1 j hj
theorem isX5.pcr {s j : Nat} (h : isX5 K s) (hj : j < 6) : isRow K (pc5 s j) := h.2.2.2.2.2.2.2.2.2.2.2.2 j hj
theorem isX5.cja {s j : Nat} (h : isX5 K s) (hj : j < 4) {x : Int32} (hx : x.toInt = j) : aok (cxS K) (s + 17) 2 x := ⟨4, h.2.2.2.2.2.2.2.1, inOf hx hj⟩
theorem isX5.eqa {s j : Nat} (h : isX5 K s) (hj : j < 7) {x : Int32} (hx : x.toInt = j) : aok (cxS K) (s + 26) 2 x := ⟨7, h.2.2.2.2.2.2.2.2.2.1, inOf hx hj⟩
theorem isX5.pca {s j : Nat} (h : isX5 K s) (hj : j < 6) {x : Int32} (hx : x.toInt = j) : aok (cxS K) (s + 41) 2 x := ⟨6, h.2.2.2.2.2.2.2.2.2.2.2.1, inOf hx hj⟩
/-- a slope, as numbers -/
theorem slope_i {I' : TI} {L' : TL} {r u : Nat} {B : Nat} (hB : ∀ k, (pl L u k).natAbs ≤ B) (hB2 : 13 * B < 9223372036854775808) (h : RowIs I' L' r (fun k => if k < 12 then Int32.toInt64 (nI (k + 1)) * L (u + 1) (k + 1) else 0)) : pl L' r = drv (pl L u) := funext fun k => by
  unfold drv
  by_cases w : k < 13
  · rw [pl_lt w, h.1 k w]
    by_cases w2 : k < 12
    · have hb := hB (k + 1)
      rw [pl_lt (by omega)] at hb
      simp only [if_pos w2]
      rw [jmulB (m := 13) (n := B) (by rw [Int32.toInt_toInt64, tI (by omega)]; omega) hb hB2, Int32.toInt_toInt64, tI (by omega), pl_lt (by omega)]
      rfl
    · simp only [if_neg w2]
      rw [show pl L u (k + 1) = 0 from if_neg (by omega)]; simp
  · rw [pl, if_neg w, show pl L u (k + 1) = 0 from if_neg (by omega)]; simp
/-- the image is what a polynomial is modulo p, with the lead 1 -/
def Img (p : Nat) (f F : PP) (n : Nat) : Prop := (∃ c c' : Int, (p : Int) ∣ c * c' - 1 ∧ cg p F (pc c f)) ∧ rsd p F ∧ dgI F n ∧ F n = 1
theorem unit_nd {p : Nat} (hp : Pr (p : Int)) {c c' : Int} (h : (p : Int) ∣ c * c' - 1) : ¬ (p : Int) ∣ c := fun w => hp.n1 (by
  have := Int.dvd_sub (Int.dvd_mul_of_dvd_left (c := c') w) h
  rwa [show c * c' - (c * c' - 1) = 1 by omega] at this)
theorem img_asc {p : Nat} (hp : Pr (p : Int)) {f F : PP} {n : Nat} (h : Img p f F n) : asc p f F := by
  obtain ⟨⟨c, c', h1, h2⟩, -⟩ := h
  exact (asc.c hp (unit_nd hp h1)).trans (asc.of_cg h2.symm)
theorem img_ascd {p : Nat} (hp : Pr (p : Int)) {f F : PP} {n : Nat} (h : Img p f F n) : asc p (drv f) (drv F) := by
  obtain ⟨⟨c, c', h1, h2⟩, -⟩ := h
  have h3 := cg.drv' h2
  rw [drv_c] at h3
  exact (asc.c hp (unit_nd hp h1)).trans (asc.of_cg h3.symm)
set_option maxHeartbeats 2000000 in
/-- load(whole, prime) -/
theorem s_load {s u n p : Nat} {j : Int64} (hs : isX5 K s) (hu : isRow K u) (hout : u + 1 < s + 1 ∨ s + 17 ≤ u) (nu : RowN I L u (n + 1)) (hb : ∀ k, (pl L u k).natAbs ≤ 1000000000) (hP : Pm p) (hj : j.toInt = p) : ConI K yX5_load wsX5_load 4 92 I L A [.ref s, .ref u, .long j] (fun v I' L' A' => ((v = 1 ∧ 0 < n ∧ ¬ (p : Int) ∣ pl L u n ∧ Img p (pl L u) (pl L' (s + 7)) n ∧ RowN I' L' (s + 7) (n + 1) ∧ ∃ D G, GcdM p G (pl L' (s + 7)) D ∧ cg p D (drv (pl L' (s + 7))) ∧ md p G 0) ∨ (v = 0 ∧ (n = 0 ∨ (p : Int) ∣ pl L u n ∨ (¬ (p : Int) ∣ pl L u n ∧ ∃ F D G e, asc p (pl L u) F ∧ asc p (drv (pl L u)) D ∧ GcdM p G F D ∧ md p G e ∧ 0 < e)))) ∧ mdl L' (s + 1) = p ∧ Fr (s + 1) (s + 17) I I' L L' ∧ A' = A) := by
  have hp1 := hP.1.1
  have hp2 := hP.2
  have hn13 := nu.1.2.1
  apply w_X5_load
  unfold wp_X5_load
  refine ⟨hs.1, hs.x3.1, _, s_useModulus hs.x3.1, ?_⟩
  rintro I1 L1 A1 ⟨rfl, e1, rfl⟩
  have hj2 : ¬ j < 2 := by rw [jlt, hj]; have : (2 : Int64).toInt = 2 := rfl; omega
  rw [if_neg hj2] at e1
  have f1 : Fr (s + 1) (s + 17) I1 I1 L L1 := fun y hy => ⟨rfl, by rw [e1, u2_off _ _ (by omega)]⟩
  have m1 : mdl L1 (s + 1) = p := by show (L1 (s + 1) 0).toInt = p; rw [e1, u2_self, hj]
  have pu1 : pl L1 u = pl L u := fr_pl f1 hout
  refine ⟨_, s_reduce hs.x3.1 hs.im hu (fun z => by rw [j0] at z; unfold mdl at m1; omega), ?_⟩
  rintro I2 L2 A2 ⟨r2, c2, rfl⟩
  have hv2 := reduce_i (by rw [m1]; omega) (fun k => by rw [pu1]; have := hb k; omega) r2
  rw [m1, pu1] at hv2
  have n2 := r2.rn
  generalize ln (fun k => fmJ (L1 (u + 1) k) (L1 (s + 1) 0)) 13 = d2 at n2
  have f2 := f1.trans (c2.fab (fun r hr => by omega))
  have m2 : mdl L2 (s + 1) = p := by show (L2 (s + 1) 0).toInt = p; rw [c2.2 (s + 1) (fun r hr => by rw [hr]; omega)]; exact m1
  have hIu : I2 u 1 = nI n := by rw [(f2 u (by omega)).1, nu.1.1, tp_s]
  have hd13 := n2.1.2.1
  have hI7 : I2 (s + 7) 1 = tpI d2 := n2.1.1
  have hle : d2 ≤ n + 1 := n2.le (fun k hk => by rw [hv2 k, nu.1.dl k hk]; simp)
  have htop : I2 (s + 7) 1 = I2 u 1 ↔ d2 = n + 1 := by
    rw [hI7, hIu, ← Int32.toInt_inj, tm1 (by omega), tI (by omega)]; omega
  have hdv : d2 = n + 1 ↔ ¬ (p : Int) ∣ pl L u n := by
    constructor
    · intro e w
      have := n2.2 n e
      rw [hv2 n] at this
      exact this (Int.emod_eq_zero_of_dvd w)
    · intro w
      rcases Nat.lt_or_ge d2 (n + 1) with q | q
      · have := n2.1.dl n (by omega)
        rw [hv2 n] at this
        exact absurd (Int.dvd_of_emod_eq_zero this) w
      · omega
  refine ⟨hs.im.1, hu.1, fun z => ?_, fun z => ?_⟩
  rotate_left
  · exact ⟨Or.inr ⟨rfl, Or.inr (Or.inl (Classical.byContradiction fun w => z (htop.mpr (hdv.mpr w))))⟩, m2, f2, rfl⟩
  have hd2 := htop.mp z
  subst hd2
  have hnd := hdv.mp rfl
  refine ⟨fun z2 => ?_, fun z2 => ?_⟩
  rotate_left
  · rw [hI7, tp_s, ile, tI (by omega), li1] at z2
    exact ⟨Or.inr ⟨rfl, Or.inl (by omega)⟩, m2, f2, rfl⟩
  rw [hI7, tp_s, ile, tI (by omega), li1] at z2
  have r2s : rsd p (pl L2 (s + 7)) := rsd_of (by omega) hv2
  refine ⟨_, s_makeMonic hs.x3.1 hs.im m2 hP r2s n2, ?_⟩
  rintro I3 L3 A3 ⟨⟨c, c', hcc, hcg3⟩, r3, n3, l3, c3, rfl⟩
  have f3 := f2.trans (c3.fab (fun r hr => by omega))
  have m3 : mdl L3 (s + 1) = p := by show (L3 (s + 1) 0).toInt = p; rw [c3.2 (s + 1) (fun r hr => by rw [hr]; omega)]; exact m2
  have hImg : Img p (pl L u) (pl L3 (s + 7)) n := ⟨⟨c, c', hcc, hcg3.trans (cg.c c (cg_of hv2))⟩, r3, n3.dg, l3 n rfl⟩
  refine ⟨hs.he.1, _, s_becomeSlope hs.he hs.im (by omega) n3.1, ?_⟩
  rintro I4 L4 A4 ⟨r4, c4, rfl⟩
  have h4 : pl L4 (s + 13) = drv (pl L3 (s + 7)) := slope_i (B := 67108864) (fun k => by have := r3 k; omega) (by decide) r4
  have f4 := f3.trans (c4.fab (fun r hr => by omega))
  have m4 : mdl L4 (s + 1) = p := by show (L4 (s + 1) 0).toInt = p; rw [c4.2 (s + 1) (fun r hr => by rw [hr]; omega)]; exact m3
  refine ⟨_, s_reduce hs.x3.1 hs.re hs.he (fun z => by rw [j0] at z; unfold mdl at m4; omega), ?_⟩
  rintro I5 L5 A5 ⟨r5, c5, rfl⟩
  have hv5 := reduce_i (by rw [m4]; omega) (fun k => by
    rw [h4]
    have := r3 (k + 1)
    unfold drv
    by_cases w : k < 12
    · have := mul_ab (a := (k : Int) + 1) (b := pl L3 (s + 7) (k + 1)) (m := 13) (n := 67108864) (by omega) (by omega)
      omega
    · rw [show pl L3 (s + 7) (k + 1) = 0 from if_neg (by omega)]; simp) r5
  rw [m4, h4] at hv5
  have f5 := f4.trans (c5.fab (fun r hr => by omega))
  have m5 : mdl L5 (s + 1) = p := by show (L5 (s + 1) 0).toInt = p; rw [c5.2 (s + 1) (fun r hr => by rw [hr]; omega)]; exact m4
  have p7 : pl L5 (s + 7) = pl L3 (s + 7) := (pl_keep (c5.l (by omega))).trans (pl_keep (c4.l (by omega)))
  have n7 : RowN I5 L5 (s + 7) (n + 1) := (n3.ch c4 (by omega)).ch c5 (by omega)
  refine ⟨_, s_findCommon hs.x3 hs.fo hs.im hs.re (by omega) (by omega) (by omega) (by omega) m5 hP (by rw [p7]; exact r3) (rsd_of (by omega) hv5) n7 r5.rn, ?_⟩
  rintro I6 L6 A6 ⟨hG, r6, ⟨d6, n6, l6, z6⟩, c6, rfl⟩
  have f6 := f5.trans (c6.fab (fun r hr => by rcases hr with rfl | rfl | rfl <;> omega))
  have m6 : mdl L6 (s + 1) = p := by show (L6 (s + 1) 0).toInt = p; rw [c6.2 (s + 1) (fun r hr => by rcases hr with rfl | rfl | rfl <;> omega)]; exact m5
  have p76 : pl L6 (s + 7) = pl L3 (s + 7) := (pl_keep (c6.l (by omega))).trans p7
  rw [p7] at hG
  have hd6 : d6 ≠ 0 := fun e => by have := (z6 e).1; omega
  have hd613 := n6.1.2.1
  obtain ⟨e6, rfl⟩ : ∃ e6, d6 = e6 + 1 := ⟨d6 - 1, by omega⟩
  have hmd : md p (pl L6 (s + 15)) e6 := rsd_md r6 n6.dg
  refine ⟨hs.fo.1, fun z3 => ?_, fun z3 => ?_⟩
  · rw [n6.1.1, tp_s, ← Int32.toInt_inj, tI (by omega), li0] at z3
    have : e6 = 0 := by omega
    subst this
    refine ⟨Or.inl ⟨rfl, by omega, hnd, by rw [p76]; exact hImg, n7.ch c6 (by omega), _, _, by rw [p76]; exact hG, ?_, hmd⟩, m6, f6, rfl⟩
    rw [p76]; exact cg_of hv5
  · rw [n6.1.1, tp_s, ← Int32.toInt_inj, tI (by omega), li0] at z3
    refine ⟨Or.inr ⟨rfl, Or.inr (Or.inr ⟨hnd, _, _, _, e6, img_asc hP.1 hImg, (img_ascd hP.1 hImg).trans (asc.of_cg (cg_of hv5).symm), hG, hmd, by omega⟩)⟩, m6, f6, rfl⟩
end
