/-! THE REFERENCE: the order of the parts, addLast -/
section
variable {K : Cx} {I : TI} {L : TL} {A : TA}
/-- the order of the parts, for polynomials with a lead above 0 -/
def bef (a b : PP) : Prop := ∃ k, a k < b k ∧ ∀ j, k < j → a j = b j
def posL (a : PP) : Prop := ∃ d, dgI a d ∧ 0 < a d
theorem bef.asym {a b : PP} (h : bef a b) (h' : bef b a) : False := by
  obtain ⟨k, h1, h2⟩ := h
  obtain ⟨l, h3, h4⟩ := h'
  rcases Nat.lt_or_ge k l with w | w
  · have := h2 l w; omega
  · rcases Nat.lt_or_ge l k with w' | w'
    · have := h4 k w'; omega
    · have e : k = l := by omega
      subst e; omega
theorem bef.irr {a : PP} (h : bef a a) : False := h.asym h
theorem bef.trans {a b c : PP} (h : bef a b) (h' : bef b c) : bef a c := by
  obtain ⟨k, h1, h2⟩ := h
  obtain ⟨l, h3, h4⟩ := h'
  rcases Nat.lt_or_ge k l with w | w
  · exact ⟨l, by rw [h2 l w]; exact h3, fun j hj => (h2 j (by omega)).trans (h4 j hj)⟩
  · rcases Nat.lt_or_ge l k with w' | w'
    · exact ⟨k, by rw [← h4 k w']; exact h1, fun j hj => (h2 j hj).trans (h4 j (by omega))⟩
    · have e : k = l := by omega
      subst e
      exact ⟨k, by omega, fun j hj => (h2 j hj).trans (h4 j hj)⟩
theorem bef_tri' {a b : PP} : ∀ n, (∀ j, n ≤ j → a j = b j) → bef a b ∨ a = b ∨ bef b a
  | 0, h => Or.inr (Or.inl (funext fun j => h j (Nat.zero_le j)))
  | n + 1, h => by
    rcases Int.lt_trichotomy (a n) (b n) with w | w | w
    · exact Or.inl ⟨n, w, fun j hj => h j hj⟩
    · exact bef_tri' n (fun j hj => by
        by_cases e : j = n
        · rw [e]; exact w
        · exact h j (by omega))
    · exact Or.inr (Or.inr ⟨n, w, fun j hj => (h j hj).symm⟩)
theorem bef_tri {a b : PP} (ha : Pf a) (hb : Pf b) : bef a b ∨ a = b ∨ bef b a := by
  obtain ⟨n, hn⟩ := ha
  obtain ⟨k, hk⟩ := hb
  exact bef_tri' (n + k) (fun j hj => by rw [hn j (by omega), hk j (by omega)])
theorem ldec {j : Nat} (h : j < 1000) : (nI j + (-1)) = tpI j := iext (by
  rw [tm1 (by omega), iadd (by rw [tI (by omega), lim1]; omega) (by rw [tI (by omega), lim1]; omega), tI (by omega), lim1]; omega)
theorem m_isBefore {m x y : Nat} (hm : isX7 K m) (hx : x < 30) (hy : y < 30) (ha : posL (rp L m x)) (hb : posL (rp L m y)) : ConI K yX7_isBefore wsX7_isBefore 1 22 I L A [.ref m, .int (nI x), .int (nI y)] (fun v I' L' A' => ((v = 1 ∧ bef (rp L m x) (rp L m y)) ∨ (v = 0 ∧ ¬ bef (rp L m x) (rp L m y))) ∧ I' = I ∧ L' = L ∧ A' = A) := by
  obtain ⟨d, hd, hdp⟩ := ha
  obtain ⟨e, he, hep⟩ := hb
  have hd8 := hd.lt (rp_dl L m x)
  have he8 := he.lt (rp_dl L m y)
  have l1 : lnP (rp L m x) 8 = d + 1 := lnP_of hd.2 (fun z hz => by rw [show z = d by omega]; exact hd.1) (by omega)
  have l2 : lnP (rp L m y) 8 = e + 1 := lnP_of he.2 (fun z hz => by rw [show z = e by omega]; exact he.1) (by omega)
  apply w_X7_isBefore
  unfold wp_X7_isBefore
  refine ⟨hm.1, _, m_degreeOf hm hx, ?_⟩
  rintro v I1 L1 A1 ⟨rfl, rfl, rfl, rfl⟩
  refine ⟨_, m_degreeOf hm hy, ?_⟩
  rintro v I2 L2 A2 ⟨rfl, rfl, rfl, rfl⟩
  rw [l1, l2, tp_s, tp_s]
  refine ⟨fun z => ?_, fun z => ⟨_, m_degreeOf hm hy, ?_⟩⟩
  · have hde : d = e := by rw [← Int32.toInt_inj, tI (by omega), tI (by omega)] at z; omega
    subst hde
    unfold wp_X7_isBefore_33
    refine ⟨fun μ I' L' A' v => μ ≤ 8 ∧ v = tpI μ ∧ (∀ j, μ ≤ j → rp L2 m x j = rp L2 m y j) ∧ I' = I2 ∧ L' = L2 ∧ A' = A2, d + 1, ⟨by omega, (tp_s d).symm, fun j hj => by rw [hd.2 j hj, he.2 j hj], rfl, rfl, rfl⟩, ?_⟩
    rintro μ C hC I' L' A' _ ⟨hμ, rfl, hj, rfl, rfl, rfl⟩
    refine ⟨fun q => ?_, fun q => ?_⟩
    · rw [tp_lt0 (by omega)] at q
      subst q
      refine ⟨Or.inr ⟨rfl, fun w => ?_⟩, rfl, rfl, rfl⟩
      rw [show rp L' m x = rp L' m y from funext fun j => hj j (Nat.zero_le j)] at w
      exact w.irr
    · rw [tp_lt0 (by omega)] at q
      obtain ⟨k, rfl⟩ : ∃ k, μ = k + 1 := ⟨μ - 1, by omega⟩
      rw [tp_s]
      have hix := rix hx (show k < 8 by omega) (x := nI x) rfl (tI (k := k) (by omega))
      have hiy := rix hy (show k < 8 by omega) (x := nI y) rfl (tI (k := k) (by omega))
      have ox := rok hm hx (show k < 8 by omega) hix
      have oy := rok hm hy (show k < 8 by omega) hiy
      rw [ix_of hix, ix_of hiy]
      refine ⟨hm.1, ox, oy, fun w v4 e4 => ?_, fun w => ⟨ox, oy, fun w2 => ?_, fun w2 => ?_⟩⟩
      · refine hC k _ _ _ _ (by omega) ⟨by omega, by rw [e4, ldec (by omega)], fun j hj' => ?_, rfl, rfl, rfl⟩
        by_cases ej : j = k
        · rw [ej, rp_lt (by omega), rp_lt (by omega), w]
        · exact hj j (by omega)
      · rw [jle, ← rp_lt (by omega), ← rp_lt (by omega)] at w2
        rw [← Int64.toInt_inj, ← rp_lt (show k < 8 by omega), ← rp_lt (show k < 8 by omega)] at w
        exact ⟨Or.inr ⟨rfl, fun t => t.asym ⟨k, by omega, fun j hj' => (hj j hj').symm⟩⟩, rfl, rfl, rfl⟩
      · rw [jle, ← rp_lt (by omega), ← rp_lt (by omega)] at w2
        exact ⟨Or.inl ⟨rfl, k, by omega, fun j hj' => hj j hj'⟩, rfl, rfl, rfl⟩
  · rintro v I3 L3 A3 ⟨rfl, rfl, rfl, rfl⟩
    have hne : d ≠ e := fun t => z (by rw [t])
    rw [l2, tp_s, ile, tI (by omega), tI (by omega)]
    refine ⟨fun w => ⟨Or.inr ⟨rfl, fun t => t.asym ⟨d, ?_, fun j hj => ?_⟩⟩, rfl, rfl, rfl⟩, fun w => ⟨Or.inl ⟨rfl, e, ?_, fun j hj => ?_⟩, rfl, rfl, rfl⟩⟩
    · rw [he.2 d (by omega)]; exact hdp
    · rw [he.2 j (by omega), hd.2 j (by omega)]
    · rw [hd.2 e (by omega)]; exact hep
    · rw [he.2 j (by omega), hd.2 j (by omega)]
/-- leads above 0 in products -/
theorem posL.mul {a b : PP} (ha : posL a) (hb : posL b) : posL (pm a b) := by
  obtain ⟨d, hd, hdp⟩ := ha
  obtain ⟨e, he, hep⟩ := hb
  exact ⟨d + e, hd.mul he, by rw [pm_top d a b e hd.2 he.2]; exact Int.mul_pos hdp hep⟩
theorem posL.of_mul {a b : PP} (ha : posL a) (hb : Pf b) (hb0 : b ≠ p0) (h : posL (pm a b)) : posL b := by
  obtain ⟨d, hd, hdp⟩ := ha
  obtain ⟨e, he⟩ := hb.dg hb0
  obtain ⟨n, hn, hnp⟩ := h
  have : n = d + e := hn.uniq (hd.mul he)
  subst this
  rw [pm_top d a b e hd.2 he.2] at hnp
  refine ⟨e, he, ?_⟩
  rcases Int.lt_or_le 0 (b e) with w | w
  · exact w
  · have := Int.mul_nonpos_of_nonneg_of_nonpos (Int.le_of_lt hdp) w
    omega
theorem posL.one : posL (pk0 1) := ⟨0, ⟨by show (1 : Int) ≠ 0; decide, fun k hk => by cases k with
  | zero => omega
  | succ k => rfl⟩, by show (0 : Int) < 1; decide⟩
theorem posL.pw {a : PP} (ha : posL a) : ∀ k, posL (pw a k)
  | 0 => posL.one
  | k + 1 => ha.mul (posL.pw ha k)
theorem prd_pos {q : Nat → PP} {n : Nat → Nat} : ∀ c, (∀ i, i < c → posL (q i)) → posL (prd q n c)
  | 0, _ => posL.one
  | c + 1, h => (prd_pos c (fun i hi => h i (by omega))).mul ((h c (by omega)).pw _)
/-- what is left is irreducible -/
theorem irr_left {g : PP} {d : Nat} (hg : dgI g d) (hd : 0 < d) (hd6 : d ≤ 6) (hp : prim g) (h1 : ∀ t, dgI t 1 → ¬ dv t g) (h2 : 4 ≤ d → ∀ t, dgI t 2 → ¬ dv t g) (h3 : d = 6 → ∀ t, dgI t 3 → ¬ dv t g) : Irr g := by
  refine ⟨⟨d, hd, hg⟩, hp, fun x y hx hy e => ?_⟩
  have hx0 : x ≠ p0 := fun z => hg.ne (by rw [← e, z, pm_0l])
  have hy0 : y ≠ p0 := fun z => hg.ne (by rw [← e, z]; funext k; rw [pm_comm, pm_0l])
  obtain ⟨i, hi⟩ := hx.dg hx0
  obtain ⟨j, hj⟩ := hy.dg hy0
  have hij : i + j = d := (show dgI g (i + j) from by rw [← e]; exact hi.mul hj).uniq hg
  have dx : dv x g := ⟨y, hy, e⟩
  have dy : dv y g := ⟨x, hx, by rw [← e]; funext k; rw [pm_comm]⟩
  have key : ∀ (t : PP) (s : Nat), dgI t s → dv t g → s + s ≤ d → s = 0 := fun t s ht w hs => by
    by_cases s1 : s = 1
    · subst s1; exact absurd w (h1 t ht)
    by_cases s2 : s = 2
    · subst s2; exact absurd w (h2 (by omega) t ht)
    by_cases s3 : s = 3
    · subst s3; exact absurd w (h3 (by omega) t ht)
    omega
  rcases Nat.le_total i j with w | w
  · have := key x i hi dx (by omega)
    subst this; exact Or.inl hi.2
  · have := key y j hj dy (by omega)
    subst this; exact Or.inr hj.2
/-- taken apart: distinct irreducible ones whose product it is -/
def Fac (f0 : PP) (c : Nat) (q : Nat → PP) (n : Nat → Nat) : Prop := f0 = prd q n c ∧ (∀ i, i < c → Irr (q i) ∧ posL (q i) ∧ 0 < n i) ∧ ∀ i j, i < c → j < c → i ≠ j → q i ≠ q j
theorem FS.fac0 {f0 g : PP} {c : Nat} {q : Nat → PP} {n : Nat → Nat} (h : FS f0 c q n g) (hf : body f0) (hg : dgI g 0) : Fac f0 c q n := by
  obtain ⟨h1, h2, h3, h4, h5⟩ := h
  have hg1 : g = pk0 1 := by
    have e := dgI0 hg
    have hd : dv g f0 := FS.dvd ⟨h1, h2, h3, h4, h5⟩
    have hpr := prim_dv hf.2.1 hd
    have hpos : posL g := posL.of_mul (prd_pos c (fun i hi => (h4 i hi).2.1)) h1 h2 (by rw [← h3]; exact hf.2.2)
    obtain ⟨n0, hn0, hp0⟩ := hpos
    have : n0 = 0 := hn0.uniq hg
    subst this
    by_cases w : g 0 = 1
    · rw [e, w]
    · exfalso
      obtain ⟨l, hl, hlp⟩ := pr_ex (g 0).natAbs (by omega)
      refine hpr l hlp (fun k => ?_)
      cases k with
      | zero => exact Int.natAbs_dvd_natAbs.mp (by rw [Int.natAbs_natCast]; exact hl)
      | succ k => rw [hg.2 (k + 1) (by omega)]; exact Int.dvd_zero _
  refine ⟨by rw [h3, hg1]; funext k; rw [pm_comm, pm_1l], fun i hi => ⟨(h4 i hi).1, (h4 i hi).2.1, (h4 i hi).2.2.1⟩, fun i j hi hj hij => ?_⟩
  rcases Nat.lt_or_ge i j with w | w
  · exact h5 i j w hj
  · exact fun t => h5 j i (by omega) hi t.symm
theorem FS.fac1 {f0 g : PP} {c : Nat} {q : Nat → PP} {n : Nat → Nat} (h : FS f0 c q n g) (hf : body f0) (hg : Irr g) : Fac f0 (c + 1) (upN q c g) (upN n c 1) := by
  obtain ⟨h1, h2, h3, h4, h5⟩ := h
  have hpos : posL g := posL.of_mul (prd_pos c (fun i hi => (h4 i hi).2.1)) h1 h2 (by rw [← h3]; exact hf.2.2)
  have hne : ∀ i, i < c → q i ≠ g := fun i hi t => (h4 i hi).2.2.2 (by rw [t]; exact dv.refl g)
  refine ⟨?_, fun i hi => ?_, fun i j hi hj hij => ?_⟩
  · have e1 : prd (upN q c g) (upN n c 1) c = prd q n c := prd_congr c (fun i hi => ⟨if_neg (by omega), if_neg (by omega)⟩)
    rw [prd, e1, show upN q c g c = g from if_pos rfl, show upN n c 1 c = 1 from if_pos rfl, h3]
    congr 1
    show g = pm g (pk0 1)
    funext k; rw [pm_comm, pm_1l]
  · unfold upN
    by_cases w : i = c
    · rw [if_pos w, if_pos w]; exact ⟨hg, hpos, by omega⟩
    · rw [if_neg w, if_neg w]; exact ⟨(h4 i (by omega)).1, (h4 i (by omega)).2.1, (h4 i (by omega)).2.2.1⟩
  · unfold upN
    by_cases w : i = c
    · rw [if_pos w, if_neg (by omega)]; exact fun t => hne j (by omega) t.symm
    · by_cases w' : j = c
      · rw [if_neg w, if_pos w']; exact hne i (by omega)
      · rw [if_neg w, if_neg w']
        rcases Nat.lt_or_ge i j with u | u
        · exact h5 i j u (by omega)
        · exact fun t => h5 j i (by omega) (by omega) t.symm
theorem m_addLast {m c : Nat} {q : Nat → PP} {n : Nat → Nat} {g : PP} (hm : isX7 K m) (hp : PtS m I L c q n) (hg : rp L m 8 = g) (hc : c < 6) (hne : ∀ i, i < c → q i ≠ g) :
    ConV K yX7_addLast wsX7_addLast 2 45 I L A [.ref m] (fun I' L' A' => PtS m I' L' (c + 1) (upN q c g) (upN n c 1) ∧ RU m rT L L' ∧ FrI m I I' ∧ A' = A) := by
  apply w_X7_addLast
  unfold wp_X7_addLast wp_X7_addLast_2
  refine ⟨fun μ I' L' A' x => ∃ i, i + μ = c ∧ x = nI i ∧ I' = I ∧ L' = L ∧ A' = A, c, ⟨0, by omega, rfl, rfl, rfl, rfl⟩, ?_⟩
  rintro μ C hC I' L' A' _ ⟨i, hi, rfl, rfl, rfl, rfl⟩
  refine ⟨hm.1, fun z => ⟨_, m_addPart (k := 1) hm (show 8 < 12 by omega) hp hc (by omega) (by omega), ?_⟩, fun z => ?_⟩
  · rintro I1 L1 A1 ⟨h1, h2, h3, h4⟩
    rw [hg] at h1
    exact ⟨h1, h2.mono (fun s hs => by show 8 ≤ s ∧ s < 20; omega), h3, h4⟩
  · rw [hp.1, ile, tI (by omega), tI (by omega)] at z
    have hic : i < c := by omega
    unfold wp_X7_addLast_14
    refine ⟨fun ν I1 L1 A1 x1 x2 x3 => ∃ k, k + ν = 8 ∧ x1 = nI i ∧ x3 = nI k ∧ ((x2 = 0 ∧ True) ∨ (x2 = 1 ∧ ∀ j, j < k → q i j = g j)) ∧ I1 = I' ∧ L1 = L' ∧ A1 = A', 8, ⟨0, by omega, rfl, rfl, Or.inr ⟨rfl, fun j hj => by omega⟩, rfl, rfl, rfl⟩, ?_⟩
    rintro ν C' hC' I1 L1 A1 _ x2 _ ⟨k, hk, rfl, rfl, hx2, rfl, rfl, rfl⟩
    have l8 : (8 : Int32).toInt = 8 := by decide
    refine ⟨fun w => ⟨fun w2 v hv => ?_, fun w2 => ?_⟩, fun w => ⟨fun w2 v hv => ?_, fun w2 => ?_⟩⟩
    · exact hC (μ - 1) _ _ _ _ (by omega) ⟨i + 1, by omega, by rw [hv, sI], rfl, rfl, rfl⟩
    · rw [ile, l8, tI (by omega)] at w
      rcases hx2 with ⟨h, -⟩ | ⟨-, h⟩
      · exact absurd h w2
      · refine absurd (funext fun j => ?_) (hne i hic)
        by_cases y : j < 8
        · exact h j (by omega)
        · rw [← hg, ← (hp.2.2 i hic).1, rp_dl _ _ _ j (by omega), rp_dl _ _ _ j (by omega)]
    · rw [ile, l8, tI (by omega)] at w
      exact hC' (ν - 1) _ _ _ _ _ _ (by omega) ⟨k + 1, by omega, rfl, by rw [hv, sI], Or.inl ⟨rfl, trivial⟩, rfl, rfl, rfl⟩
    · rw [ile, l8, tI (by omega)] at w
      have hk8 : k < 8 := by omega
      have h12 : (12 : Int32) + nI i = nI (12 + i) := eqn (by
        have : (12 : Int32).toInt = 12 := by decide
        rw [iadd (by rw [tI (by omega), this]; omega) (by rw [tI (by omega), this]; omega), tI (by omega), this]; omega)
      have hcc := hp.2.1
      have hi1 := rix (show 12 + i < 30 by omega) hk8 h12 (tI (k := k) (by omega))
      have hi2 := six4 hk8 (x := nI k) rfl
      rw [ix_of hi1, ix_of hi2]
      refine ⟨hm.1, rok hm (by omega) hk8 hi1, rok hm (show 8 < 30 by omega) hk8 hi2, fun w3 v hv => ?_, fun w3 v hv => ?_⟩
      · refine hC' (ν - 1) _ _ _ _ _ _ (by omega) ⟨k + 1, by omega, rfl, by rw [hv, sI], Or.inr ⟨rfl, fun j hj => ?_⟩, rfl, rfl, rfl⟩
        rcases hx2 with ⟨h, -⟩ | ⟨-, h⟩
        · exact absurd h w2
        · by_cases y : j = k
          · rw [y, ← hg, ← (hp.2.2 i hic).1, rp_lt hk8, rp_lt hk8, w3]
          · exact h j (by omega)
      · exact hC' (ν - 1) _ _ _ _ _ _ (by omega) ⟨k + 1, by omega, rfl, by rw [hv, sI], Or.inl ⟨rfl, trivial⟩, rfl, rfl, rfl⟩
end
