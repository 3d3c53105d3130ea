/-! THE REFERENCE: pattern, what it rests on -/
section
variable {K : Cx} {I : TI} {L : TL} {A : TA}
/-- what pattern answers and tells -/
def patA (p : Nat) (f : PP) (v : Int32) (l : List Nat) : Prop :=
  (lnP f 7 ≤ 1 ∧ v = -3 ∧ l = []) ∨
  (∃ d, 0 < d ∧ dgI f d ∧ ((p : Int) ∣ f d ∨ (¬ (p : Int) ∣ f d ∧ ∃ F DF G e, asc p f F ∧ asc p (drv f) DF ∧ GcdM p G F DF ∧ md p G e ∧ 0 < e)) ∧ v = -1 ∧ l = []) ∨
  (∃ d, 0 < d ∧ dgI f d ∧ ¬ (p : Int) ∣ f d ∧ (∃ F DF G, asc p f F ∧ asc p (drv f) DF ∧ GcdM p G F DF ∧ md p G 0) ∧ (∃ F n R, asc p f F ∧ Chn p F n R l ∧ md p R 0) ∧ v = nI l.length)
theorem idiv_n {a b : Nat} (ha : a < 2147483648) (hb : b < 2147483648) : nI a / nI b = nI (a / b) := eqn (by
  rw [Int32.toInt_div, tI ha, tI hb]
  have : ((a : Int).tdiv b) = ((a / b : Nat) : Int) := rfl
  rw [this]
  have := Nat.div_le_self a b
  generalize a / b = q at *
  exact Int.bmod_eq_of_le (by omega) (by omega))
theorem rsd_md {p : Nat} {f : PP} {d : Nat} (h : rsd p f) (hd : dgI f d) : md p f d := ⟨fun w => by
  have h1 := h d
  have h2 := hd.1
  have := Int.le_of_dvd (by omega) w
  omega, fun k hk => by rw [hd.2 k (by omega)]; exact Int.dvd_zero _⟩
theorem rsd_al {p : Nat} {f : PP} (h : rsd p f) (ha : al p f) : f = p0 := funext fun k => by
  have h1 := h k
  have h2 := ha k
  show f k = 0
  by_cases w : f k = 0
  · exact w
  · have := Int.le_of_dvd (by omega) h2; omega
theorem rsd_dg {p n : Nat} {f : PP} (h : rsd p f) (hn : dl f n) (ha : ¬ al p f) : ∃ d, d < n ∧ dgI f d := by
  obtain ⟨d, h1, h2, h3⟩ := dg_ex f n hn (fun z => ha (by rw [z]; exact fun k => Int.dvd_zero _))
  exact ⟨d, h1, h2, h3⟩
theorem GcdM.sw {p : Int} {G R W W' : PP} (hW' : Pf W') (h : GcdM p G R W) (hc : cgf p R W' W) : GcdM p G W' R := by
  obtain ⟨⟨u, v, hu, hv, e⟩, ⟨s, hs, es⟩, t, ht, et⟩ := h
  obtain ⟨c, hc', ec⟩ := hc
  have ec' : cg p W' (pa W (pm c R)) := fun k => by
    have h1 : p ∣ W' k + -1 * W k - pm c R k := ec k
    show p ∣ W' k - (W k + pm c R k)
    rw [show W' k - (W k + pm c R k) = W' k + -1 * W k - pm c R k by omega]; exact h1
  refine ⟨⟨v, pa u (pc (-1) (pm v c)), hv, hu.add ((hv.mul hc').c _), fun k => ?_⟩, ⟨pa t (pm c s), ht.add (hc'.mul hs), ?_⟩, s, hs, es⟩
  · have h1 : p ∣ G k - (pm u R k + pm v W k) := e k
    have h2 : p ∣ pm v W' k - pm v (pa W (pm c R)) k := ec'.mul_r v k
    have h3 : pm v (pa W (pm c R)) k = pm v W k + pm (pm v c) R k := by rw [pm_add_r v W (pm c R), pma]
    rw [h3] at h2
    show p ∣ G k - (pm v W' k + pm (pa u (pc (-1) (pm v c))) R k)
    rw [pm_add_l, pm_c_l]
    have := Int.dvd_sub h1 h2
    rw [show G k - (pm v W' k + (pm u R k + -1 * pm (pm v c) R k)) = G k - (pm u R k + pm v W k) - (pm v W' k - (pm v W k + pm (pm v c) R k)) by omega]
    exact this
  · have e1 : pm (pa t (pm c s)) G = pa (pm t G) (pm c (pm s G)) := funext fun k => by rw [pm_add_l, pma]; rfl
    rw [e1]
    exact ec'.trans (et.add (es.mul_r c))
theorem cgf.pow {p : Int} {f a b : PP} (ha : Pf a) (hb : Pf b) (h : cgf p f a b) (n : Nat) : cgf p f (pw a n) (pw b n) := by
  have hi : Idl pfR (ZP p f) := idl_p
  exact hi.pow2 (a := (⟨a, ha⟩ : PF)) (b := (⟨b, hb⟩ : PF)) h n
theorem pw_pw (x : PF) (a b : Nat) : pw (pw x.1 a) b = pw x.1 (a * b) := by
  have h := pow_mulG pfR x a b
  exact (congrArg Subtype.val h).symm
/-- the number modulo p that Java finds -/
theorem jmod {r : Int64} {p : Nat} (h1 : r.toInt.natAbs ≤ 300) (h2 : 1 < p) (h3 : p ≤ 997) : ¬ Int32.toInt64 (nI p) = 0 ∧ Int64.toInt32 (((r - r / Int32.toInt64 (nI p) * Int32.toInt64 (nI p)) + Int32.toInt64 (nI p)) - ((r - r / Int32.toInt64 (nI p) * Int32.toInt64 (nI p)) + Int32.toInt64 (nI p)) / Int32.toInt64 (nI p) * Int32.toInt64 (nI p)) = nI (r.toInt % p).toNat := by
  have hP : (Int32.toInt64 (nI p)).toInt = p := by rw [Int32.toInt_toInt64, tI (by omega)]
  have e1 : (r - r / Int32.toInt64 (nI p) * Int32.toInt64 (nI p)).toInt = r.toInt.tmod p := by rw [jrem _ _ (by omega), hP]
  have hb : (r.toInt.tmod p).natAbs < p := by rw [Int.natAbs_tmod]; exact Nat.mod_lt _ (by omega)
  have e2 : ((r - r / Int32.toInt64 (nI p) * Int32.toInt64 (nI p)) + Int32.toInt64 (nI p)).toInt = r.toInt.tmod p + p := by rw [jadd (by rw [e1, hP]; omega) (by rw [e1, hP]; omega), e1, hP]
  have e3 : (r.toInt.tmod p + p).tmod p = r.toInt % p := by
    have hnn : 0 ≤ r.toInt.tmod p + p := by omega
    rw [Int.tmod_eq_emod_of_nonneg hnn]
    have e4 := Int.tmod_add_mul_tdiv r.toInt p
    rw [Int.add_emod_right]
    conv => rhs; rw [← e4]
    rw [Int.add_mul_emod_self_left]
  refine ⟨fun z => by rw [z] at hP; have : (0 : Int64).toInt = 0 := rfl; omega, ?_⟩
  have e5 := jrem ((r - r / Int32.toInt64 (nI p) * Int32.toInt64 (nI p)) + Int32.toInt64 (nI p)) (Int32.toInt64 (nI p)) (by rw [e2]; omega)
  rw [e2, hP, e3] at e5
  have hm0 := Int.emod_nonneg r.toInt (show (p : Int) ≠ 0 by omega)
  have hmp := Int.emod_lt_of_pos r.toInt (show (0 : Int) < p by omega)
  exact l2i (by rw [e5]; omega) (by omega)
/-- what pattern may write of the ints -/
def FrP (m : Nat) (I I' : TI) : Prop := (∀ y, y ≠ m → y ≠ m + 6 → y ≠ m + 8 → I' y = I y) ∧ ∀ k, k ≠ 0 → k ≠ 11 → k ≠ 19 → I' m k = I m k
theorem FrP.refl (m : Nat) (I : TI) : FrP m I I := ⟨fun _ _ _ _ => rfl, fun _ _ _ _ => rfl⟩
theorem FrP.trans {m : Nat} {I' I'' : TI} (h : FrP m I I') (h' : FrP m I' I'') : FrP m I I'' := ⟨fun y h1 h2 h3 => (h'.1 y h1 h2 h3).trans (h.1 y h1 h2 h3), fun k h1 h2 h3 => (h'.2 k h1 h2 h3).trans (h.2 k h1 h2 h3)⟩
theorem MU.fp {m : Nat} {S : Nat → Prop} {I' : TI} (h : MU m S I I') : FrP m I I' := ⟨fun y _ _ h3 => h.1 y h3, fun k _ _ _ => by rw [h.own]⟩
def RPl (m : Nat) (I : TI) (l : List Nat) : Prop := RPd m I l.length (fun i => l.getD i 0)
theorem RPl.mu {m : Nat} {S : Nat → Prop} {I' : TI} {l : List Nat} (h : RPl m I l) (hm : MU m S I I') : RPl m I' l := by
  obtain ⟨h1, h2, h3⟩ := h
  exact ⟨by rw [hm.own]; exact h1, h2, fun i hi => by rw [hm.1 (m + 6) (by omega)]; exact h3 i hi⟩
/-- the state of pattern's loop at n + 1 -/
def PtL (m p n : Nat) (F : PP) (I : TI) (R : PP) (E : Nat) (l : List Nat) : Prop := n ≤ 6 ∧ mp I m 0 = R ∧ rsd p R ∧ dgI R E ∧ E ≤ 6 ∧ (∃ X, mp I m 4 = X ∧ rsd p X ∧ cgf p R (pw (px (pk0 1)) (p ^ n)) X) ∧ Chn p F n R l ∧ sqf p R ∧ minD p (n + 1) R ∧ l.length + E ≤ 6 ∧ RPl m I l ∧ I m 19 = nI p ∧ I m 0 = 0
theorem RPl.push {m n : Nat} {I1 I2 : TI} {l : List Nat} (h : RPl m I l) (hl : l.length < 6) (hn : n ≤ 6) (e1 : I1 = u2 I (m + 6) l.length (nI n)) (e2 : I2 = u2 I1 m 11 (nI (l.length + 1))) : RPl m I2 (l ++ [n]) := by
  obtain ⟨h1, h2, h3⟩ := h
  have hlen : (l ++ [n]).length = l.length + 1 := by simp
  refine ⟨by rw [hlen, e2, u2_self], by rw [hlen]; omega, fun i hi => ?_⟩
  rw [hlen] at hi
  rw [e2, u2_off _ _ (by omega), e1]
  by_cases w : i = l.length
  · rw [w, u2_self]
    have : (l ++ [n]).getD l.length 0 = n := by simp [List.getD]
    show nI n = nI ((l ++ [n]).getD l.length 0) ∧ (l ++ [n]).getD l.length 0 ≤ 6
    rw [this]; exact ⟨rfl, hn⟩
  · rw [u2_ne _ _ (fun t => w t.2)]
    have : (l ++ [n]).getD i 0 = l.getD i 0 := by
      simp only [List.getD]
      rw [List.getElem?_append_left (by omega)]
    show I (m + 6) i = nI ((l ++ [n]).getD i 0) ∧ (l ++ [n]).getD i 0 ≤ 6
    rw [this]; exact h3 i (by omega)
set_option maxHeartbeats 4000000 in
theorem m_pattern_loop {m p n E : Nat} {F R : PP} {l : List Nat} {s : Int32} {Q : Int32 → TI → TL → TA → Prop} (hm : isX7 K m) (hP : PmR p) (h : PtL m p n F I R E l) (hQ : ∀ (I' : TI) (R' : PP) (l' : List Nat) (n' : Nat), FrP m I I' → Chn p F n' R' l' → md p R' 0 → RPl m I' l' → I' m 0 = 0 → Q (nI l'.length) I' L A) : wp_X7_pattern_241 K m s (nI p) I L A (nI (n + 1)) Q := by
  have hp1 : 1 < p := by have := hP.1.1; omega
  have hp9 := hP.2
  unfold wp_X7_pattern_241
  refine ⟨fun μ I' L' A' x => ∃ n R E l, n + μ = 7 ∧ x = nI (n + 1) ∧ PtL m p n F I' R E l ∧ FrP m I I' ∧ L' = L ∧ A' = A, 7 - n, ⟨n, R, E, l, by have := h.1; omega, rfl, h, FrP.refl _ _, rfl, rfl⟩, ?_⟩
  clear h
  rintro μ C hC I' L' A' _ ⟨n, R, E, l, hn, rfl, ⟨hn6, hR, rR, hE, hE6, ⟨X, hX, rX, cX⟩, hch, hsq, hmin, hlen, hrp, h19, h0⟩, hfr, rfl, rfl⟩
  have hmR : md p R E := rsd_md rR hE
  refine ⟨hm.1, _, m_modDegree (r := 0) hm (by omega), ?_⟩
  rintro v I1 L1 A1 ⟨rfl, rfl, rfl, rfl⟩
  have hlR : lnP R 16 = E + 1 := lnP_of hE.2 (fun z hz => by rw [show z = E by omega]; exact hE.1) (by omega)
  rw [hR, hlR, tp_s]
  refine ⟨fun z => ?_, fun z => ?_⟩
  · rw [ile, li0, tI (by omega)] at z
    have : E = 0 := by omega
    subst this
    rw [hrp.1]
    exact hQ _ _ _ _ hfr hch hmR hrp h0
  rw [ile, li0, tI (by omega)] at z
  have hnE : n + 1 ≤ E := hmin.le hP.1 hE.pf hmR (by omega)
  -- x to the p to the n, reduced
  refine ⟨_, m_reduce (r := 4) (b := 0) hm hP h19 (by omega) (by omega) (by omega) hX hR rX rR hE, ?_⟩
  rintro I2 L2 A2 ⟨⟨Q2, X1, hX1, hQ2, rX1, dX1, rQ2, hc2, -⟩, mu2, rfl, rfl⟩
  have hR2 : mp I2 m 0 = R := (mu2.same (show ¬ (0 = 4 ∨ 0 = 9) by omega)).trans hR
  have h192 : I2 m 19 = nI p := by rw [mu2.own]; exact h19
  have cX1 : cgf p R X X1 := ⟨Q2, ⟨16, by rw [← hQ2]; exact mp_dl I2 m 9⟩, fun k => by
    have h1 : (p : Int) ∣ X k - (pm Q2 R k + X1 k) := hc2 k
    show (p : Int) ∣ X k + -1 * X1 k - pm Q2 R k
    rw [show X k + -1 * X1 k - pm Q2 R k = X k - (pm Q2 R k + X1 k) by omega]; exact h1⟩
  refine ⟨_, m_raise hm hP h192 hR2 rR hE hE6 hX1 rX1 dX1, ?_⟩
  rintro I3 L3 A3 ⟨⟨T, hT, rT', dT, cT⟩, mu3, rfl, rfl⟩
  have hXf : Pf X := ⟨16, by rw [← hX]; exact mp_dl I1 m 4⟩
  have cTn : cgf p R (pw (px (pk0 1)) (p ^ (n + 1))) T := by
    have h1 := (cX.trans cX1).pow (pw_pf xP.2 _) ⟨E, dX1⟩ p
    have e1 : pw (pw (px (pk0 1)) (p ^ n)) p = pw (px (pk0 1)) (p ^ (n + 1)) := by
      have := pw_pw xP (p ^ n) p
      rw [← Nat.pow_succ] at this; exact this
    have h2 : cgf p R (pw (pw (px (pk0 1)) (p ^ n)) p) (pw X1 p) := h1
    rw [e1] at h2
    exact h2.trans cT
  have hR3 : mp I3 m 0 = R := (mu3.same (show ¬ (0 = 4 ∨ 0 = 5 ∨ 0 = 6 ∨ 0 = 7 ∨ 0 = 9) by omega)).trans hR2
  refine ⟨_, m_modCopy (r := 1) (u := 0) hm (by omega) (by omega), ?_⟩
  rintro I4 L4 A4 ⟨c4, mu4, rfl, rfl⟩
  refine ⟨_, m_modCopy (r := 2) (u := 4) hm (by omega) (by omega), ?_⟩
  rintro I5 L5 A5 ⟨c5, mu5, rfl, rfl⟩
  have h15 : mp I5 m 1 = R := by rw [mu5.same (show ¬ 1 = 2 by omega), c4, hR3]
  have h25 : mp I5 m 2 = T := by rw [c5, mu4.same (show ¬ 4 = 1 by omega), hT]
  have h05 : mp I5 m 0 = R := by rw [mu5.same (show ¬ 0 = 2 by omega), mu4.same (show ¬ 0 = 1 by omega), hR3]
  have h45 : mp I5 m 4 = T := by rw [mu5.same (show ¬ 4 = 2 by omega), mu4.same (show ¬ 4 = 1 by omega), hT]
  have l33 : (33 : Int32).toInt = ((16 * 2 + 1 : Nat) : Int) := by decide
  have ok33 : aok (cxS K) (m + 8) 0 33 := mok hm (show 2 < 10 by omega) (show 1 < 16 by omega) l33
  obtain ⟨t1, ht1p, ht1⟩ := rT'.nat 1
  have hv1 : (I5 (m + 8) (16 * 2 + 1)).toInt = t1 := by rw [← mp_lt (by omega), h25, ht1]
  have hsum : (I5 (m + 8) (16 * 2 + 1) + nI p - 1).toInt = ((t1 + p - 1 : Nat) : Int) := by
    have e1 := iadd_n hv1 (tI (k := p) (by omega)) (by omega)
    have l1 : (1 : Int32).toInt = 1 := by decide
    rw [isub (by rw [e1, l1]; omega) (by rw [e1, l1]; omega), e1, l1]; omega
  obtain ⟨hres, hne⟩ := irem_n hsum (tI (k := p) (by omega)) (by omega)
  rw [ix_of l33]
  refine ⟨ok33, hne, ok33, fun I55 e55 => ?_⟩
  rw [hres] at e55
  have hml := Nat.mod_lt (t1 + p - 1) (show 0 < p by omega)
  have mu55 : MU m (· = 2) I5 I55 := by rw [e55]; exact mu_u2 (by omega)
  obtain ⟨W, hW⟩ : ∃ W : PP, W = mp I55 m 2 := ⟨_, rfl⟩
  have hWk : ∀ k, W k = if k = 1 then (((t1 + p - 1) % p : Nat) : Int) else T k := fun k => by
    rw [hW]
    by_cases y : k < 16
    · rw [mp_lt y, e55]
      by_cases y2 : k = 1
      · rw [y2, u2_self, if_pos rfl, tI (by omega)]
      · rw [u2_ne _ _ (fun t => y2 (by omega)), if_neg y2, ← mp_lt y, h25]
    · rw [mp_dl I55 m 2 k (by omega), if_neg (by omega), ← h25, mp_dl I5 m 2 k (by omega)]
  have rW : rsd p W := fun k => by
    rw [hWk]
    split
    · omega
    · exact rT' k
  have cW : cg p W (pa T (pc (-1) (px (pk0 1)))) := fun k => by
    show (p : Int) ∣ W k - (T k + -1 * px (pk0 1) k)
    rw [hWk]
    by_cases y : k = 1
    · subst y
      rw [if_pos rfl, ht1]
      have : px (pk0 1) 1 = 1 := rfl
      rw [this]
      have := Nat.div_add_mod (t1 + p - 1) p
      refine ⟨1 - ((t1 + p - 1) / p : Nat), ?_⟩
      rw [Int.mul_sub]
      have e5 : (p : Int) * ((t1 + p - 1) / p : Nat) + ((t1 + p - 1) % p : Nat) = t1 + p - 1 := by
        rw [← Int.natCast_mul, ← Int.natCast_add, this]; omega
      omega
    · rw [if_neg y]
      have : px (pk0 1) k = 0 := by
        match k, y with
        | 0, _ => rfl
        | 1, y => exact absurd rfl y
        | k + 2, _ => rfl
      rw [this]
      exact ⟨0, by omega⟩
  have cxq : cgf p R (xq p (n + 1)) W := by
    have h1 : cgf p R (xq p (n + 1)) (pa T (pc (-1) (px (pk0 1)))) := dmP.of_cg cTn (fun k => by
      show (p : Int) ∣ (pw (px (pk0 1)) (p ^ (n + 1)) k + -1 * px (pk0 1) k) + -1 * (T k + -1 * px (pk0 1) k) - (pw (px (pk0 1)) (p ^ (n + 1)) k + -1 * T k)
      exact ⟨0, by omega⟩)
    exact h1.trans (cgf.of_cg cW.symm)
  have h1955 : I55 m 19 = nI p := by rw [mu55.own, mu5.own, mu4.own, mu3.own]; exact h192
  have h155 : mp I55 m 1 = R := (mu55.same (show ¬ 1 = 2 by omega)).trans h15
  refine ⟨_, m_modCommon hm hP h1955 h155 hW.symm rR rW, ?_⟩
  rintro I6 L6 A6 ⟨⟨G, hG, rG, hgcd⟩, mu6, rfl, rfl⟩
  have hgm : GcdM p G (xq p (n + 1)) R := hgcd.sw (xq_pf p (n + 1)) cxq
  have hG16 : dl G 16 := by rw [← hG]; exact mp_dl I6 m 3
  have hGn : ¬ al p G := fun w => hmR.nal (fun k => by
    obtain ⟨s, hs, es⟩ := hgm.dy
    have h2 : cg p R p0 := es.trans (by have := (al_cg w).mul_r s; rw [pmc s p0, pm_0l] at this; exact this)
    have h3 : (p : Int) ∣ R k - 0 := h2 k
    rw [Int.sub_zero] at h3; exact h3)
  obtain ⟨e, he16, hGe⟩ := rsd_dg rG hG16 hGn
  have hGm : md p G e := rsd_md rG hGe
  have hlG : lnP G 16 = e + 1 := lnP_of hGe.2 (fun z hz => by rw [show z = e by omega]; exact hGe.1) (by omega)
  have heE : e ≤ E := hgm.dy.le hP.1 hGm hmR
  have h06 : mp I6 m 0 = R := by rw [mu6.same (show ¬ (0 = 1 ∨ 0 = 2 ∨ 0 = 3 ∨ 0 = 9) by omega), mu55.same (show ¬ 0 = 2 by omega), h05]
  have h46 : mp I6 m 4 = T := by rw [mu6.same (show ¬ (4 = 1 ∨ 4 = 2 ∨ 4 = 3 ∨ 4 = 9) by omega), mu55.same (show ¬ 4 = 2 by omega), h45]
  refine ⟨_, m_modDegree (r := 3) hm (by omega), ?_⟩
  rintro v I7 L7 A7 ⟨rfl, rfl, rfl, rfl⟩
  rw [hG, hlG, tp_s]
  have muA : MU m (fun _ => True) I1 I7 := (((((mu2.mono (fun _ _ => trivial)).trans (mu3.mono (fun _ _ => trivial))).trans (mu4.mono (fun _ _ => trivial))).trans (mu5.mono (fun _ _ => trivial))).trans (mu55.mono (fun _ _ => trivial))).trans (mu6.mono (fun _ _ => trivial))
  have hrp7 : RPl m I7 l := hrp.mu muA
  have h197 : I7 m 19 = nI p := by rw [muA.own]; exact h19
  have h07 : I7 m 0 = 0 := by rw [muA.own]; exact h0
  have hfr7 : FrP m I I7 := hfr.trans muA.fp
  have hdiv : nI e / nI (n + 1) = nI (e / (n + 1)) := idiv_n (by omega) (by omega)
  have hedle : e / (n + 1) ≤ e := Nat.div_le_self _ _
  unfold wp_X7_pattern_305
  refine ⟨fun κ I8 L8 A8 x4 x5 x6 => ∃ i, i + κ = e / (n + 1) ∧ x4 = nI (n + 1) ∧ x5 = nI e ∧ x6 = nI i ∧ RPl m I8 (l ++ List.replicate i (n + 1)) ∧ (∀ r, mp I8 m r = mp I7 m r) ∧ I8 m 19 = nI p ∧ I8 m 0 = 0 ∧ FrP m I I8 ∧ L8 = L7 ∧ A8 = A7, e / (n + 1), ⟨0, by omega, rfl, rfl, rfl, by rw [List.replicate_zero, List.append_nil]; exact hrp7, fun _ => rfl, h197, h07, hfr7, rfl, rfl⟩, ?_⟩
  rintro κ C' hC' I8 L8 A8 _ _ _ ⟨i, hi, rfl, rfl, rfl, hrp8, hmp8, h198, h08, hfr8, rfl, rfl⟩
  have hn0 : ¬ nI (n + 1) = 0 := fun w => by rw [i0z, tI (by omega)] at w; omega
  rw [hdiv]
  refine ⟨hn0, fun y => ?_, fun y => ?_⟩
  rotate_left
  · -- one more
    rw [ile, tI (by omega), tI (by omega)] at y
    have hlen8 : (l ++ List.replicate i (n + 1)).length = l.length + i := by simp
    have h11 := hrp8.1
    rw [hlen8] at h11
    rw [h11]
    refine ⟨hm.1, ⟨7, hm.2.2.2.2.2.2.1, inOf (tI (by omega)) (by omega)⟩, fun I22 e22 I23 e23 v24 e24 => ?_⟩
    rw [ixn (by omega)] at e22
    have e11 : I22 m 11 = nI (l.length + i) := by rw [e22, u2_off _ _ (by omega)]; exact h11
    rw [e11, sI] at e23
    have hpush : RPl m I23 (l ++ List.replicate i (n + 1) ++ [n + 1]) := hrp8.push (I1 := I22) (by rw [hlen8]; omega) (show n + 1 ≤ 6 by omega) (by rw [hlen8]; exact e22) (by rw [hlen8]; exact e23)
    refine hC' (κ - 1) _ _ _ _ _ _ (by omega) ⟨i + 1, by omega, rfl, rfl, by rw [e24, sI], ?_, fun r => ?_, ?_, ?_, hfr8.trans ⟨fun y h1 h2 _ => by rw [e23, u2_off _ _ h1, e22, u2_off _ _ h2], fun k _ h2 _ => by rw [e23, u2_ne _ _ (by omega), e22, u2_off _ _ (by omega)]⟩, rfl, rfl⟩
    · rw [List.append_assoc, ← List.replicate_succ'] at hpush; exact hpush
    · rw [← hmp8 r]
      funext k
      unfold mp
      rw [e23, u2_off _ _ (show m + 8 ≠ m by omega), e22, u2_off _ _ (show m + 8 ≠ m + 6 by omega)]
    · rw [e23, u2_ne _ _ (by omega), e22, u2_off _ _ (by omega)]; exact h198
    · rw [e23, u2_ne _ _ (by omega), e22, u2_off _ _ (by omega)]; exact h08
  · rw [ile, tI (by omega), tI (by omega)] at y
    have hii : i = e / (n + 1) := by omega
    subst hii
    have h08' : mp I8 m 0 = R := (hmp8 0).trans h06
    have h48' : mp I8 m 4 = T := (hmp8 4).trans h46
    have h38' : mp I8 m 3 = G := (hmp8 3).trans hG
    have hlen8 : (l ++ List.replicate (e / (n + 1)) (n + 1)).length = l.length + e / (n + 1) := by simp
    refine ⟨fun w v2 e2 => ?_, fun w => ⟨hm.1, _, m_modCopy (r := 8) (u := 0) hm (by omega) (by omega), ?_⟩⟩
    · -- nothing found
      rw [ile, li0, tI (by omega)] at w
      have he0 : e = 0 := by omega
      subst he0
      have hst : DStp p (n + 1) R G R := by
        refine ⟨⟨16, hG16⟩, hE.pf, hgm, ?_⟩
        have h1 : cg p (pm G R) (pc (G 0) R) := by
          have := (md0 hGm).mul_l R
          rw [show pm (pk0 (G 0)) R = pc (G 0) R from funext fun k => pm_c0 _ R k] at this
          exact this
        exact (asc.c hP.1 hGm.1).trans (asc.of_cg h1).symm
      have hnx := hst.next hP.1 hsq hmin
      refine hC (μ - 1) _ _ _ _ (by omega) ⟨n + 1, R, E, _, by omega, by rw [e2, sI], ⟨by omega, h08', rR, hE, hE6, ⟨T, h48', rT', cTn⟩, hch.step hst hGm, hnx.1, hnx.2, by rw [hlen8, Nat.zero_div]; omega, hrp8, h198, h08⟩, hfr8, rfl, rfl⟩
    · rw [ile, li0, tI (by omega)] at w
      rintro I9 L9 A9 ⟨c9, mu9, rfl, rfl⟩
      have h89 : mp I9 m 8 = R := by rw [c9, h08']
      have h39 : mp I9 m 3 = G := (mu9.same (show ¬ 3 = 8 by omega)).trans h38'
      have h199 : I9 m 19 = nI p := by rw [mu9.own]; exact h198
      refine ⟨_, m_reduce (r := 8) (b := 3) hm hP h199 (by omega) (by omega) (by omega) h89 h39 rR rG hGe, ?_⟩
      rintro Ia La Aa ⟨⟨R', Rm, hRm, hR', rRm, dRm, rR', hcg, -⟩, mua, rfl, rfl⟩
      refine ⟨_, m_modCopy (r := 0) (u := 9) hm (by omega) (by omega), ?_⟩
      rintro Ib Lb Ab ⟨cb, mub, rfl, rfl⟩ v19 e19
      have hR'16 : dl R' 16 := by rw [← hR']; exact mp_dl Ia m 9
      -- the rest is 0
      have hRm0 : Rm = p0 := rsd_al rRm (Classical.byContradiction fun q => by
        obtain ⟨e', he', hmd'⟩ := md_ex e dRm q
        have h1 : dmP p G Rm := by
          have h2 : dmP p G (pa R (pc (-1) (pm R' G))) := dmP.add hgm.dy (dmP.c ⟨R', ⟨16, hR'16⟩, cg.refl _ _⟩ (-1))
          refine h2.of_cg (fun k => ?_)
          have h3 : (p : Int) ∣ R k - (pm R' G k + Rm k) := hcg k
          show (p : Int) ∣ Rm k - (R k + -1 * pm R' G k)
          rw [show Rm k - (R k + -1 * pm R' G k) = -(R k - (pm R' G k + Rm k)) by omega]
          exact Int.dvd_neg.mpr h3
        have := h1.le hP.1 hGm hmd'
        omega)
      rw [hRm0, pa_0] at hcg
      have hst : DStp p (n + 1) R G R' := ⟨⟨16, hG16⟩, ⟨16, hR'16⟩, hgm, by rw [pmc G R']; exact asc.of_cg hcg⟩
      have hnx := hst.next hP.1 hsq hmin
      obtain ⟨d1, d2, hd1, hd2, hdd⟩ := hst.degs hP.1 hmR
      obtain ⟨E', -, hE'⟩ := rsd_dg rR' hR'16 hd2.nal
      have hE'2 := hd2.uniq (rsd_md rR' hE')
      have hd1e := hd1.uniq hGm
      have mu8b : MU m (fun _ => True) I8 Ib := ((mu9.mono (fun _ _ => trivial)).trans (mua.mono (fun _ _ => trivial))).trans (mub.mono (fun _ _ => trivial))
      have h4b : mp Ib m 4 = T := by rw [mub.same (show ¬ 4 = 0 by omega), mua.same (show ¬ (4 = 8 ∨ 4 = 9) by omega), mu9.same (show ¬ 4 = 8 by omega), h48']
      refine hC (μ - 1) _ _ _ _ (by omega) ⟨n + 1, R', E', _, by omega, by rw [e19, sI], ⟨by omega, by rw [cb, hR'], rR', hE', by omega, ⟨T, h4b, rT', cTn.of_dv hst.dv'⟩, hch.step hst hGm, hnx.1, hnx.2, by rw [hlen8]; omega, hrp8.mu mu8b, by rw [mu8b.own]; exact h198, by rw [mu8b.own]; exact h08⟩, hfr8.trans mu8b.fp, rfl, rfl⟩
end
