/-! NO SQUARE: two different factors and their shifts -/
section
theorem nsq_of {p : Nat} (hp : Pr (p : Int)) {H G k : PF} {d : Nat} (hh : IrM p H.1 d) (hG : Zc p (letI := pfR; G - H * k)) (hk : ¬ ZP p H.1 k) : nsq p G := by
  have hpr := zc_prm hp
  have hi := hpr.1
  have hq := prm_p hp hh
  have hHz : ¬ Zc p H := hh.2.1.nal
  have hkc : ∀ c : Int, ¬ (p : Int) ∣ c → ¬ ZP p H.1 (kP c) := fun c hc w => by
    have h1 : md p (pk0 c) 0 := ⟨hc, fun j hj => by cases j with
      | zero => omega
      | succ j => exact Int.dvd_zero _⟩
    have := dmP.le hp w hh.2.1 h1
    have := hh.2.2.1
    omega
  have hGd : ZP p H.1 G := by
    rw [← jI_zp]
    refine ⟨k, ?_⟩
    letI := pfR
    have e : H ^ 1 = H := by rw [Lean.Grind.Semiring.pow_succ, Lean.Grind.Semiring.pow_zero]; grind
    rw [e]; exact hG
  have hde : ∀ f : PF, ZP p H.1 f → ∃ f1, Zc p (letI := pfR; f - H * f1) := fun f hf => by
    rw [← jI_zp] at hf
    obtain ⟨f1, h1⟩ := hf
    letI := pfR
    have e : H ^ 1 = H := by rw [Lean.Grind.Semiring.pow_succ, Lean.Grind.Semiring.pow_zero]; grind
    rw [e] at h1
    exact ⟨f1, h1⟩
  have key : ∀ (n : Nat) (a b : PF) (c : Int), ¬ (p : Int) ∣ c → Zc p (letI := pfR; a * a * G - b * b * kP c) → md p b.1 n → False := by
    intro n
    induction n using Nat.strongRecOn with
    | _ n ih =>
      intro a b c hc hab hb
      have h1 : ZP p H.1 (letI := pfR; b * b * kP c) := hq.1.of (hq.1.sub (hq.1.2.2 _ (letI := pfR; a * a) hGd) (zc_zp hab)) (by letI := pfR; grind)
      have h2 : ZP p H.1 b := by
        rcases hq.2.1 _ _ h1 with w | w
        · rcases hq.2.1 _ _ w with w | w <;> exact w
        · exact absurd w (hkc c hc)
      obtain ⟨b1, hb1⟩ := hde b h2
      have h3 : Zc p (letI := pfR; H * (a * a * k - H * b1 * b1 * kP c)) := by
        refine hi.of (hi.2.1 _ _ (hi.sub hab (hi.2.2 _ (letI := pfR; a * a) hG)) (hi.2.2 _ (letI := pfR; (b + H * b1) * kP c) hb1)) ?_
        letI := pfR
        grind
      have h4 := (hpr.2.1 _ _ h3).resolve_left hHz
      have h5 : ZP p H.1 (letI := pfR; a * a * k) := by
        have hHH : ZP p H.1 H := dmP.refl _ _
        refine hq.1.of (hq.1.2.1 _ _ (zc_zp h4) (hq.1.2.2 _ (letI := pfR; b1 * b1 * kP c) hHH)) ?_
        letI := pfR
        grind
      have h6 : ZP p H.1 a := by
        rcases hq.2.1 _ _ h5 with w | w
        · rcases hq.2.1 _ _ w with w | w <;> exact w
        · exact absurd w hk
      obtain ⟨a1, ha1⟩ := hde a h6
      have h7 : Zc p (letI := pfR; H * (a1 * a1 * (H * k) - b1 * b1 * kP c)) := by
        refine hi.of (hi.sub h4 (hi.2.2 _ (letI := pfR; (a + H * a1) * k) ha1)) ?_
        letI := pfR
        grind
      have h8 := (hpr.2.1 _ _ h7).resolve_left hHz
      have h9 : Zc p (letI := pfR; a1 * a1 * G - b1 * b1 * kP c) := by
        refine hi.of (hi.2.1 _ _ h8 (hi.2.2 _ (letI := pfR; a1 * a1) hG)) ?_
        letI := pfR
        grind
      have hcg : cg p b.1 (pm H.1 b1.1) := fun j => by
        have h10 : (p : Int) ∣ b.1 j + -1 * pm H.1 b1.1 j := hb1 j
        rw [show ∀ x y : Int, x - y = x + -1 * y from fun x y => by omega]; exact h10
      have hm := hb.of_cg hcg
      obtain ⟨n1, hn1⟩ := md_of b1.2 (md_mul_r hm).2
      have := (hh.2.1.mul hp hn1).uniq hm
      have hd0 := hh.2.2.1
      exact ih n1 (by omega) a1 b1 c hc h9 hn1
  intro a b c hc hab
  have hb : Zc p b := Classical.byContradiction fun w => by
    obtain ⟨n, hn⟩ := md_of b.2 w
    exact key n a b c hc hab hn
  refine ⟨?_, hb⟩
  have h1 : Zc p (letI := pfR; a * a * G) := hi.of (hi.2.1 _ _ hab (hi.2.2 _ (letI := pfR; b * kP c) hb)) (by letI := pfR; grind)
  rcases hpr.2.1 _ _ h1 with w | w
  · rcases hpr.2.1 _ _ w with w | w <;> exact w
  · have h2 : Zc p (letI := pfR; H * k) := hi.of (hi.sub w hG) (by letI := pfR; grind)
    rcases hpr.2.1 _ _ h2 with w | w
    · exact absurd w hHz
    · exact absurd (zc_zp w) hk
theorem mono_dv {p : Nat} (hp : Pr (p : Int)) {f g : PP} {d : Nat} (hf : dl f (d + 1)) (hg : dl g (d + 1)) (hf1 : f d = 1) (hg1 : g d = 1) (h : dmP p f g) : cg p f g := by
  have h1 : dmP p f (pa g (pc (-1) f)) := h.add ((dmP.refl _ _).c (-1))
  have hm : md p f d := ⟨by rw [hf1]; exact hp.n1, fun k hk => by rw [hf k (by omega)]; exact Int.dvd_zero _⟩
  have hd : dl (pa g (pc (-1) f)) d := fun k hk => by
    show g k + -1 * f k = 0
    by_cases e : k = d
    · rw [e, hf1, hg1]; rfl
    · rw [hf k (by omega), hg k (by omega)]; rfl
  have ha : al p (pa g (pc (-1) f)) := Classical.byContradiction fun w => by
    obtain ⟨n, hn, hmd⟩ := md_ex d hd w
    have := h1.le hp hm hmd
    omega
  intro k
  have := Int.dvd_neg.mpr (ha k)
  have e : -(pa g (pc (-1) f) k) = f k - g k := by simp only [pa, pc]; omega
  rw [e] at this
  exact this
theorem sf_sec (m : Int) : ∀ (n : Nat) (f : PP), sf m (n + 1 + 1) f n = f n + ((n : Int) + 1) * m * f (n + 1)
  | 0, f => by simp only [sf, pa, pc, px, pt, pk0]; simp [p0]
  | n + 1, f => by
    have ih := sf_sec m n (pt f)
    have h2 := sf_top m (n + 1) (pt f)
    have e : sf m (n + 1 + 1 + 1) f (n + 1) = pk0 (f 0) (n + 1) + (sf m (n + 1 + 1) (pt f) n + m * sf m (n + 1 + 1) (pt f) (n + 1)) := rfl
    rw [e, ih, h2]
    simp only [pk0, pt]
    rw [show ((n + 1 : Nat) : Int) = (n : Int) + 1 by omega]
    grind
theorem two_nsq {p d : Nat} (hp : Pr (p : Int)) {f1 f2 : PF} {e : Int} (hd : 2 * d < p) (he : ¬ (p : Int) ∣ e) (h1 : IrM p f1.1 d) (h2 : IrM p f2.1 d) (d1 : dl f1.1 (d + 1)) (d2 : dl f2.1 (d + 1)) (t1 : f1.1 d = 1) (t2 : f2.1 d = 1) (hne : ¬ cg p f1.1 f2.1) {g1 g2 : PF} (e1 : g1.1 = sf e (d + 1) f1.1) (e2 : g2.1 = sf e (d + 1) f2.1) : nsq p (letI := pfR; f1 * f2 * (g1 * g2)) := by
  have hi := zc_idl (p : Int)
  obtain ⟨n, rfl⟩ : ∃ n, d = n + 1 := ⟨d - 1, by have := h1.2.2.1; omega⟩
  have hne' : ¬ cg p f2.1 f1.1 := fun w => hne w.symm
  have dg1 : dl g1.1 (n + 1 + 1) := by rw [e1]; exact sf_dl e _ _
  have dg2 : dl g2.1 (n + 1 + 1) := by rw [e2]; exact sf_dl e _ _
  have tg1 : g1.1 (n + 1) = 1 := by rw [e1, sf_top]; exact t1
  have tg2 : g2.1 (n + 1) = 1 := by rw [e2, sf_top]; exact t2
  have s1 : g1.1 n = f1.1 n + ((n : Int) + 1) * e := by rw [e1, sf_sec, t1]; omega
  have s2 : g2.1 n = f2.1 n + ((n : Int) + 1) * e := by rw [e2, sf_sec, t2]; omega
  have hn : ¬ (p : Int) ∣ ((n : Int) + 1) := fun w => by have := Int.le_of_dvd (by omega) w; omega
  have hn2 : ¬ (p : Int) ∣ 2 * ((n : Int) + 1) := fun w => by have := Int.le_of_dvd (by omega) w; omega
  have c11 : ¬ cg p f1.1 g1.1 := fun w => by
    have := w n
    rw [s1, show f1.1 n - (f1.1 n + ((n : Int) + 1) * e) = -(((n : Int) + 1) * e) by omega] at this
    rcases hp.2 _ _ (Int.dvd_neg.mp this) with q | q
    · exact hn q
    · exact he q
  have c22 : ¬ cg p f2.1 g2.1 := fun w => by
    have := w n
    rw [s2, show f2.1 n - (f2.1 n + ((n : Int) + 1) * e) = -(((n : Int) + 1) * e) by omega] at this
    rcases hp.2 _ _ (Int.dvd_neg.mp this) with q | q
    · exact hn q
    · exact he q
  have q1 := prm_p hp h1
  have q2 := prm_p hp h2
  by_cases w : cg p f1.1 g2.1
  · refine nsq_of hp h2 (k := letI := pfR; f1 * (g1 * g2)) (hi.of hi.1 (by letI := pfR; grind)) (fun z => ?_)
    rcases q2.2.1 _ _ z with z | z
    · exact hne' (mono_dv hp d2 d1 t2 t1 z)
    · rcases q2.2.1 _ _ z with z | z
      · have w2 := mono_dv hp d2 dg1 t2 tg1 z
        have a1 := w n
        have a2 := w2 n
        rw [s2] at a1
        rw [s1] at a2
        have a3 := Int.dvd_add a1 a2
        rw [show f1.1 n - (f2.1 n + ((n : Int) + 1) * e) + (f2.1 n - (f1.1 n + ((n : Int) + 1) * e)) = -(2 * ((n : Int) + 1) * e) by rw [Int.mul_assoc]; omega] at a3
        rcases hp.2 _ _ (Int.dvd_neg.mp a3) with q | q
        · exact hn2 q
        · exact he q
      · exact c22 (mono_dv hp d2 dg2 t2 tg2 z)
  · refine nsq_of hp h1 (k := letI := pfR; f2 * (g1 * g2)) (hi.of hi.1 (by letI := pfR; grind)) (fun z => ?_)
    rcases q1.2.1 _ _ z with z | z
    · exact hne (mono_dv hp d1 d2 t1 t2 z)
    · rcases q1.2.1 _ _ z with z | z
      · exact c11 (mono_dv hp d1 dg1 t1 tg1 z)
      · exact w (mono_dv hp d1 dg2 t1 tg2 z)
/-- values of shifts and products -/
theorem sf_at (p : Nat) (e t : Int) : ∀ (n : Nat) (f : PP) (g : PF), g.1 = sf e n f → ZP p (wP t).1 (letI := pfR; g - kP (vI n f (t + e)))
  | 0, f, g, h => by
    refine zc_zp (fun k => ?_)
    show (p : Int) ∣ g.1 k + -1 * pk0 0 k
    rw [h]
    cases k <;> simp [sf, p0, pk0]
  | n + 1, f, g, h => by
    have hi : Idl pfR (ZP p (wP t).1) := idl_p
    have hpf : Pf (sf e n (pt f)) := ⟨n, sf_dl e n (pt f)⟩
    have ih := sf_at p e t n (pt f) ⟨_, hpf⟩ rfl
    have eg : g = (letI := pfR; kP (f 0) + (xP + kP e) * ⟨_, hpf⟩) := Subtype.ext (by
      rw [h]
      show _ = pa (pk0 (f 0)) (pm (pa (px (pk0 1)) (pk0 e)) (sf e n (pt f)))
      funext k
      show pk0 (f 0) k + _ = pk0 (f 0) k + pm (pa (px (pk0 1)) (pk0 e)) (sf e n (pt f)) k
      congr 1
      rw [pm_add_l, pm_xl, pm_c0]
      rfl)
    have ev : kP (vI (n + 1) f (t + e)) = (letI := pfR; kP (f 0) + kP (t + e) * kP (vI n (pt f) (t + e))) := Subtype.ext (funext fun k => by
      show pk0 (f 0 + (t + e) * vI n (pt f) (t + e)) k = pk0 (f 0) k + pm (pk0 (t + e)) (pk0 (vI n (pt f) (t + e))) k
      rw [pm_c0]
      cases k with
      | zero => rfl
      | succ k => show (0 : Int) = 0 + (t + e) * 0; simp)
    rw [eg, ev]
    refine hi.add2 (hi.refl _) (hi.mul2 ?_ ih)
    refine hi.of (x_at p t) ?_
    rw [← kP_add]
    letI := pfR
    grind
theorem kP_mul (a b : Int) : (letI := pfR; kP a * kP b) = kP (a * b) := Subtype.ext (funext fun k => by
  show pm (pk0 a) (pk0 b) k = pk0 (a * b) k
  rw [pm_c0]
  cases k with
  | zero => rfl
  | succ k => show a * 0 = 0; simp)
theorem kP_sub (a b : Int) : (letI := pfR; kP a - kP b) = kP (a - b) := Subtype.ext (funext fun k => by
  show pk0 a k + -1 * pk0 b k = pk0 (a - b) k
  cases k with
  | zero => show a + -1 * b = a - b; omega
  | succ k => rfl)
/-- the value is known modulo p -/
theorem v_uniq {p n : Nat} (hp : Pr (p : Int)) {G : PF} {t v : Int} (hG : dl G.1 n) (h : ZP p (wP t).1 (letI := pfR; G - kP v)) : (p : Int) ∣ vI n G.1 t - v := by
  have hi : Idl pfR (ZP p (wP t).1) := idl_p
  have h1 : ZP p (wP t).1 (letI := pfR; kP (vI n G.1 t) - kP v) := hi.trans (hi.sym (v_at hG t)) h
  rw [kP_sub] at h1
  exact wP_c hp h1
theorem v_two {p d : Nat} (hp : Pr (p : Int)) {f1 f2 g1 g2 : PF} {e : Int} (d1 : dl f1.1 (d + 1)) (d2 : dl f2.1 (d + 1)) (e1 : g1.1 = sf e (d + 1) f1.1) (e2 : g2.1 = sf e (d + 1) f2.1) {n : Nat} (hn : dl (letI := pfR; f1 * f2 * (g1 * g2)).1 n) (t : Int) : (p : Int) ∣ vI n (letI := pfR; f1 * f2 * (g1 * g2)).1 t - vI (d + 1) f1.1 t * vI (d + 1) f2.1 t * (vI (d + 1) f1.1 (t + e) * vI (d + 1) f2.1 (t + e)) := by
  have hi : Idl pfR (ZP p (wP t).1) := idl_p
  refine v_uniq hp hn ?_
  rw [← kP_mul, ← kP_mul, ← kP_mul]
  exact hi.mul2 (hi.mul2 (v_at d1 t) (v_at d2 t)) (hi.mul2 (sf_at p e t _ _ _ e1) (sf_at p e t _ _ _ e2))
end
