/-! DIVISION, COMBINATIONS, the greatest common divisor with whole coefficients -/
section
theorem dv.pf {f g : PP} (hf : Pf f) (h : dv f g) : Pf g := by
  obtain ⟨q, hq, rfl⟩ := h
  exact hf.mul hq
theorem pm_k_r (f : PP) (c : Int) : pm f (pk0 c) = pc c f := funext fun k => by rw [pm_comm, pm_c0]; rfl
theorem dv.refl (f : PP) : dv f f := ⟨pk0 1, Pf.k 1, by rw [pm_k_r]; funext k; simp [pc]⟩
theorem dv.trans {f g h : PP} (h1 : dv f g) (h2 : dv g h) : dv f h := by
  obtain ⟨q, hq, rfl⟩ := h1
  obtain ⟨r, hr, rfl⟩ := h2
  exact ⟨pm q r, hq.mul hr, (funext fun k => pm_assoc q r k f).symm⟩
theorem dv.mul_r {f g : PP} (h : dv f g) {u : PP} (hu : Pf u) : dv f (pm u g) := by
  obtain ⟨q, hq, rfl⟩ := h
  refine ⟨pm q u, hq.mul hu, ?_⟩
  have e : pm f (pm q u) = pm (pm f q) u := funext fun k => (pm_assoc q u k f).symm
  rw [e]
  funext k
  rw [pm_comm]
theorem dv.add {f g h : PP} (h1 : dv f g) (h2 : dv f h) : dv f (pa g h) := by
  obtain ⟨q, hq, rfl⟩ := h1
  obtain ⟨r, hr, rfl⟩ := h2
  exact ⟨pa q r, hq.add hr, funext fun k => pm_add_r f q r k f⟩
theorem dv.c {f g : PP} (c : Int) (h : dv f g) : dv f (pc c g) := by
  obtain ⟨q, hq, rfl⟩ := h
  exact ⟨pc c q, hq.c c, funext fun k => pm_c_r c q k f⟩
theorem dv.le {f g : PP} {m n : Nat} (h : dv f g) (hf : dgI f m) (hg : dgI g n) : m ≤ n := by
  obtain ⟨q, hq, rfl⟩ := h
  have hq0 : q ≠ p0 := fun e => hg.ne (by rw [e]; funext k; rw [pm_comm, pm_0l])
  obtain ⟨d, hd⟩ := hq.dg hq0
  have := (hf.mul hd).uniq hg
  omega
/-- one step of a division: the highest place goes -/
theorem pdiv {g : PP} {d : Nat} (hg : dgI g d) : ∀ (n : Nat) (f : PP), dl f n → ∃ (c : Int) (q r : PP), c ≠ 0 ∧ Pf q ∧ dl r d ∧ pc c f = pa (pm q g) r
  | 0, f, hf => ⟨1, p0, f, by decide, Pf.z, dl_mono hf (by omega), funext fun k => by rw [pm_0l]; simp [pa, pc, p0]⟩
  | n + 1, f, hf => by
    by_cases hn : n + 1 ≤ d
    · exact ⟨1, p0, f, by decide, Pf.z, dl_mono hf hn, funext fun k => by rw [pm_0l]; simp [pa, pc, p0]⟩
    · -- f' = lead g * f - f n * x^(n-d) * g
      obtain ⟨s, hs⟩ : ∃ s : PP, s = fun k => if k = n - d then f n else 0 := ⟨_, rfl⟩
      have hsd : dl s (n - d + 1) := fun k hk => by rw [hs]; exact if_neg (by omega)
      have hst : s (n - d) = f n := by rw [hs]; exact if_pos rfl
      obtain ⟨f1, hf1⟩ : ∃ f1 : PP, f1 = pa (pc (g d) f) (pc (-1) (pm s g)) := ⟨_, rfl⟩
      have hl : dl f1 n := by
        intro k hk
        rw [hf1]
        simp only [pa, pc]
        by_cases e : k = n
        · subst e
          have := pm_top (k - d) s g d hsd hg.2
          rw [Nat.sub_add_cancel (by omega)] at this
          rw [this, hst]
          have := Int.mul_comm (g d) (f k)
          omega
        · have := pm_dl (n - d) s g d hsd hg.2 k (by omega)
          rw [this, hf k (by omega)]
          simp
      obtain ⟨c, q, r, hc, hq, hr, e⟩ := pdiv hg n f1 hl
      refine ⟨c * g d, pa q (pc c s), r, Int.mul_ne_zero hc hg.1, hq.add (Pf.c c ⟨_, hsd⟩), hr, funext fun k => ?_⟩
      have := congrFun e k
      simp only [pa, hf1] at this ⊢
      rw [pm_add_l, pm_c_l]
      simp only [pc, pa] at this ⊢
      have h1 : c * (g d * f k + -1 * pm s g k) = c * g d * f k - c * pm s g k := by
        rw [Int.mul_add, ← Int.mul_assoc, Int.neg_one_mul]
        rw [Int.mul_neg]
        omega
      rw [h1] at this
      omega
/-- BEZOUT: a primitive common divisor that is a combination -/
theorem bezout {x y : PP} (hx : Pf x) (hy : Pf y) (h0 : x ≠ p0 ∨ y ≠ p0) : ∃ (g u v : PP) (e : Int) (d : Nat), prim g ∧ dgI g d ∧ e ≠ 0 ∧ Pf u ∧ Pf v ∧ dv g x ∧ dv g y ∧ pc e g = pa (pm u x) (pm v y) := by
  have hex : ∃ (d : Nat) (u v : PP), Pf u ∧ Pf v ∧ dgI (pa (pm u x) (pm v y)) d := by
    rcases h0 with h | h
    · obtain ⟨d, hd⟩ := hx.dg h
      refine ⟨d, pk0 1, p0, Pf.k 1, Pf.z, ?_⟩
      have : pa (pm (pk0 1) x) (pm p0 y) = x := funext fun k => by rw [pm_0l]; simp only [pa, p0]; rw [pm_c0]; simp
      rw [this]
      exact hd
    · obtain ⟨d, hd⟩ := hy.dg h
      refine ⟨d, p0, pk0 1, Pf.z, Pf.k 1, ?_⟩
      have : pa (pm p0 x) (pm (pk0 1) y) = y := funext fun k => by rw [pm_0l]; simp only [pa, p0]; rw [pm_c0]; simp
      rw [this]
      exact hd
  obtain ⟨n, hn⟩ := hex
  obtain ⟨d, ⟨u, v, hu, hv, hd⟩, hmin⟩ := least (P := fun d => ∃ u v : PP, Pf u ∧ Pf v ∧ dgI (pa (pm u x) (pm v y)) d) n hn
  obtain ⟨e, g, he, hp, hgd, heq⟩ := prim_ex _ _ d hd rfl
  have key : ∀ z : PP, Pf z → (∃ a b : PP, Pf a ∧ Pf b ∧ z = pa (pm a x) (pm b y)) → dv g z := by
    intro z hz ⟨a, b, ha, hb, hzab⟩
    obtain ⟨m, hm⟩ := hz
    obtain ⟨c, q, r, hc, hq, hr, hcz⟩ := pdiv hd m z hm
    have hr0 : r = p0 := by
      by_cases h : r = p0
      · exact h
      · obtain ⟨k, hk⟩ := Pf.dg ⟨d, hr⟩ h
        have hkd := hk.lt hr
        refine absurd ?_ (hmin k hkd)
        refine ⟨pa (pc c a) (pc (-1) (pm q u)), pa (pc c b) (pc (-1) (pm q v)), (ha.c c).add ((hq.mul hu).c _), (hb.c c).add ((hq.mul hv).c _), ?_⟩
        have er : r = pa (pm (pa (pc c a) (pc (-1) (pm q u))) x) (pm (pa (pc c b) (pc (-1) (pm q v))) y) := by
          funext j
          have h1 := congrFun hcz j
          simp only [pa]
          rw [pm_add_l, pm_add_l, pm_c_l, pm_c_l, pm_c_l, pm_c_l, pm_assoc, pm_assoc]
          rw [hzab] at h1
          simp only [pa, pc] at h1
          have h2 : pm q (pa (pm u x) (pm v y)) j = pm q (pm u x) j + pm q (pm v y) j := pm_add_r q _ _ j q
          rw [h2] at h1
          rw [Int.mul_add] at h1
          omega
        rw [← er]
        exact hk
    have h3 : dv g (pc c z) := by
      refine ⟨pc e q, hq.c e, ?_⟩
      funext j
      rw [pm_c_r, hcz, hr0, heq]
      simp only [pa, p0]
      rw [pm_c_r, pm_comm]
      simp
    exact gauss hp ⟨m, hm⟩ _ c rfl hc h3
  refine ⟨g, u, v, e, d, hp, hgd, he, hu, hv, ?_, ?_, heq.symm⟩
  · refine key x hx ⟨pk0 1, p0, Pf.k 1, Pf.z, funext fun k => ?_⟩
    rw [pm_0l]; simp only [pa, p0]; rw [pm_c0]; simp
  · refine key y hy ⟨p0, pk0 1, Pf.z, Pf.k 1, funext fun k => ?_⟩
    rw [pm_0l]; simp only [pa, p0]; rw [pm_c0]; simp
end
