/-! WHAT IS TAKEN APART IS UNIQUE -/
section
theorem pmc (f g : PP) : pm f g = pm g f := funext fun k => pm_comm k f g
theorem pma (f g h : PP) : pm (pm f g) h = pm f (pm g h) := funext fun k => pm_assoc g h k f
theorem pm_1r (f : PP) : pm f (pk0 1) = f := by rw [pmc, pm_1l]
theorem dgI_1 : dgI (pk0 1) 0 := ⟨by show (1 : Int) ≠ 0; decide, fun k hk => by cases k with
  | zero => omega
  | succ k => rfl⟩
theorem Irr.pf {t : PP} (h : Irr t) : Pf t := by obtain ⟨d, -, hd⟩ := h.1; exact hd.pf
theorem Irr.ne {t : PP} (h : Irr t) : t ≠ p0 := by obtain ⟨d, -, hd⟩ := h.1; exact hd.ne
theorem irr_1 {t : PP} (h : Irr t) : ¬ dv t (pk0 1) := fun w => by
  obtain ⟨d, hd0, hd⟩ := h.1
  have := w.le hd dgI_1
  omega
theorem prim_1 : prim (pk0 1) := fun l hl ha => by
  have h1 : l ∣ 1 := ha 0
  have h2 := hl.1
  have := Int.le_of_dvd (by decide) h1
  omega
theorem pw_prim {f : PP} (h : prim f) : ∀ k, prim (pw f k)
  | 0 => prim_1
  | k + 1 => h.mul (pw_prim h k)
theorem prd_prim {q : Nat → PP} {n : Nat → Nat} : ∀ c, (∀ i, i < c → Irr (q i)) → prim (prd q n c)
  | 0, _ => prim_1
  | c + 1, h => (prd_prim c (fun i hi => h i (by omega))).mul (pw_prim (h c (by omega)).2.1 _)
theorem irr_pw {t f : PP} (h : Irr t) (hf : Pf f) : ∀ k, dv t (pw f k) → 0 < k ∧ dv t f
  | 0, w => absurd w (irr_1 h)
  | k + 1, w => by
    rcases irr_dv h hf (pw_pf hf k) w with r | r
    · exact ⟨by omega, r⟩
    · exact ⟨by omega, (irr_pw h hf k r).2⟩
theorem irr_prd {t : PP} {q : Nat → PP} {n : Nat → Nat} (h : Irr t) : ∀ c, (∀ i, i < c → Pf (q i)) → dv t (prd q n c) → ∃ i, i < c ∧ 0 < n i ∧ dv t (q i)
  | 0, _, w => absurd w (irr_1 h)
  | c + 1, hp, w => by
    rcases irr_dv h (prd_pf c (fun i hi => hp i (by omega))) (pw_pf (hp c (by omega)) _) w with r | r
    · obtain ⟨i, h1, h2⟩ := irr_prd h c (fun i hi => hp i (by omega)) r
      exact ⟨i, by omega, h2⟩
    · obtain ⟨h1, h2⟩ := irr_pw h (hp c (by omega)) _ r
      exact ⟨c, by omega, h1, h2⟩
theorem irr_eq {t s : PP} (ht : Irr t) (hs : Irr s) (pt : posL t) (ps : posL s) (h : dv t s) : t = s := by
  obtain ⟨d, hd, hdp⟩ := pt
  obtain ⟨e, he, hep⟩ := ps
  obtain ⟨u, hu, eu⟩ := h
  have hd0 : 0 < d := by
    obtain ⟨d', h1, h2⟩ := ht.1
    rw [hd.uniq h2]; exact h1
  have hu1 : dl u 1 := by
    rcases hs.2.2 t u hd.pf hu eu with w | w
    · have := hd.lt w; omega
    · exact w
  have hu0 : u ≠ p0 := fun z => he.ne (by rw [← eu, z, pmc, pm_0l])
  obtain ⟨x, hx⟩ := hu.dg hu0
  have hx0 : x = 0 := by have := hx.lt hu1; omega
  subst hx0
  have hde : d = e := by
    have : dgI s (d + 0) := by rw [← eu]; exact hd.mul hx
    exact this.uniq he
  subst hde
  obtain ⟨k, hk, ek⟩ := prim_same ht.2.1 hs.2.1 hd he ⟨u, hu, eu⟩
  rcases hk with rfl | rfl
  · rw [ek]; funext j; simp [pc]
  · exfalso
    have := congrFun ek d
    simp only [pc] at this
    omega
theorem prd_split {q : Nat → PP} {n : Nat → Nat} : ∀ c, (∀ i, i < c → Pf (q i)) → ∀ i, i < c → ∃ r, Pf r ∧ prd q n c = pm (pw (q i) (n i)) r ∧ ∀ t, Irr t → dv t r → ∃ j, j < c ∧ j ≠ i ∧ dv t (q j)
  | 0, _, i, hi => absurd hi (Nat.not_lt_zero _)
  | c + 1, hp, i, hi => by
    have hp' : ∀ i, i < c → Pf (q i) := fun i hi => hp i (by omega)
    by_cases w : i = c
    · subst w
      exact ⟨prd q n i, prd_pf i hp', by rw [prd, pmc], fun t ht hd => by
        obtain ⟨j, h1, -, h2⟩ := irr_prd ht i hp' hd
        exact ⟨j, by omega, by omega, h2⟩⟩
    · obtain ⟨r, h1, h2, h3⟩ := prd_split c hp' i (by omega)
      refine ⟨pm r (pw (q c) (n c)), h1.mul (pw_pf (hp c (by omega)) _), by rw [prd, h2, pma], fun t ht hd => ?_⟩
      rcases irr_dv ht h1 (pw_pf (hp c (by omega)) _) hd with x | x
      · obtain ⟨j, a, b, d⟩ := h3 t ht x
        exact ⟨j, by omega, b, d⟩
      · exact ⟨c, by omega, fun z => w z.symm, (irr_pw ht (hp c (by omega)) _ x).2⟩
theorem dv_mul_l {f g : PP} (hg : Pf g) : dv f (pm f g) := ⟨g, hg, rfl⟩
theorem pw_cop {t x : PP} (ht : Irr t) (hx : Pf x) (hx0 : ¬ dv t x) : ∀ (k : Nat) (y : PP), Pf y → dv (pw t k) (pm x y) → dv (pw t k) y
  | 0, y, hy, _ => ⟨y, hy, pm_1l y⟩
  | k + 1, y, hy, w => by
    obtain ⟨s, hs, es⟩ := w
    have h1 : dv t (pm x y) := by rw [← es, pw, pma]; exact dv_mul_l ((pw_pf ht.pf k).mul hs)
    rcases irr_dv ht hx hy h1 with r | r
    · exact absurd r hx0
    · obtain ⟨y', hy', ey⟩ := r
      have e1 : pm t (pm x y') = pm t (pm (pw t k) s) := by
        rw [← pma, pmc t x, pma, ey, ← es, pw, pma]
      have e2 := pm_cancel ht.pf ht.ne (hx.mul hy') ((pw_pf ht.pf k).mul hs) e1
      obtain ⟨u, hu, eu⟩ := pw_cop ht hx hx0 k y' hy' ⟨s, hs, e2.symm⟩
      exact ⟨u, hu, by rw [pw, pma, eu, ey]⟩
theorem pw_top {t r : PP} (ht : Irr t) (hr : Pf r) (k : Nat) (h : dv (pw t (k + 1)) (pm (pw t k) r)) : dv t r := by
  obtain ⟨s, hs, es⟩ := h
  have e1 : pm (pw t k) (pm t s) = pm (pw t k) r := by rw [← es, pw, ← pma, pmc (pw t k) t]
  have hne : pw t k ≠ p0 := by
    obtain ⟨d, -, hd⟩ := ht.1
    exact (pw_dg hd k).ne
  exact ⟨s, hs, pm_cancel (pw_pf ht.pf k) hne (ht.pf.mul hs) hr e1⟩
theorem pw_mono {t : PP} (ht : Pf t) : ∀ {i j : Nat}, i ≤ j → dv (pw t i) (pw t j) := fun {i j} h => by
  induction j with
  | zero => rw [show i = 0 by omega]; exact dv.refl _
  | succ j ih =>
    by_cases w : i = j + 1
    · rw [w]; exact dv.refl _
    · exact (ih (by omega)).trans ⟨t, ht, by rw [pw, pmc]⟩
variable {f g : PP} {c c' : Nat} {q q' : Nat → PP} {n n' : Nat → Nat}
theorem Fac.pf (h : Fac f c q n) : ∀ i, i < c → Pf (q i) := fun i hi => (h.2.1 i hi).1.pf
theorem Fac.mem (h : Fac f c q n) {t : PP} (ht : Irr t) (pt : posL t) (hd : dv t f) : ∃ i, i < c ∧ t = q i := by
  rw [h.1] at hd
  obtain ⟨i, h1, -, h2⟩ := irr_prd ht c h.pf hd
  exact ⟨i, h1, irr_eq ht (h.2.1 i h1).1 pt (h.2.1 i h1).2.1 h2⟩
theorem Fac.dvd (h : Fac f c q n) {i : Nat} (hi : i < c) : dv (pw (q i) (n i)) f := by
  obtain ⟨r, h1, h2, -⟩ := prd_split (n := n) c h.pf i hi
  rw [h.1, h2]; exact dv_mul_l h1
theorem Fac.dvd1 (h : Fac f c q n) {i : Nat} (hi : i < c) : dv (q i) f := by
  have h1 := h.dvd hi
  have h2 := pw_mono (h.pf i hi) (show 1 ≤ n i from (h.2.1 i hi).2.2)
  have e : pw (q i) 1 = q i := by show pm (q i) (pk0 1) = q i; rw [pm_1r]
  rw [e] at h2
  exact h2.trans h1
theorem Fac.top (h : Fac f c q n) {i : Nat} (hi : i < c) : ¬ dv (pw (q i) (n i + 1)) f := fun w => by
  obtain ⟨r, h1, h2, h3⟩ := prd_split (n := n) c h.pf i hi
  rw [h.1, h2] at w
  obtain ⟨j, a, b, d⟩ := h3 (q i) (h.2.1 i hi).1 (pw_top (h.2.1 i hi).1 h1 _ w)
  exact h.2.2 i j hi a (fun z => b z.symm) (irr_eq (h.2.1 i hi).1 (h.2.1 j a).1 (h.2.1 i hi).2.1 (h.2.1 j a).2.1 d)
theorem Fac.num (h : Fac f c q n) (h' : Fac f c' q' n') {i j : Nat} (hi : i < c) (hj : j < c') (e : q i = q' j) : n i = n' j := by
  rcases Nat.lt_trichotomy (n i) (n' j) with w | w | w
  · refine absurd ?_ (h.top hi)
    rw [e]; exact (pw_mono (h'.pf j hj) w).trans (h'.dvd hj)
  · exact w
  · refine absurd ?_ (h'.top hj)
    rw [← e]; exact (pw_mono (h.pf i hi) w).trans (h.dvd hi)
/-- sorted ones with the same members -/
theorem srt_same {q q' : Nat → PP} (s1 : srt c q) (s2 : srt c' q') (h1 : ∀ i, i < c → ∃ j, j < c' ∧ q i = q' j) (h2 : ∀ j, j < c' → ∃ i, i < c ∧ q' j = q i) : c = c' ∧ ∀ i, i < c → q i = q' i := by
  have inj : ∀ {c : Nat} {q : Nat → PP}, srt c q → ∀ i j, i < c → j < c → q i = q j → i = j := fun s i j hi hj e => by
    rcases Nat.lt_trichotomy i j with w | w | w
    · have := s i j w hj; rw [e] at this; exact absurd this (fun t => t.irr)
    · exact w
    · have := s j i w hi; rw [e] at this; exact absurd this (fun t => t.irr)
  have key : ∀ i, i < c → i < c' → q i = q' i := fun i => by
    induction i using Nat.strongRecOn with
    | _ i ih =>
      intro hi hi'
      obtain ⟨k, hk, ek⟩ := h1 i hi
      obtain ⟨j, hj, ej⟩ := h2 i hi'
      have hki : ¬ k < i := fun w => by
        have := ih k w (by omega) hk
        rw [← ek] at this
        have := inj s1 k i (by omega) hi this
        omega
      have hji : ¬ j < i := fun w => by
        have := ih j w hj (by omega)
        rw [← ej] at this
        have := inj s2 i j hi' (by omega) this
        omega
      by_cases w : k = i
      · rw [ek, w]
      · have b1 := s2 i k (by omega) hk
        rw [ej, ← ek] at b1
        by_cases w2 : j = i
        · rw [w2] at b1; exact absurd b1 (fun t => t.irr)
        · exact absurd (s1 i j (by omega) hj) (fun t => t.asym b1)
  have hc : c = c' := by
    rcases Nat.lt_trichotomy c c' with w | w | w
    · exfalso
      obtain ⟨i, hi, ei⟩ := h2 c w
      rw [key i hi (by omega)] at ei
      have := inj s2 c i w (by omega) ei
      omega
    · exact w
    · exfalso
      obtain ⟨i, hi, ei⟩ := h1 c' w
      rw [← key i (by omega) hi] at ei
      have := inj s1 c' i w (by omega) ei
      omega
  exact ⟨hc, fun i hi => key i hi (by omega)⟩
/-- ONE WAY ONLY -/
theorem fac_unique (h : Fac f c q n) (s : srt c q) (h' : Fac f c' q' n') (s' : srt c' q') : c = c' ∧ ∀ i, i < c → q i = q' i ∧ n i = n' i := by
  obtain ⟨e, k⟩ := srt_same s s' (fun i hi => h'.mem (h.2.1 i hi).1 (h.2.1 i hi).2.1 (h.dvd1 hi)) (fun j hj => h.mem (h'.2.1 j hj).1 (h'.2.1 j hj).2.1 (h'.dvd1 hj))
  exact ⟨e, fun i hi => ⟨k i hi, h.num h' hi (by omega) (k i hi)⟩⟩
/-- powers of different ones that divide -/
theorem prd_dv {e : Nat → Nat} (hg : Pf g) : ∀ c, (∀ i, i < c → Irr (q i) ∧ posL (q i) ∧ dv (pw (q i) (e i)) g) → (∀ i j, i < c → j < c → i ≠ j → q i ≠ q j) → dv (prd q e c) g
  | 0, _, _ => ⟨g, hg, pm_1l g⟩
  | c + 1, h, hd => by
    obtain ⟨s, hs, es⟩ := prd_dv hg c (fun i hi => h i (by omega)) (fun i j hi hj => hd i j (by omega) (by omega))
    obtain ⟨h1, h2, h3⟩ := h c (by omega)
    rw [← es] at h3
    obtain ⟨u, hu, eu⟩ := pw_cop h1 (prd_pf c (fun i hi => (h i (by omega)).1.pf)) (fun w => by
      obtain ⟨i, a, -, b⟩ := irr_prd h1 c (fun i hi => (h i (by omega)).1.pf) w
      exact hd c i (by omega) (by omega) (by omega) (irr_eq h1 (h i (by omega)).1 h2 (h i (by omega)).2.1 b)) (e c) s hs h3
    exact ⟨u, hu, by rw [prd, pma, eu, es]⟩
theorem prd_le {e : Nat → Nat} (hp : ∀ i, i < c → Pf (q i)) (hle : ∀ i, i < c → e i ≤ n i) : prd q n c = pm (prd q e c) (prd q (fun i => n i - e i) c) := by
  induction c with
  | zero => show pk0 1 = pm (pk0 1) (pk0 1); rw [pm_1l]
  | succ c ih =>
    rw [prd, prd, prd, ih (fun i hi => hp i (by omega)) (fun i hi => hle i (by omega))]
    have e1 : pw (q c) (n c) = pm (pw (q c) (e c)) (pw (q c) (n c - e c)) := by
      have key : ∀ (f : PP) (a b : Nat), pw f (a + b) = pm (pw f a) (pw f b) := fun f a b => by
        induction a with
        | zero => rw [Nat.zero_add]; show _ = pm (pk0 1) _; rw [pm_1l]
        | succ a ia => rw [show a + 1 + b = (a + b) + 1 by omega, pw, pw, ia, pma]
      have := hle c (by omega)
      rw [← key, show e c + (n c - e c) = n c by omega]
    rw [e1]
    generalize prd q e c = X
    generalize prd q (fun i => n i - e i) c = Y
    generalize pw (q c) (e c) = Z
    generalize pw (q c) (n c - e c) = W
    rw [pma, pma, ← pma Y Z W, pmc Y Z, pma Z Y W]
/-- THE GREATEST COMMON DIVISOR out of the parts -/
theorem fac_gcd {e : Nat → Nat} (hf : Fac f c q n) (hg : Fac g c' q' n') (he : ∀ i, i < c → (∃ k, k < c' ∧ q i = q' k ∧ e i = min (n i) (n' k)) ∨ ((∀ k, k < c' → q i ≠ q' k) ∧ e i = 0)) : Gcd (prd q e c) f g := by
  have hgp : Pf g := by rw [hg.1]; exact prd_pf c' hg.pf
  have hle : ∀ i, i < c → e i ≤ n i := fun i hi => by
    rcases he i hi with ⟨k, -, -, h⟩ | ⟨-, h⟩
    · rw [h]; exact Nat.min_le_left _ _
    · omega
  have hRpf : Pf (prd q e c) := prd_pf c hf.pf
  have hRf : dv (prd q e c) f := by
    rw [hf.1, prd_le hf.pf hle]; exact dv_mul_l (prd_pf c hf.pf)
  have hRg : dv (prd q e c) g := prd_dv hgp c (fun i hi => ⟨(hf.2.1 i hi).1, (hf.2.1 i hi).2.1, by
    rcases he i hi with ⟨k, hk, h1, h2⟩ | ⟨-, h⟩
    · rw [h1, h2]; exact (pw_mono (hg.pf k hk) (Nat.min_le_right _ _)).trans (hg.dvd hk)
    · rw [h]; exact ⟨g, hgp, pm_1l g⟩⟩) hf.2.2
  have hRp : prim (prd q e c) := prd_prim c (fun i hi => (hf.2.1 i hi).1)
  have hRpos : posL (prd q e c) := prd_pos c (fun i hi => (hf.2.1 i hi).2.1)
  obtain ⟨d, hd, hdp⟩ := hRpos
  refine ⟨hRp, hRf, hRg, d, hd, hdp, fun h m hhf hhg hm => ?_⟩
  -- what is left has nothing in common
  obtain ⟨G', hG', eG⟩ := hRg
  obtain ⟨F', hF'⟩ : ∃ F' : PP, F' = prd q (fun i => n i - e i) c := ⟨_, rfl⟩
  have eF : pm (prd q e c) F' = f := by rw [hF', ← prd_le hf.pf hle, ← hf.1]
  have hF'p : Pf F' := by rw [hF']; exact prd_pf c hf.pf
  have hF'0 : F' ≠ p0 := by
    rw [hF']
    obtain ⟨d', h1, -⟩ := prd_pos (n := fun i => n i - e i) c (fun i hi => (hf.2.1 i hi).2.1)
    exact h1.ne
  obtain ⟨u, v, k, hk, hu, hv, ebz⟩ := coprime_bz hF'p hG' (Or.inl hF'0) (fun t dt hti htd h1 h2 => by
    rw [hF'] at h1
    obtain ⟨i, a, b, dd⟩ := irr_prd hti c hf.pf h1
    -- q i divides t as well, up to sign
    have htq : dv (q i) t := by
      obtain ⟨x, hx, ex⟩ := dd
      have hx1 : dl x 1 := by
        rcases (hf.2.1 i a).1.2.2 t x htd.pf hx ex with w | w
        · obtain ⟨d0, hd0, hd0'⟩ := hti.1
          have := hd0'.lt w; omega
        · exact w
      have hx0 : x 0 ≠ 0 := fun z => (hf.2.1 i a).1.ne (by rw [← ex, dl1 hx1, z, pm_k_r]; funext j; simp [pc, p0])
      exact dv_of_c (hf.2.1 i a).1.2.1 hti.pf hx0 ⟨pk0 1, Pf.k 1, by rw [pm_1r, ← ex, dl1 hx1, pm_k_r]; rfl⟩
    have hq : dv (q i) G' := htq.trans h2
    have hmul : ∀ k, e i = k → dv (pw (q i) (k + 1)) g := fun k ek => by
      obtain ⟨r, r1, r2, -⟩ := prd_split (n := e) c hf.pf i a
      obtain ⟨s, s1, s2⟩ := hq
      refine ⟨pm r s, r1.mul s1, ?_⟩
      rw [← eG, r2, ek, ← s2, pw]
      generalize pw (q i) k = X
      rw [pma, pma, ← pma r (q i) s, pmc r (q i), pma (q i) r s, ← pma X (q i) _, pmc X (q i), pma]
    rcases he i a with ⟨k, hk, h5, h6⟩ | ⟨h5, h6⟩
    · have hb : n' k < n i := by
        rcases Nat.lt_or_ge (n' k) (n i) with w | w
        · exact w
        · exfalso
          have : e i = n i := by rw [h6]; exact Nat.min_eq_left w
          have b' : 0 < n i - e i := b
          omega
      have := hmul (n' k) (by rw [h6]; exact Nat.min_eq_right (by omega))
      rw [h5] at this
      exact hg.top hk this
    · have := hmul 0 h6
      have e1 : pw (q i) (0 + 1) = q i := by show pm (q i) (pk0 1) = q i; rw [pm_1r]
      rw [e1] at this
      obtain ⟨k, hk, ek⟩ := hg.mem (hf.2.1 i a).1 (hf.2.1 i a).2.1 this
      exact h5 k hk ek)
  have h9 : pc k (prd q e c) = pa (pm u f) (pm v g) := by
    have : pc k (prd q e c) = pm (pk0 k) (prd q e c) := by funext j; rw [pm_c0]; rfl
    rw [this, ebz]
    funext j
    rw [pm_add_l, pma, pma, pmc F', pmc G', eF, eG]
    rfl
  have h10 : dv h (pc k (prd q e c)) := by rw [h9]; exact (hhf.mul_r hu).add (hhg.mul_r hv)
  exact h10.le hm ⟨by simp only [pc]; exact Int.mul_ne_zero hk hd.1, fun j hj => by simp only [pc]; rw [hd.2 j hj]; simp⟩
end
