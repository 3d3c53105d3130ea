/-! MODULO A PRIME -/
section
/-- the same modulo p -/
def cg (p : Int) (f g : PP) : Prop := ∀ k, p ∣ f k - g k
theorem cg.refl (p : Int) (f : PP) : cg p f f := fun k => by rw [Int.sub_self]; exact Int.dvd_zero p
theorem cg.symm {p : Int} {f g : PP} (h : cg p f g) : cg p g f := fun k => by
  have := Int.dvd_neg.mpr (h k)
  rw [show -(f k - g k) = g k - f k by omega] at this
  exact this
theorem cg.trans {p : Int} {f g h : PP} (h1 : cg p f g) (h2 : cg p g h) : cg p f h := fun k => by
  have := Int.dvd_add (h1 k) (h2 k)
  rw [show f k - g k + (g k - h k) = f k - h k by omega] at this
  exact this
theorem cg.add {p : Int} {f g f' g' : PP} (h1 : cg p f f') (h2 : cg p g g') : cg p (pa f g) (pa f' g') := fun k => by
  have := Int.dvd_add (h1 k) (h2 k)
  simp only [pa]
  rw [show f k + g k - (f' k + g' k) = f k - f' k + (g k - g' k) by omega]
  exact this
theorem cg.c {p : Int} {f g : PP} (c : Int) (h : cg p f g) : cg p (pc c f) (pc c g) := fun k => by
  simp only [pc]
  rw [← Int.mul_sub]
  exact Int.dvd_mul_of_dvd_right (h k)
theorem cg.mul_r {p : Int} {g g' : PP} (f : PP) (h : cg p g g') : cg p (pm f g) (pm f g') := fun k => by
  have h1 : p ∣ pm f (pa g (pc (-1) g')) k := low0 _ k f (fun b _ => by
    simp only [pa, pc]
    rw [show g b + -1 * g' b = g b - g' b by omega]
    exact h b)
  rw [pm_add_r f, pm_c_r] at h1
  rw [show pm f g k - pm f g' k = pm f g k + -1 * pm f g' k by omega]
  exact h1
theorem cg.mul_l {p : Int} {f f' : PP} (g : PP) (h : cg p f f') : cg p (pm f g) (pm f' g) := fun k => by
  rw [pm_comm k f g, pm_comm k f' g]
  exact cg.mul_r g h k
theorem cg.alof {p : Int} {f g : PP} (h : cg p f g) (ha : al p g) : al p f := fun k => by
  have := Int.dvd_add (h k) (ha k)
  rw [show f k - g k + g k = f k by omega] at this
  exact this
/-- the degree modulo p -/
def md (p : Int) (f : PP) (d : Nat) : Prop := ¬ p ∣ f d ∧ ∀ k, d < k → p ∣ f k
theorem md.of_cg {p : Int} {f g : PP} {d : Nat} (h : md p f d) (hc : cg p f g) : md p g d := by
  refine ⟨fun q => h.1 ?_, fun k hk => ?_⟩
  · have := Int.dvd_add (hc d) q
    rw [show f d - g d + g d = f d by omega] at this
    exact this
  · have := Int.dvd_sub (h.2 k hk) (hc k)
    rw [show f k - (f k - g k) = g k by omega] at this
    exact this
theorem md.uniq {p : Int} {f : PP} {d e : Nat} (h : md p f d) (h' : md p f e) : d = e := by
  rcases Nat.lt_trichotomy d e with q | q | q
  · exact absurd (h.2 e q) h'.1
  · exact q
  · exact absurd (h'.2 d q) h.1
/-- cut off -/
def ct (f : PP) (n : Nat) : PP := fun k => if k < n then f k else 0
theorem ct_dl (f : PP) (n : Nat) : dl (ct f n) n := fun k hk => if_neg (by omega)
theorem ct_lt {f : PP} {n k : Nat} (h : k < n) : ct f n k = f k := if_pos h
theorem md.cut {p : Int} {f : PP} {d n : Nat} (h : md p f d) (hn : d < n) : cg p f (ct f n) := fun k => by
  by_cases q : k < n
  · rw [ct_lt q, Int.sub_self]; exact Int.dvd_zero p
  · rw [ct_dl f n k (by omega)]
    rw [Int.sub_zero]
    exact h.2 k (by omega)
theorem md.mul {p : Int} (hp : Pr p) {f g : PP} {m n : Nat} (hf : md p f m) (hg : md p g n) : md p (pm f g) (m + n) := by
  have hc : cg p (pm f g) (pm (ct f (m + 1)) (ct g (n + 1))) := (cg.mul_l g (hf.cut (by omega))).trans (cg.mul_r _ (hg.cut (by omega)))
  refine md.of_cg ?_ hc.symm
  refine ⟨?_, fun k hk => ?_⟩
  · rw [pm_top m _ _ n (ct_dl f _) (ct_dl g _), ct_lt (by omega), ct_lt (by omega)]
    intro q
    rcases hp.2 _ _ q with r | r
    · exact hf.1 r
    · exact hg.1 r
  · rw [pm_dl m _ _ n (ct_dl f _) (ct_dl g _) k (by omega)]
    exact Int.dvd_zero p
theorem md_ex {p : Int} {f : PP} : ∀ n, dl f n → ¬ al p f → ∃ d, d < n ∧ md p f d
  | 0, h, ha => absurd (fun k => by rw [h k (Nat.zero_le k)]; exact Int.dvd_zero p) ha
  | n + 1, h, ha => by
    by_cases e : p ∣ f n
    · have hc : cg p f (ct f n) := fun k => by
        by_cases q : k < n
        · rw [ct_lt q, Int.sub_self]; exact Int.dvd_zero p
        · rw [ct_dl f n k (by omega), Int.sub_zero]
          by_cases r : k = n
          · rw [r]; exact e
          · rw [h k (by omega)]; exact Int.dvd_zero p
      obtain ⟨d, h1, h2⟩ := md_ex n (ct_dl f n) (fun q => ha (hc.alof q))
      exact ⟨d, by omega, h2.of_cg hc.symm⟩
    · exact ⟨n, by omega, e, fun k hk => by rw [h k (by omega)]; exact Int.dvd_zero p⟩
theorem dgI.mdp {f : PP} {d : Nat} {p : Int} (h : dgI f d) (hp : ¬ p ∣ f d) : md p f d := ⟨hp, fun k hk => by rw [h.2 k (by omega)]; exact Int.dvd_zero p⟩
/-- a combination modulo p -/
def In (p : Int) (f x y : PP) : Prop := ∃ u v, Pf u ∧ Pf v ∧ cg p f (pa (pm u x) (pm v y))
theorem pm_1l (f : PP) : pm (pk0 1) f = f := funext fun k => by rw [pm_c0]; simp
theorem In.x (p : Int) (x y : PP) : In p x x y := ⟨pk0 1, p0, Pf.k 1, Pf.z, by rw [pm_1l, pm_0l, pa_0]; exact cg.refl p x⟩
theorem pa_comm (f g : PP) : pa f g = pa g f := funext fun k => Int.add_comm _ _
theorem In.y (p : Int) (x y : PP) : In p y x y := ⟨p0, pk0 1, Pf.z, Pf.k 1, by rw [pm_1l, pm_0l, pa_comm, pa_0]; exact cg.refl p y⟩
theorem In.of_cg {p : Int} {f g x y : PP} (h : In p f x y) (hc : cg p g f) : In p g x y := by
  obtain ⟨u, v, hu, hv, e⟩ := h
  exact ⟨u, v, hu, hv, hc.trans e⟩
theorem In.add {p : Int} {f g x y : PP} (h1 : In p f x y) (h2 : In p g x y) : In p (pa f g) x y := by
  obtain ⟨u, v, hu, hv, e⟩ := h1
  obtain ⟨u', v', hu', hv', e'⟩ := h2
  refine ⟨pa u u', pa v v', hu.add hu', hv.add hv', (cg.add e e').trans ?_⟩
  have : pa (pa (pm u x) (pm v y)) (pa (pm u' x) (pm v' y)) = pa (pm (pa u u') x) (pm (pa v v') y) := funext fun k => by
    simp only [pa]
    rw [pm_add_l, pm_add_l]
    omega
  rw [this]
  exact cg.refl p _
theorem In.mul {p : Int} {f x y : PP} (h : In p f x y) {w : PP} (hw : Pf w) : In p (pm w f) x y := by
  obtain ⟨u, v, hu, hv, e⟩ := h
  refine ⟨pm w u, pm w v, hw.mul hu, hw.mul hv, (cg.mul_r w e).trans ?_⟩
  have : pm w (pa (pm u x) (pm v y)) = pa (pm (pm w u) x) (pm (pm w v) y) := funext fun k => by
    rw [pm_add_r w]
    simp only [pa]
    rw [pm_assoc, pm_assoc]
  rw [this]
  exact cg.refl p _
theorem In.c {p : Int} {f x y : PP} (h : In p f x y) (c : Int) : In p (pc c f) x y := by
  have := h.mul (Pf.k c)
  rw [show pm (pk0 c) f = pc c f from funext fun k => pm_c0 c f k] at this
  exact this
theorem In.trans {p : Int} {f x y x' y' : PP} (h : In p f x y) (hx : In p x x' y') (hy : In p y x' y') : In p f x' y' := by
  obtain ⟨u, v, hu, hv, e⟩ := h
  exact ((hx.mul hu).add (hy.mul hv)).of_cg e
/-- G is a greatest common divisor of x and y modulo p -/
def GcdM (p : Int) (G x y : PP) : Prop := In p G x y ∧ (∃ s, Pf s ∧ cg p x (pm s G)) ∧ ∃ t, Pf t ∧ cg p y (pm t G)
/-- two pairs that make the same -/
def SameI (p : Int) (h l x y : PP) : Prop := In p h x y ∧ In p l x y ∧ In p x h l ∧ In p y h l
theorem SameI.start (p : Int) (x y : PP) : SameI p x y x y := ⟨In.x p x y, In.y p x y, In.x p x y, In.y p x y⟩
/-- low by a unit, high less a multiple of it, and changed about -/
theorem SameI.step {p : Int} {h l x y l1 r q : PP} {c c' : Int} (hs : SameI p h l x y) (hl : cg p l1 (pc c l)) (hc : p ∣ c * c' - 1) (hq : Pf q) (hr : cg p h (pa (pm q l1) r)) : SameI p l1 r x y := by
  obtain ⟨h1, h2, h3, h4⟩ := hs
  have hl1 : In p l1 x y := (h2.c c).of_cg hl
  have hr1 : In p r x y := by
    refine (h1.add ((hl1.mul hq).c (-1))).of_cg (fun k => ?_)
    have := Int.dvd_neg.mpr (hr k)
    simp only [pa, pc] at this ⊢
    rw [show r k - (h k + -1 * pm q l1 k) = -(h k - (pm q l1 k + r k)) by omega]
    exact this
  have hlb : In p l l1 r := by
    refine ((In.x p l1 r).c c').of_cg (fun k => ?_)
    have h5 := hl k
    simp only [pc] at h5 ⊢
    -- l = c c' l - (c c' - 1) l
    have h6 : p ∣ (c * c' - 1) * l k := Int.dvd_mul_of_dvd_left hc
    have h7 : p ∣ c' * (l1 k - c * l k) := Int.dvd_mul_of_dvd_right h5
    have h8 := Int.dvd_add h6 h7
    have := Int.dvd_neg.mpr h8
    rw [show -((c * c' - 1) * l k + c' * (l1 k - c * l k)) = l k - c' * l1 k by grind] at this
    exact this
  have hhb : In p h l1 r := (((In.x p l1 r).mul hq).add (In.y p l1 r)).of_cg hr
  exact ⟨hl1, hr1, h3.trans hhb hlb, h4.trans hhb hlb⟩
theorem SameI.fin {p : Int} {h l x y G : PP} {c c' : Int} (hs : SameI p h l x y) (hl : al p l) (hG : cg p G (pc c h)) (hc : p ∣ c * c' - 1) : GcdM p G x y := by
  obtain ⟨h1, h2, h3, h4⟩ := hs
  have hb : cg p h (pc c' G) := fun k => by
    have h5 := hG k
    simp only [pc] at h5 ⊢
    have h6 : p ∣ (c * c' - 1) * h k := Int.dvd_mul_of_dvd_left hc
    have h7 : p ∣ c' * (G k - c * h k) := Int.dvd_mul_of_dvd_right h5
    have := Int.dvd_neg.mpr (Int.dvd_add h6 h7)
    rw [show -((c * c' - 1) * h k + c' * (G k - c * h k)) = h k - c' * G k by grind] at this
    exact this
  have key : ∀ z, In p z h l → ∃ s, Pf s ∧ cg p z (pm s G) := by
    intro z ⟨u, v, hu, hv, e⟩
    refine ⟨pc c' u, hu.c c', e.trans ?_⟩
    have e1 : cg p (pa (pm u h) (pm v l)) (pa (pm u (pc c' G)) p0) := cg.add (cg.mul_r u hb) (fun k => by
      simp only [p0]
      rw [Int.sub_zero]
      exact low0 l k v (fun b _ => hl b))
    refine e1.trans ?_
    have e2 : pa (pm u (pc c' G)) p0 = pm (pc c' u) G := funext fun k => by rw [pa_0, pm_c_r, pm_c_l]
    rw [e2]
    exact cg.refl p _
  exact ⟨(h1.c c).of_cg hG, key x h3, key y h4⟩
end
