/-! POLYNOMIALS MODULO A PRIME: inverses, division, greatest common divisors, irreducible ones -/
section
theorem nm_int (n : Nat) : nmG (inferInstance : Lean.Grind.CommRing Int) n = (n : Int) := by
  induction n with
  | zero => rfl
  | succ n ih =>
    show nmG (inferInstance : Lean.Grind.CommRing Int) n + 1 = _
    rw [ih]; omega
theorem idl_int (p : Int) : Idl (inferInstance : Lean.Grind.CommRing Int) (fun a => p ∣ a) := ⟨Int.dvd_zero p, fun _ _ h1 h2 => Int.dvd_add h1 h2, fun _ b h => Int.dvd_mul_of_dvd_right h⟩
/-- FERMAT -/
theorem flt {p : Nat} (hp : Pr (p : Int)) (a : Int) : (p : Int) ∣ a ^ p - a := by
  have hp1 := hp.1
  have hid := idl_int (p : Int)
  have nat : ∀ n : Nat, (p : Int) ∣ (n : Int) ^ p - n := fun n => by
    induction n with
    | zero =>
      rw [show ((0 : Nat) : Int) = 0 from rfl, Int.zero_pow (by omega)]
      exact ⟨0, by omega⟩
    | succ n ih =>
      have h := frob hid hp (by rw [nm_int]; exact Int.dvd_refl _) (n : Int) 1
      have h1 : (p : Int) ∣ ((n : Int) + 1) ^ p - ((n : Int) ^ p + 1 ^ p) := h
      rw [Int.one_pow] at h1
      have := Int.dvd_add h1 ih
      rw [show ((n + 1 : Nat) : Int) = (n : Int) + 1 by omega]
      have e : ((n : Int) + 1) ^ p - ((n : Int) ^ p + 1) + ((n : Int) ^ p - n) = ((n : Int) + 1) ^ p - (n + 1) := by omega
      rw [e] at this; exact this
  have h1 := nat (a % p).toNat
  have h0 : 0 ≤ a % p := Int.emod_nonneg _ (by omega)
  rw [Int.toNat_of_nonneg h0] at h1
  have h2 : (p : Int) ∣ a - a % p := by
    have := Int.mul_ediv_add_emod a p
    exact ⟨a / p, by omega⟩
  have h3 : (p : Int) ∣ a ^ p - (a % p) ^ p := hid.pow2 h2 p
  have := Int.dvd_sub (Int.dvd_add h3 h1) h2
  have e : a ^ p - (a % p) ^ p + ((a % p) ^ p - a % p) - (a - a % p) = a ^ p - a := by omega
  rw [e] at this; exact this
theorem inv_ex {p : Nat} (hp : Pr (p : Int)) {c : Int} (h : ¬ (p : Int) ∣ c) : ∃ c', (p : Int) ∣ c * c' - 1 := by
  have hp1 := hp.1
  obtain ⟨m, rfl⟩ : ∃ m, p = m + 1 + 1 := ⟨p - 2, by omega⟩
  refine ⟨c ^ m, ?_⟩
  have h1 := flt hp c
  rw [Int.pow_succ, Int.pow_succ] at h1
  have h2 : ((m + 1 + 1 : Nat) : Int) ∣ c * (c * c ^ m - 1) := by
    have e : c * (c * c ^ m - 1) = c ^ m * c * c - c := by generalize c ^ m = x; grind
    rw [e]; exact h1
  rcases hp.2 _ _ h2 with w | w
  · exact absurd w h
  · exact w
/-- divides modulo p -/
def dmP (p : Int) (h f : PP) : Prop := ∃ s, Pf s ∧ cg p f (pm s h)
theorem dmP.refl (p : Int) (h : PP) : dmP p h h := ⟨pk0 1, Pf.k 1, by rw [pm_1l]; exact cg.refl p h⟩
theorem dmP.of_cg {p : Int} {h f f' : PP} (hd : dmP p h f) (hc : cg p f' f) : dmP p h f' := by
  obtain ⟨s, hs, e⟩ := hd
  exact ⟨s, hs, hc.trans e⟩
theorem dmP.of_cgl {p : Int} {h h' f : PP} (hd : dmP p h f) (hc : cg p h h') : dmP p h' f := by
  obtain ⟨s, hs, e⟩ := hd
  exact ⟨s, hs, e.trans (hc.mul_r s)⟩
theorem dmP.add {p : Int} {h f g : PP} (h1 : dmP p h f) (h2 : dmP p h g) : dmP p h (pa f g) := by
  obtain ⟨s, hs, e⟩ := h1
  obtain ⟨t, ht, e'⟩ := h2
  refine ⟨pa s t, hs.add ht, ?_⟩
  have : pm (pa s t) h = pa (pm s h) (pm t h) := funext fun k => pm_add_l h k s t
  rw [this]; exact e.add e'
theorem dmP.mul {p : Int} {h f : PP} (h1 : dmP p h f) {g : PP} (hg : Pf g) : dmP p h (pm g f) := by
  obtain ⟨s, hs, e⟩ := h1
  exact ⟨pm g s, hg.mul hs, by rw [show pm (pm g s) h = pm g (pm s h) from funext fun k => pm_assoc s h k g]; exact e.mul_r g⟩
theorem dmP.trans {p : Int} {h f g : PP} (h1 : dmP p h f) (h2 : dmP p f g) : dmP p h g := by
  obtain ⟨s, hs, e⟩ := h2
  exact (h1.mul hs).of_cg e
theorem dmP.c {p : Int} {h f : PP} (h1 : dmP p h f) (c : Int) : dmP p h (pc c f) := by
  have := h1.mul (Pf.k c)
  rw [show pm (pk0 c) f = pc c f from funext fun k => pm_c0 c f k] at this
  exact this
theorem dmP.of_c {p : Nat} (hp : Pr (p : Int)) {h f : PP} {c : Int} (hc : ¬ (p : Int) ∣ c) (h1 : dmP p h (pc c f)) : dmP p h f := by
  obtain ⟨c', e⟩ := inv_ex hp hc
  refine (h1.c c').of_cg (fun k => ?_)
  simp only [pc]
  obtain ⟨u, hu⟩ := e
  exact ⟨-u * f k, by rw [show f k - c' * (c * f k) = -(c * c' - 1) * f k by grind, hu]; grind⟩
theorem al_cg {p : Int} {f : PP} (h : al p f) : cg p f p0 := fun k => by show p ∣ f k - 0; rw [Int.sub_zero]; exact h k
theorem dmP.zero {p : Int} {h f : PP} (hf : al p f) : dmP p h f := ⟨p0, Pf.z, by rw [pm_0l]; exact al_cg hf⟩
/-- degrees -/
theorem dmP.le {p : Int} (hp : Pr p) {h f : PP} {m n : Nat} (hd : dmP p h f) (hh : md p h m) (hf : md p f n) : m ≤ n := by
  obtain ⟨s, ⟨k, hs⟩, e⟩ := hd
  have hs0 : ¬ al p s := fun z => hf.1 (by
    have h1 : cg p f p0 := e.trans (by have := (al_cg z).mul_l h; rw [pm_0l] at this; exact this)
    have h2 := h1 n
    have h3 : p ∣ f n - 0 := h2
    rw [Int.sub_zero] at h3; exact h3)
  obtain ⟨d, -, hd⟩ := md_ex k hs hs0
  have := (hd.mul hp hh).of_cg e.symm
  have := this.uniq hf
  omega
theorem md.nal {p : Int} {f : PP} {d : Nat} (h : md p f d) : ¬ al p f := fun z => h.1 (z d)
theorem md0 {p : Int} {f : PP} (h : md p f 0) : cg p f (pk0 (f 0)) := fun k => by
  cases k with
  | zero => rw [show pk0 (f 0) 0 = f 0 from rfl, Int.sub_self]; exact Int.dvd_zero p
  | succ k => show p ∣ f (k + 1) - 0; rw [Int.sub_zero]; exact h.2 (k + 1) (by omega)
/-- DIVISION -/
theorem pdm {p : Nat} (hp : Pr (p : Int)) {g : PP} {d : Nat} (hg : md p g d) : ∀ (n : Nat) (f : PP), dl f n → ∃ q r, Pf q ∧ dl r d ∧ cg p f (pa (pm q g) r)
  | 0, f, hf => ⟨p0, f, Pf.z, fun k _ => hf k (Nat.zero_le k), by rw [pm_0l, pa_comm, pa_0]; exact cg.refl _ f⟩
  | n + 1, f, hf => by
    by_cases w : n < d
    · exact ⟨p0, f, Pf.z, fun k hk => hf k (by omega), by rw [pm_0l, pa_comm, pa_0]; exact cg.refl _ f⟩
    obtain ⟨c', hc'⟩ := inv_ex hp hg.1
    obtain ⟨c, hc⟩ : ∃ c, c = f n * c' := ⟨_, rfl⟩
    obtain ⟨f1, hf1⟩ : ∃ f1 : PP, f1 = pa f (pm (mono (n - d) (-c)) (ct g (d + 1))) := ⟨_, rfl⟩
    have hf1k : ∀ k, f1 k = f k + (if n - d ≤ k then -c * ct g (d + 1) (k - (n - d)) else 0) := fun k => by rw [hf1]; show f k + pm _ _ k = _; rw [pm_mono]
    have hc1 : cg p f1 (ct f1 n) := fun k => by
      by_cases q : k < n
      · rw [ct_lt q, Int.sub_self]; exact Int.dvd_zero _
      · rw [ct_dl f1 n k (by omega), Int.sub_zero, hf1k, if_pos (by omega)]
        by_cases q2 : k = n
        · subst q2
          rw [show k - (k - d) = d by omega, ct_lt (by omega), hc]
          obtain ⟨u, hu⟩ := hc'
          exact ⟨-u * f k, by rw [show f k + -(f k * c') * g d = -(g d * c' - 1) * f k by grind, hu]; grind⟩
        · rw [hf k (by omega), ct_dl g (d + 1) _ (by omega)]
          exact ⟨0, by simp⟩
    obtain ⟨q, r, hq, hr, e⟩ := pdm hp hg n (ct f1 n) (ct_dl f1 n)
    have hmono : ∀ i (c : Int), Pf (mono i c) := fun i c => ⟨i + 1, fun k hk => by show (if k = i then c else 0) = 0; rw [if_neg (by omega)]⟩
    refine ⟨pa q (mono (n - d) c), r, hq.add (hmono _ _), hr, ?_⟩
    have e1 : f = pa f1 (pm (mono (n - d) c) (ct g (d + 1))) := funext fun k => by
      show f k = f1 k + pm _ _ k
      rw [hf1k, pm_mono]
      split <;> grind
    have e2 : cg p f (pa (pa (pm q g) r) (pm (mono (n - d) c) g)) := by
      have h1 : cg p (pa f1 (pm (mono (n - d) c) (ct g (d + 1)))) (pa (pa (pm q g) r) (pm (mono (n - d) c) g)) := (hc1.trans e).add ((hg.cut (by omega)).symm.mul_r _)
      rw [← e1] at h1
      exact h1
    have e3 : pa (pa (pm q g) r) (pm (mono (n - d) c) g) = pa (pm (pa q (mono (n - d) c)) g) r := funext fun k => by
      show pm q g k + r k + pm (mono (n - d) c) g k = pm (pa q (mono (n - d) c)) g k + r k
      rw [pm_add_l]; omega
    rw [e3] at e2
    exact e2
/-- a greatest common divisor -/
theorem gm_ex {p : Nat} (hp : Pr (p : Int)) : ∀ (n : Nat) (x y : PP), Pf x → dl y n → ∃ G, Pf G ∧ GcdM p G x y
  | 0, x, y, hx, hy => ⟨x, hx, In.x _ x y, ⟨pk0 1, Pf.k 1, by rw [pm_1l]; exact cg.refl _ x⟩, p0, Pf.z, by rw [pm_0l, show y = p0 from funext fun k => hy k (Nat.zero_le k)]; exact cg.refl _ _⟩
  | n + 1, x, y, hx, hy => by
    by_cases w : al p y
    · exact ⟨x, hx, In.x _ x y, ⟨pk0 1, Pf.k 1, by rw [pm_1l]; exact cg.refl _ x⟩, p0, Pf.z, by rw [pm_0l]; exact al_cg w⟩
    · obtain ⟨e, he, hey⟩ := md_ex (n + 1) hy w
      obtain ⟨m, hm⟩ := hx
      obtain ⟨q, r, hq, hr, hc⟩ := pdm hp hey m x hm
      obtain ⟨G, hG, g1, ⟨s, hs, g2⟩, t, ht, g3⟩ := gm_ex hp n y r ⟨n + 1, hy⟩ (dl_mono hr (by omega))
      refine ⟨G, hG, g1.trans (In.y _ x y) ⟨pk0 1, pc (-1) q, Pf.k 1, hq.c _, ?_⟩, ⟨pa (pm q s) t, (hq.mul hs).add ht, ?_⟩, s, hs, g2⟩
      · rw [pm_1l]
        intro k
        have h1 := hc k
        show (p : Int) ∣ r k - (x k + pm (pc (-1) q) y k)
        rw [pm_c_l]
        have h2 : (p : Int) ∣ x k - (pm q y k + r k) := h1
        obtain ⟨u, hu⟩ := h2
        exact ⟨-u, by rw [show r k - (x k + -1 * pm q y k) = -(x k - (pm q y k + r k)) by omega, hu]; grind⟩
      · have e1 : pm (pa (pm q s) t) G = pa (pm q (pm s G)) (pm t G) := funext fun k => by rw [pm_add_l, pm_assoc]; rfl
        rw [e1]
        exact hc.trans ((g2.mul_r q).add g3)
/-- IRREDUCIBLE modulo p -/
def IrM (p : Int) (h : PP) (D : Nat) : Prop := Pf h ∧ md p h D ∧ 0 < D ∧ ∀ x e, Pf x → md p x e → dmP p x h → e = 0 ∨ e = D
/-- EUCLID -/
theorem irm_dv {p : Nat} (hp : Pr (p : Int)) {h f g : PP} {D : Nat} (hh : IrM p h D) (hf : Pf f) (hg : Pf g) (hd : dmP p h (pm f g)) : dmP p h f ∨ dmP p h g := by
  obtain ⟨hhp, hmd, hD, hir⟩ := hh
  obtain ⟨n, hn⟩ := hf
  obtain ⟨G, hGp, ⟨u, v, hu, hv, hin⟩, ⟨s, hs, es⟩, t, ht, et⟩ := gm_ex hp n h f hhp hn
  have hG0 : ¬ al p G := fun z => hmd.nal (fun k => by
    have h1 : cg p h p0 := es.trans (by have := (al_cg z).mul_r s; rw [show pm s p0 = p0 from funext fun k => by rw [pm_comm, pm_0l]] at this; exact this)
    have h2 : (p : Int) ∣ h k - 0 := h1 k
    rw [Int.sub_zero] at h2; exact h2)
  obtain ⟨m, hGm⟩ := hGp
  obtain ⟨e, -, hGe⟩ := md_ex m hGm hG0
  rcases hir G e ⟨m, hGm⟩ hGe ⟨s, hs, es⟩ with w | w
  · right
    subst w
    -- G is a constant
    refine dmP.of_c hp hGe.1 ?_
    have h1 : cg p (pc (G 0) g) (pm G g) := by
      have := ((md0 hGe).mul_l g).symm
      rw [show pm (pk0 (G 0)) g = pc (G 0) g from funext fun k => pm_c0 _ g k] at this
      exact this
    have h2 : cg p (pm G g) (pa (pm (pm u g) h) (pm v (pm f g))) := by
      have := hin.mul_l g
      have e3 : pm (pa (pm u h) (pm v f)) g = pa (pm (pm u g) h) (pm v (pm f g)) := funext fun k => by
        rw [pm_add_l, pm_assoc, pm_assoc]
        show _ = pm (pm u g) h k + pm v (pm f g) k
        rw [pm_assoc, show pm h g = pm g h from funext fun j => pm_comm j h g]
      rw [e3] at this; exact this
    exact (((dmP.refl _ h).mul (hu.mul hg)).add (hd.mul hv)).of_cg (h1.trans h2)
  · left
    subst w
    -- h is a unit times G
    have hs0 : ¬ al p s := fun z => hmd.nal (fun k => by
      have h1 : cg p h p0 := es.trans (by have := (al_cg z).mul_l G; rw [pm_0l] at this; exact this)
      have h2 : (p : Int) ∣ h k - 0 := h1 k
      rw [Int.sub_zero] at h2; exact h2)
    obtain ⟨m', hm'⟩ := hs
    obtain ⟨d, -, hd'⟩ := md_ex m' hm' hs0
    have hd0 : d = 0 := by
      have := ((hd'.mul hp hGe).of_cg es.symm).uniq hmd
      omega
    subst hd0
    have h1 : cg p (pc (s 0) G) h := by
      have := ((md0 hd').mul_l G).symm
      rw [show pm (pk0 (s 0)) G = pc (s 0) G from funext fun k => pm_c0 _ G k] at this
      exact this.trans es.symm
    have h2 : dmP p h G := dmP.of_c hp hd'.1 ((dmP.refl _ h).of_cg h1)
    exact (h2.mul ht).of_cg et
theorem irm_ex {p : Nat} (hp : Pr (p : Int)) {f : PP} {n : Nat} (hf : Pf f) (hn : md p f n) (h0 : 0 < n) : ∃ h D, IrM p h D ∧ dmP p h f := by
  obtain ⟨D, ⟨h, hD, hhp, hmd, hd⟩, hmin⟩ := least (P := fun D => ∃ h, 0 < D ∧ Pf h ∧ md p h D ∧ dmP p h f) n ⟨f, h0, hf, hn, dmP.refl _ f⟩
  refine ⟨h, D, ⟨hhp, hmd, hD, fun x e hx he hxd => ?_⟩, hd⟩
  by_cases w : e = 0
  · exact Or.inl w
  · have h1 := hxd.le hp he hmd
    by_cases w2 : e = D
    · exact Or.inr w2
    · exact absurd ⟨x, by omega, hx, he, hxd.trans hd⟩ (hmin e (by omega))
/-- THE RING of those that end -/
def PF : Type := {f : PP // Pf f}
def pfR : Lean.Grind.CommRing PF where
  add a b := ⟨pa a.1 b.1, a.2.add b.2⟩
  mul a b := ⟨pm a.1 b.1, a.2.mul b.2⟩
  natCast := ⟨fun n => ⟨pk0 n, Pf.k n⟩⟩
  ofNat n := ⟨⟨pk0 n, Pf.k n⟩⟩
  nsmul := ⟨fun n a => ⟨pm (pk0 n) a.1, (Pf.k n).mul a.2⟩⟩
  npow := ⟨fun a n => ⟨pw a.1 n, pw_pf a.2 n⟩⟩
  add_zero a := Subtype.ext (funext fun k => by show a.1 k + pk0 ((0 : Nat) : Int) k = a.1 k; cases k <;> simp [pk0])
  add_comm a b := Subtype.ext (pa_comm a.1 b.1)
  add_assoc a b c := Subtype.ext (funext fun k => Int.add_assoc _ _ _)
  mul_assoc a b c := Subtype.ext (pma a.1 b.1 c.1)
  mul_one a := Subtype.ext (pm_1r a.1)
  one_mul a := Subtype.ext (pm_1l a.1)
  left_distrib a b c := Subtype.ext (funext fun k => pm_add_r a.1 b.1 c.1 k a.1)
  right_distrib a b c := Subtype.ext (funext fun k => pm_add_l c.1 k a.1 b.1)
  zero_mul a := Subtype.ext (show pm (pk0 0) a.1 = pk0 0 by rw [pk_0, pm_0l])
  mul_zero a := Subtype.ext (show pm a.1 (pk0 0) = pk0 0 by rw [pk_0, pmc, pm_0l])
  mul_comm a b := Subtype.ext (pmc a.1 b.1)
  pow_zero a := rfl
  pow_succ a n := Subtype.ext (show pm a.1 (pw a.1 n) = pm (pw a.1 n) a.1 from pmc _ _)
  ofNat_succ n := Subtype.ext (funext fun k => by show pk0 ((n + 1 : Nat) : Int) k = pk0 (n : Int) k + pk0 ((1 : Nat) : Int) k; cases k <;> simp [pk0])
  ofNat_eq_natCast n := rfl
  nsmul_eq_natCast_mul n a := rfl
  neg a := ⟨pc (-1) a.1, a.2.c _⟩
  sub a b := ⟨pa a.1 (pc (-1) b.1), a.2.add (b.2.c _)⟩
  intCast := ⟨fun i => ⟨pk0 i, Pf.k i⟩⟩
  zsmul := ⟨fun i a => ⟨pm (pk0 i) a.1, (Pf.k i).mul a.2⟩⟩
  neg_add_cancel a := Subtype.ext (funext fun k => by show -1 * a.1 k + a.1 k = pk0 ((0 : Nat) : Int) k; cases k <;> simp [pk0] <;> omega)
  sub_eq_add_neg a b := rfl
  neg_zsmul i a := Subtype.ext (funext fun k => by show pm (pk0 (-i)) a.1 k = -1 * pm (pk0 i) a.1 k; rw [pm_c0, pm_c0]; grind)
  zsmul_natCast_eq_nsmul n a := rfl
  intCast_ofNat n := rfl
  intCast_neg i := Subtype.ext (funext fun k => by show pk0 (-i) k = -1 * pk0 i k; cases k <;> simp [pk0])
/-- what h divides modulo p -/
def ZP (p : Int) (h : PP) : PF → Prop := fun f => dmP p h f.1
theorem idl_p {p : Int} {h : PP} : Idl pfR (ZP p h) := ⟨dmP.zero (fun k => by show p ∣ pk0 ((0 : Nat) : Int) k; cases k <;> exact Int.dvd_zero p), fun _ _ h1 h2 => dmP.add h1 h2, fun _ b h1 => dmP.mul h1 b.2⟩
theorem prm_p {p : Nat} (hp : Pr (p : Int)) {h : PP} {D : Nat} (hh : IrM p h D) : Prm pfR (ZP p h) := ⟨idl_p, fun a b h1 => irm_dv hp hh a.2 b.2 h1, fun h1 => by
  have h2 : dmP p h (pk0 1) := h1
  have : md p (pk0 1) 0 := ⟨fun w => by have := Int.le_of_dvd (by decide) (show (p : Int) ∣ 1 from w); have := hp.1; omega, fun k hk => by cases k with
    | zero => omega
    | succ k => exact Int.dvd_zero _⟩
  have := h2.le hp hh.2.1 this
  have := hh.2.2.1
  omega⟩
theorem nm_pf (n : Nat) : (nmG pfR n).1 = pk0 (n : Int) := by
  induction n with
  | zero => rfl
  | succ n ih =>
    show pa (nmG pfR n).1 (pk0 ((1 : Nat) : Int)) = _
    rw [ih]
    funext k
    show pk0 (n : Int) k + pk0 ((1 : Nat) : Int) k = pk0 ((n + 1 : Nat) : Int) k
    cases k <;> simp [pk0]
theorem zp_p {p : Nat} {h : PP} : ZP p h (nmG pfR p) := dmP.zero (fun k => by
  rw [nm_pf]
  cases k with
  | zero => exact Int.dvd_refl _
  | succ k => exact Int.dvd_zero _)
end
