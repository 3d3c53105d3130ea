/-! FACTORS BY THEIR DEGREES modulo a prime -/
section
/-- derivatives -/
theorem drv_px (u : PP) : drv (px u) = pa u (px (drv u)) := funext fun k => by
  show ((k : Int) + 1) * px u (k + 1) = u k + px (drv u) k
  cases k with
  | zero => show ((0 : Nat) + 1 : Int) * u 0 = u 0 + 0; simp
  | succ k => show ((k + 1 : Nat) + 1 : Int) * u (k + 1) = u (k + 1) + ((k : Int) + 1) * u (k + 1); grind
theorem drv_add (f g : PP) : drv (pa f g) = pa (drv f) (drv g) := funext fun k => by simp only [drv, pa]; grind
theorem drv_c (c : Int) (f : PP) : drv (pc c f) = pc c (drv f) := funext fun k => by simp only [drv, pc]; grind
theorem drv_pf {f : PP} (h : Pf f) : Pf (drv f) := by
  obtain ⟨n, hn⟩ := h
  exact ⟨n, fun k hk => by show ((k : Int) + 1) * f (k + 1) = 0; rw [hn (k + 1) (by omega)]; simp⟩
theorem drv_mul (g : PP) : ∀ (n : Nat) (f : PP), dl f n → drv (pm f g) = pa (pm (drv f) g) (pm f (drv g))
  | 0, f, h => by
    have e : f = p0 := funext fun k => h k (Nat.zero_le k)
    have e2 : drv p0 = p0 := funext fun k => by simp [drv, p0]
    rw [e, pm_0l, e2, pm_0l, pm_0l, pa_0]
  | n + 1, f, h => by
    have ih := drv_mul g n (pt f) (pt_dl h)
    have ef : drv f = pa (pt f) (px (drv (pt f))) := funext fun k => by
      show ((k : Int) + 1) * f (k + 1) = f (k + 1) + px (drv (pt f)) k
      cases k with
      | zero => show ((0 : Nat) + 1 : Int) * f 1 = f 1 + 0; simp
      | succ k => show ((k + 1 : Nat) + 1 : Int) * f (k + 1 + 1) = f (k + 1 + 1) + ((k : Int) + 1) * f (k + 1 + 1); grind
    rw [pm_cons f g, drv_add, drv_c, drv_px, ih, ef]
    funext k
    show f 0 * drv g k + (pm (pt f) g k + px (pa (pm (drv (pt f)) g) (pm (pt f) (drv g))) k) = pm (pa (pt f) (px (drv (pt f)))) g k + pm f (drv g) k
    rw [pm_add_l, pm_x, pm_cons f (drv g)]
    simp only [pa, pc]
    have e5 : px (fun k => pm (drv (pt f)) g k + pm (pt f) (drv g) k) k = px (pm (drv (pt f)) g) k + px (pm (pt f) (drv g)) k := by
      cases k with
      | zero => rfl
      | succ k => rfl
    have e6 : px (pa (pm (drv (pt f)) g) (pm (pt f) (drv g))) k = px (pm (drv (pt f)) g) k + px (pm (pt f) (drv g)) k := by
      cases k with
      | zero => rfl
      | succ k => rfl
    omega
theorem cg.drv' {p : Int} {f g : PP} (h : cg p f g) : cg p (drv f) (drv g) := fun k => by
  show p ∣ ((k : Int) + 1) * f (k + 1) - ((k : Int) + 1) * g (k + 1)
  rw [← Int.mul_sub]
  exact Int.dvd_mul_of_dvd_right (h (k + 1))
theorem GcdM.dvd {p : Int} {G x y h : PP} (hG : GcdM p G x y) (hx : dmP p h x) (hy : dmP p h y) : dmP p h G := by
  obtain ⟨⟨u, v, hu, hv, e⟩, -, -⟩ := hG
  exact ((hx.mul hu).add (hy.mul hv)).of_cg e
theorem GcdM.dx {p : Int} {G x y : PP} (hG : GcdM p G x y) : dmP p G x := hG.2.1
theorem GcdM.dy {p : Int} {G x y : PP} (hG : GcdM p G x y) : dmP p G y := hG.2.2
/-- no square divides -/
def sqf (p : Int) (f : PP) : Prop := ∀ h D, IrM p h D → ¬ dmP p (pm h h) f
theorem sqf_of {p : Nat} (hp : Pr (p : Int)) {f G : PP} (hG : GcdM p G f (drv f)) (h0 : md p G 0) : sqf p f := fun h D hh hd => by
  obtain ⟨s, hs, e⟩ := hd
  have h1 : dmP p h f := ⟨pm s h, hs.mul hh.1, by rw [pma]; exact e⟩
  have h2 : dmP p h (drv f) := by
    obtain ⟨n, hn⟩ := hs
    obtain ⟨m, hm⟩ := hh.1
    have e2 := e.drv'
    rw [drv_mul (pm h h) n s hn, drv_mul h m h hm] at e2
    have a1 : dmP p h (pm (drv s) (pm h h)) := (((dmP.refl _ h).mul hh.1).mul (drv_pf ⟨n, hn⟩))
    have a2 : dmP p h (pm s (pa (pm (drv h) h) (pm h (drv h)))) := by
      refine dmP.mul (dmP.add ((dmP.refl _ h).mul (drv_pf ⟨m, hm⟩)) ?_) ⟨n, hn⟩
      rw [pmc h (drv h)]; exact (dmP.refl _ h).mul (drv_pf ⟨m, hm⟩)
    exact (a1.add a2).of_cg e2
  have := (hG.dvd h1 h2).le hp hh.2.1 h0
  have := hh.2.2.1
  omega
theorem sqf.of_dv {p : Int} {f g : PP} (h : sqf p f) (hd : dmP p g f) : sqf p g := fun h' D hh w => h h' D hh (w.trans hd)
/-- factors have a degree of n at least -/
def minD (p : Int) (n : Nat) (f : PP) : Prop := ∀ h D, IrM p h D → dmP p h f → n ≤ D
theorem minD.of_dv {p : Int} {n : Nat} {f g : PP} (h : minD p n f) (hd : dmP p g f) : minD p n g := fun h' D hh w => h h' D hh (w.trans hd)
theorem minD1 (p : Int) (f : PP) : minD p 1 f := fun _ _ hh _ => hh.2.2.1
/-- x to the p to the n, minus x -/
def xq (p n : Nat) : PP := pa (pw (px (pk0 1)) (p ^ n)) (pc (-1) (px (pk0 1)))
theorem xq_pf (p n : Nat) : Pf (xq p n) := (pw_pf (Pf.x (Pf.k 1)) _).add ((Pf.x (Pf.k 1)).c _)
theorem xq_dv {p : Nat} (hp : Pr (p : Int)) {h : PP} {D : Nat} (hh : IrM p h D) : dmP p h (xq p D) := orbit hp hh
theorem xq_ge {p : Nat} (hp : Pr (p : Int)) {h : PP} {D n : Nat} (hh : IrM p h D) (hn : 0 < n) (hd : dmP p h (xq p n)) : D ≤ n := orbit_ge hp hh hn hd
theorem minD.le {p n E : Nat} (hp : Pr (p : Int)) {f : PP} (h : minD p n f) (hf : Pf f) (hE : md p f E) (h0 : 0 < E) : n ≤ E := by
  obtain ⟨h', D, hh, hd⟩ := irm_ex hp hf hE h0
  have h1 := h h' D hh hd
  have h2 := hd.le hp hh.2.1 hE
  omega
/-- the last factor -/
theorem minD.irr {p n E : Nat} (hp : Pr (p : Int)) {f : PP} (h : minD p n f) (hf : Pf f) (hE : md p f E) (h0 : 0 < E) (h2 : E < 2 * n) : IrM p f E := by
  refine ⟨hf, hE, h0, fun x e hx he hd => ?_⟩
  have hxm : 0 < e → n ≤ e := fun h0 => (h.of_dv hd).le hp hx he h0
  obtain ⟨s, hs, es⟩ := hd
  have hs0 : ¬ al p s := fun z => hE.nal (fun k => by
    have h1 : cg p f p0 := es.trans (by have := (al_cg z).mul_l x; rw [pm_0l] at this; exact this)
    have h2 : (p : Int) ∣ f k - 0 := h1 k
    rw [Int.sub_zero] at h2; exact h2)
  obtain ⟨m, hm⟩ := hs
  obtain ⟨d, -, hsd⟩ := md_ex m hm hs0
  have hsum : d + e = E := ((hsd.mul hp he).of_cg es.symm).uniq hE
  have hsm : 0 < d → n ≤ d := fun h0 => by
    have h1 : dmP p s f := ⟨x, hx, by rw [pmc]; exact es⟩
    exact (h.of_dv h1).le hp ⟨m, hm⟩ hsd h0
  by_cases w : e = 0
  · exact Or.inl w
  · by_cases w2 : d = 0
    · exact Or.inr (by omega)
    · have := hxm (by omega); have := hsm (by omega); omega
/-- up to a number: each divides the other -/
def asc (p : Int) (f g : PP) : Prop := dmP p f g ∧ dmP p g f
theorem asc.refl (p : Int) (f : PP) : asc p f f := ⟨dmP.refl p f, dmP.refl p f⟩
theorem asc.symm {p : Int} {f g : PP} (h : asc p f g) : asc p g f := ⟨h.2, h.1⟩
theorem asc.trans {p : Int} {f g k : PP} (h : asc p f g) (h' : asc p g k) : asc p f k := ⟨h.1.trans h'.1, h'.2.trans h.2⟩
theorem asc.deg {p : Int} (hp : Pr p) {f g : PP} {m n : Nat} (h : asc p f g) (hf : md p f m) (hg : md p g n) : m = n := by
  have := h.1.le hp hf hg
  have := h.2.le hp hg hf
  omega
theorem asc.of_cg {p : Int} {f g : PP} (h : cg p f g) : asc p f g := ⟨(dmP.refl p f).of_cg h.symm, (dmP.refl p g).of_cg h⟩
theorem asc.c {p : Nat} (hp : Pr (p : Int)) {f : PP} {c : Int} (hc : ¬ (p : Int) ∣ c) : asc p f (pc c f) := ⟨(dmP.refl _ f).c c, dmP.of_c hp hc (dmP.refl _ _)⟩
theorem GcdM.asc {p : Int} {G G' x x' y y' : PP} (h : GcdM p G x y) (h' : GcdM p G' x' y') (hx : asc p x x') (hy : asc p y y') : asc p G G' :=
  ⟨h'.dvd (h.dx.trans hx.1) (h.dy.trans hy.1), h.dvd (h'.dx.trans hx.2) (h'.dy.trans hy.2)⟩
theorem md_of {p : Int} {f : PP} (hf : Pf f) (h : ¬ al p f) : ∃ d, md p f d := by
  obtain ⟨n, hn⟩ := hf
  obtain ⟨d, -, hd⟩ := md_ex n hn h
  exact ⟨d, hd⟩
theorem md_mul_r {p : Int} {f g : PP} {n : Nat} (h : md p (pm f g) n) : ¬ al p f ∧ ¬ al p g := by
  constructor
  · intro z
    refine h.nal (fun k => ?_)
    have h1 := (al_cg z).mul_l g
    rw [pm_0l] at h1
    have h2 : p ∣ pm f g k - 0 := h1 k
    rw [Int.sub_zero] at h2; exact h2
  · intro z
    refine h.nal (fun k => ?_)
    have h1 := (al_cg z).mul_r f
    rw [pmc f p0, pm_0l] at h1
    have h2 : p ∣ pm f g k - 0 := h1 k
    rw [Int.sub_zero] at h2; exact h2
/-- what stands on both sides goes -/
theorem cancelM {p : Int} (hp : Pr p) {G a b : PP} {d : Nat} (hG : md p G d) (ha : Pf a) (hb : Pf b) (h : cg p (pm G a) (pm G b)) : cg p a b := by
  have hz : al p (pa a (pc (-1) b)) := Classical.byContradiction fun w => by
    obtain ⟨e, he⟩ := md_of (ha.add (hb.c (-1))) w
    have h1 := hG.mul hp he
    refine h1.nal (fun k => ?_)
    have h2 : p ∣ pm G a k - pm G b k := h k
    rw [pm_add_r G a (pc (-1) b), pm_c_r]
    rw [show pm G a k + -1 * pm G b k = pm G a k - pm G b k by omega]
    exact h2
  exact fun k => by
    have h1 : p ∣ a k + -1 * b k := hz k
    rw [show a k + -1 * b k = a k - b k by omega] at h1
    exact h1
theorem asc.cancel {p : Nat} (hp : Pr (p : Int)) {G G' a b : PP} {d : Nat} (hG : md p G d) (hG' : md p G' d) (ha : Pf a) (hb : Pf b) (hgg : asc p G G') (h : asc p (pm G a) (pm G' b)) : asc p a b := by
  have key : ∀ {G G' a b : PP}, md p G d → md p G' d → Pf a → Pf b → dmP p G G' → dmP p (pm G a) (pm G' b) → dmP p a b := by
    intro G G' a b hG hG' ha hb ⟨s, hs, es⟩ ⟨t, ht, et⟩
    -- G' = s G with s a number
    have hs0 : md p s 0 := by
      have hn : ¬ al p s := fun z => hG'.nal (fun k => by
        have h1 : cg p G' p0 := es.trans (by have := (al_cg z).mul_l G; rw [pm_0l] at this; exact this)
        have h2 : (p : Int) ∣ G' k - 0 := h1 k
        rw [Int.sub_zero] at h2; exact h2)
      obtain ⟨e, he⟩ := md_of hs hn
      have := ((he.mul hp hG).of_cg es.symm).uniq hG'
      have : e = 0 := by omega
      rw [← this]; exact he
    have e1 : cg p (pm G (pm s b)) (pm G (pm t a)) := by
      have h1 : cg p (pm G' b) (pm G (pm s b)) := by
        have := es.mul_l b
        rw [pmc s G, pma] at this; exact this
      have h2 : pm t (pm G a) = pm G (pm t a) := by rw [← pma, pmc t G, pma]
      rw [h2] at et
      exact h1.symm.trans et
    have e2 := cancelM hp hG (hs.mul hb) (ht.mul ha) e1
    refine dmP.of_c hp hs0.1 (dmP.of_cg ⟨t, ht, e2⟩ ?_)
    have := ((md0 hs0).mul_l b).symm
    rw [show pm (pk0 (s 0)) b = pc (s 0) b from funext fun k => pm_c0 _ b k] at this
    exact this
  exact ⟨key hG hG' ha hb hgg.1 h.1, key hG' hG hb ha hgg.2 h.2⟩
/-- one step -/
def DStp (p n : Nat) (R G R' : PP) : Prop := Pf G ∧ Pf R' ∧ GcdM p G (xq p n) R ∧ asc p R (pm G R')
theorem DStp.facs {p n : Nat} (hp : Pr (p : Int)) {R G R' : PP} (hn : 0 < n) (h : DStp p n R G R') (hm : minD p n R) : ∀ h' D, IrM p h' D → dmP p h' G → D = n := fun h' D hh hd => by
  have h1 := xq_ge hp hh hn (hd.trans h.2.2.1.dx)
  have h2 := hm h' D hh (hd.trans h.2.2.1.dy)
  omega
theorem DStp.dv' {p n : Nat} {R G R' : PP} (h : DStp p n R G R') : dmP p R' R := dmP.trans ⟨G, h.1, cg.refl _ _⟩ h.2.2.2.2
theorem DStp.next {p n : Nat} (hp : Pr (p : Int)) {R G R' : PP} (h : DStp p n R G R') (hs : sqf p R) (hm : minD p n R) : sqf p R' ∧ minD p (n + 1) R' := by
  refine ⟨hs.of_dv h.dv', fun h' D hh hd => ?_⟩
  have h1 := hm h' D hh (hd.trans h.dv')
  by_cases w : D = n
  · exfalso
    subst w
    have h2 : dmP p h' G := h.2.2.1.dvd (xq_dv hp hh) (hd.trans h.dv')
    obtain ⟨s, hs1, e1⟩ := h2
    obtain ⟨t, ht, e2⟩ := hd
    refine hs h' D hh (dmP.trans ⟨pm s t, hs1.mul ht, ?_⟩ h.2.2.2.2)
    have e3 : pm (pm s t) (pm h' h') = pm (pm s h') (pm t h') := by
      rw [pma, pma, (pma t h' h').symm.trans ((congrArg (fun u => pm u h') (pmc t h')).trans (pma h' t h'))]
    rw [e3]
    exact (e1.mul_l R').trans (e2.mul_r _)
  · omega
theorem asc.nal {p : Int} {f g : PP} (h : asc p f g) (hf : ¬ al p f) : ¬ al p g := fun z => hf (fun k => by
  obtain ⟨s, hs, es⟩ := h.2
  have h2 : cg p f p0 := es.trans (by have := (al_cg z).mul_r s; rw [pmc s p0, pm_0l] at this; exact this)
  have h3 : p ∣ f k - 0 := h2 k
  rw [Int.sub_zero] at h3; exact h3)
theorem DStp.degs {p n r : Nat} (hp : Pr (p : Int)) {R G R' : PP} (h : DStp p n R G R') (hr : md p R r) : ∃ d d', md p G d ∧ md p R' d' ∧ d + d' = r := by
  obtain ⟨e, he⟩ := md_of (h.1.mul h.2.1) (h.2.2.2.nal hr.nal)
  have hn := md_mul_r he
  obtain ⟨d, hd⟩ := md_of h.1 hn.1
  obtain ⟨d', hd'⟩ := md_of h.2.1 hn.2
  exact ⟨d, d', hd, hd', (hd.mul hp hd').uniq he |>.trans (h.2.2.2.deg hp hr he).symm⟩
/-- one step from both sides has one degree, and leaves the same -/
theorem DStp.uniq {p n : Nat} (hp : Pr (p : Int)) {R G R' S H S' : PP} {r : Nat} (h : DStp p n R G R') (h' : DStp p n S H S') (hr : md p R r) (hRS : asc p R S) : asc p G H ∧ asc p R' S' := by
  have h1 : asc p G H := h.2.2.1.asc h'.2.2.1 (asc.refl _ _) hRS
  obtain ⟨d, d', hd, hd', -⟩ := h.degs hp hr
  have hS : ∃ s, md p S s := by
    have := hRS.nal hr.nal
    obtain ⟨e, he⟩ := md_of (h'.1.mul h'.2.1) (h'.2.2.2.nal this)
    obtain ⟨e', he'⟩ : ∃ e', md p S e' := by
      obtain ⟨s, hs, es⟩ := h'.2.2.2.2
      exact ⟨_, (md_of (hs.mul (h'.1.mul h'.2.1)) (fun z => this (es.alof z))).choose_spec.of_cg es.symm⟩
    exact ⟨e', he'⟩
  obtain ⟨s, hs⟩ := hS
  obtain ⟨e, e', he, he', -⟩ := h'.degs hp hs
  have hde := h1.deg hp hd he
  subst hde
  exact ⟨h1, asc.cancel hp hd he h.2.1 h'.2.1 h1 ((h.2.2.2.symm.trans hRS).trans h'.2.2.2)⟩
/-- the degrees, each as often as it comes -/
def lsg (g : Nat → Nat) : Nat → List Nat
  | 0 => []
  | n + 1 => lsg g n ++ List.replicate (g n / (n + 1)) (n + 1)
def Chn (p : Nat) (F : PP) (n : Nat) (R : PP) (l : List Nat) : Prop := ∃ (Rs Gs : Nat → PP) (g : Nat → Nat), Rs 0 = F ∧ Rs n = R ∧ (∀ i, i < n → DStp p (i + 1) (Rs i) (Gs i) (Rs (i + 1)) ∧ md p (Gs i) (g i)) ∧ l = lsg g n
theorem Chn.start (p : Nat) (F : PP) : Chn p F 0 F [] := ⟨fun _ => F, fun _ => p0, fun _ => 0, rfl, rfl, fun i hi => absurd hi (Nat.not_lt_zero _), rfl⟩
theorem lsg_congr {g g' : Nat → Nat} : ∀ n, (∀ i, i < n → g i = g' i) → lsg g n = lsg g' n
  | 0, _ => rfl
  | n + 1, h => by rw [lsg, lsg, lsg_congr n (fun i hi => h i (by omega)), h n (by omega)]
theorem Chn.step {p n e : Nat} {F R G R' : PP} {l : List Nat} (h : Chn p F n R l) (hs : DStp p (n + 1) R G R') (he : md p G e) : Chn p F (n + 1) R' (l ++ List.replicate (e / (n + 1)) (n + 1)) := by
  obtain ⟨Rs, Gs, g, h0, hn, hi, hl⟩ := h
  refine ⟨upN Rs (n + 1) R', upN Gs n G, upN g n e, by unfold upN; rw [if_neg (by omega)]; exact h0, if_pos rfl, fun i hin => ?_, ?_⟩
  · unfold upN
    by_cases w : i = n
    · subst w
      rw [if_neg (show ¬ i = i + 1 by omega), if_pos rfl, if_pos rfl, if_pos rfl, hn]
      exact ⟨hs, he⟩
    · rw [if_neg (show ¬ i = n + 1 by omega), if_neg w, if_neg (show ¬ i + 1 = n + 1 by omega), if_neg w]
      exact hi i (by omega)
  · have e1 : lsg (upN g n e) n = lsg g n := lsg_congr n (fun i hi => if_neg (by omega))
    rw [lsg, e1, hl]
    show _ = _ ++ List.replicate ((if n = n then e else g n) / (n + 1)) (n + 1)
    rw [if_pos rfl]
theorem chn_md {p n r : Nat} (hp : Pr (p : Int)) {Rs Gs : Nat → PP} (h : ∀ i, i < n → DStp p (i + 1) (Rs i) (Gs i) (Rs (i + 1))) (hr : md p (Rs 0) r) : ∀ i, i ≤ n → ∃ d, md p (Rs i) d := fun i => by
  induction i with
  | zero => exact fun _ => ⟨r, hr⟩
  | succ i ih =>
    intro hi
    obtain ⟨d, hd⟩ := ih (by omega)
    obtain ⟨a, b, -, hb, -⟩ := (h i (by omega)).degs hp hd
    exact ⟨b, hb⟩
/-- ONE LIST ONLY -/
theorem Chn.uniq {p n n' r : Nat} (hp : Pr (p : Int)) {F F' R R' : PP} {l l' : List Nat} (hr : md p F r) (hF : asc p F F') (h : Chn p F n R l) (h' : Chn p F' n' R' l') (h0 : md p R 0) (h0' : md p R' 0) : l = l' := by
  -- the longer one adds nothing
  have key : ∀ {n n' r : Nat} {F F' R R' : PP} {l l' : List Nat}, n ≤ n' → md p F r → asc p F F' → Chn p F n R l → Chn p F' n' R' l' → md p R 0 → l = l' := by
    intro n n' r F F' R R' l l' hnn hr hF ⟨Rs, Gs, g, a0, an, ai, al'⟩ ⟨Ss, Hs, k, b0, bn, bi, bl⟩ h0
    have hmd := chn_md (Rs := Rs) (Gs := Gs) hp (fun i hi => (ai i hi).1) (by rw [a0]; exact hr)
    have hasc : ∀ i, i ≤ n → asc p (Rs i) (Ss i) := fun i => by
      induction i with
      | zero => intro _; rw [a0, b0]; exact hF
      | succ i ih =>
        intro hi
        obtain ⟨d, hd⟩ := hmd i (by omega)
        exact ((ai i (by omega)).1.uniq hp (bi i (by omega)).1 hd (ih (by omega))).2
    have hg : ∀ i, i < n → g i = k i := fun i hi => by
      obtain ⟨d, hd⟩ := hmd i (by omega)
      exact ((ai i hi).1.uniq hp (bi i (by omega)).1 hd (hasc i (by omega))).1.deg hp (ai i hi).2 (bi i (by omega)).2
    -- behind n
    have hz : ∀ i, n ≤ i → i ≤ n' → md p (Ss i) 0 := fun i => by
      induction i with
      | zero =>
        intro h1 _
        have hn0 : n = 0 := by omega
        subst hn0
        have h2 := hasc 0 (by omega)
        rw [an] at h2
        obtain ⟨s, hs, es⟩ := h2.1
        have h3 : ¬ al p (Ss 0) := h2.nal h0.nal
        obtain ⟨e, he⟩ : ∃ e, md p (Ss 0) e := by
          obtain ⟨t, ht, et⟩ := h2.1
          by_cases w : Pf (Ss 0)
          · exact md_of w h3
          · obtain ⟨c, hc⟩ := hr.nal |> fun _ => (⟨0, h0⟩ : ∃ c, md p R c)
            -- a multiple of a number
            have h5 : Pf (pm t (pk0 (R 0))) := ht.mul (Pf.k _)
            have h6 : cg p (Ss 0) (pm t (pk0 (R 0))) := et.trans ((md0 h0).mul_r t)
            exact ⟨_, (md_of h5 (fun z => h3 (h6.alof z))).choose_spec.of_cg h6.symm⟩
        have h7 := h2.deg hp h0 he
        subst h7; exact he
      | succ i ih =>
        intro h1 h2
        by_cases w : n = i + 1
        · have h3 := hasc (i + 1) (by omega)
          rw [← w, an] at h3
          rw [← w]
          have h4 := (bi i (by omega)).1.2.1
          rw [← w] at h4
          obtain ⟨e, he⟩ := md_of h4 (h3.nal h0.nal)
          have := h3.deg hp h0 he
          rw [this]; exact he
        · have h3 := ih (by omega) (by omega)
          obtain ⟨d, d', hd, hd', e⟩ := (bi i (by omega)).1.degs hp h3
          have : d' = 0 := by omega
          rw [← this]; exact hd'
    have hk0 : ∀ i, n ≤ i → i < n' → k i = 0 := fun i h1 h2 => by
      obtain ⟨d, d', hd, hd', e⟩ := (bi i h2).1.degs hp (hz i h1 (by omega))
      have := hd.uniq (bi i h2).2
      omega
    have hl2 : ∀ j, n ≤ j → j ≤ n' → lsg k j = lsg g n := fun j => by
      induction j with
      | zero =>
        intro h1 _
        have : n = 0 := by omega
        rw [this]; rfl
      | succ j ih =>
        intro h1 h2
        by_cases w : n = j + 1
        · rw [← w]; exact (lsg_congr n (fun i hi => hg i hi)).symm
        · rw [lsg, ih (by omega) (by omega), hk0 j (by omega) (by omega), Nat.zero_div]
          exact List.append_nil _
    rw [al', bl, hl2 n' hnn (Nat.le_refl _)]
  rcases Nat.le_total n n' with w | w
  · exact key w hr hF h h' h0
  · have hr' : ∃ r', md p F' r' := by
      obtain ⟨Rs, Gs, g, a0, an, ai, -⟩ := h'
      by_cases z : Pf F'
      · exact md_of z (hF.nal hr.nal)
      · obtain ⟨s, hs, es⟩ := hF.1
        have h5 : cg p F' (pm s (ct F (r + 1))) := es.trans ((hr.cut (by omega)).mul_r s)
        have h6 : Pf (pm s (ct F (r + 1))) := hs.mul ⟨_, ct_dl F (r + 1)⟩
        exact ⟨_, (md_of h6 (fun y => (hF.nal hr.nal) (h5.alof y))).choose_spec.of_cg h5.symm⟩
    obtain ⟨r', hr'⟩ := hr'
    exact (key w hr' hF.symm h' h h0').symm
end
