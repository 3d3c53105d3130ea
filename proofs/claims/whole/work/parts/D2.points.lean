/-! POLYNOMIALS MODULO p: points and orders -/
section
def dP (f : PF) : PF := ⟨drv f.1, drv_pf f.2⟩
def Zc (p : Int) : PF → Prop := fun f => al p f.1
theorem zc_idl (p : Int) : Idl pfR (Zc p) := ⟨fun k => by show p ∣ pk0 ((0 : Nat) : Int) k; cases k <;> exact Int.dvd_zero p, fun a b h1 h2 k => Int.dvd_add (h1 k) (h2 k), fun a b h => fun k => by
  have h1 : cg p (pm b.1 a.1) (pm b.1 p0) := cg.mul_r _ (al_cg h)
  rw [pmc b.1 p0, pm_0l] at h1
  exact h1.alof (fun k => Int.dvd_zero _) k⟩
theorem zc_prm {p : Int} (hp : Pr p) : Prm pfR (Zc p) := ⟨zc_idl p, fun a b h => al_mul hp h, fun h => by
  have h1 : p ∣ 1 := h 0
  have := Int.le_of_dvd (by decide) h1
  have := hp.1
  omega⟩
theorem dP_dr (p : Int) : Dr pfR (Zc p) dP := ⟨fun a b => Subtype.ext (drv_add a.1 b.1), fun a b => Subtype.ext (by
  obtain ⟨n, hn⟩ := a.2
  have h1 := drv_mul b.1 n a.1 hn
  show drv (pm a.1 b.1) = pa (pm a.1 (drv b.1)) (pm b.1 (drv a.1))
  rw [h1, pa_comm, pmc b.1]), fun a h k => Int.dvd_mul_of_dvd_right (h (k + 1))⟩
def wP (t : Int) : PF := ⟨pa (px (pk0 1)) (pk0 (-t)), ((Pf.k 1).x).add (Pf.k _)⟩
theorem wP_0 (t : Int) : (wP t).1 0 = -t := by show 0 + -t = -t; omega
theorem wP_1 (t : Int) : (wP t).1 1 = 1 := rfl
theorem wP_dl (t : Int) : dl (wP t).1 2 := fun k hk => by
  obtain ⟨j, rfl⟩ : ∃ j, k = j + 2 := ⟨k - 2, by omega⟩
  rfl
theorem Pr.n1 {p : Int} (hp : Pr p) : ¬ p ∣ 1 := fun h => by
  have := Int.le_of_dvd (by decide) h
  have := hp.1
  omega
theorem wP_md {p : Int} (hp : Pr p) (t : Int) : md p (wP t).1 1 := ⟨fun h => hp.n1 h, fun k hk => by rw [wP_dl t k (by omega)]; exact Int.dvd_zero _⟩
theorem wP_d (t : Int) : dP (wP t) = (letI := pfR; 1) := Subtype.ext (funext fun k => by
  show ((k : Int) + 1) * (wP t).1 (k + 1) = pk0 ((1 : Nat) : Int) k
  cases k with
  | zero => rw [wP_1]; rfl
  | succ k => rw [wP_dl t (k + 1 + 1) (by omega)]; simp [pk0])
theorem wP_irr {p : Int} (hp : Pr p) (t : Int) : IrM p (wP t).1 1 := ⟨(wP t).2, wP_md hp t, by decide, fun x e hx he hd => by
  have := hd.le hp he (wP_md hp t)
  omega⟩
theorem jI_zp {p : Int} {w f : PF} : jI pfR (Zc p) w 1 f ↔ ZP p w.1 f := by
  constructor
  · intro ⟨q, hq⟩
    refine ⟨q.1, q.2, fun k => ?_⟩
    have h := hq k
    have h1 : p ∣ f.1 k + -1 * pm (pm w.1 (pk0 1)) q.1 k := h
    rw [pm_1r, pmc] at h1
    have e : f.1 k - pm q.1 w.1 k = f.1 k + -1 * pm q.1 w.1 k := by omega
    rw [e]; exact h1
  · intro ⟨s, hs, h⟩
    refine ⟨⟨s, hs⟩, fun k => ?_⟩
    show p ∣ f.1 k + -1 * pm (pm w.1 (pk0 1)) s k
    rw [pm_1r, pmc]
    have e : f.1 k + -1 * pm s w.1 k = f.1 k - pm s w.1 k := by omega
    rw [e]; exact h k
theorem wP_c {p : Int} (hp : Pr p) {t c : Int} (h : dmP p (wP t).1 (pk0 c)) : p ∣ c := by
  apply Classical.byContradiction
  intro hc
  have h1 : md p (pk0 c) 0 := ⟨hc, fun k hk => by cases k with
    | zero => omega
    | succ k => exact Int.dvd_zero _⟩
  have := h.le hp (wP_md hp t) h1
  omega
theorem wP_sub (s t : Int) : (letI := pfR; wP s - wP t) = kP (t - s) := Subtype.ext (funext fun k => by
  show pa (px (pk0 1)) (pk0 (-s)) k + -1 * pa (px (pk0 1)) (pk0 (-t)) k = pk0 (t - s) k
  cases k with
  | zero => simp only [pa, px, pk0]; omega
  | succ k => simp only [pa, px, pk0]; omega)
theorem wP_cop {p : Nat} (hp : Pr (p : Int)) {s t : Int} (h : ¬ (p : Int) ∣ t - s) : ¬ ZP p (wP t).1 (wP s) := fun h1 => by
  have h2 : ZP p (wP t).1 (wP t) := dmP.refl _ _
  have h3 := idl_p.sub h1 h2
  rw [wP_sub] at h3
  exact h (wP_c hp h3)
theorem wP_mul {p : Nat} (hp : Pr (p : Int)) (t : Int) (a b : PF) (h : ZP p (wP t).1 (letI := pfR; a * b)) : ZP p (wP t).1 a ∨ ZP p (wP t).1 b := (prm_p hp (wP_irr hp t)).2.1 a b h
theorem nm_inv {p : Nat} (hp : Pr (p : Int)) {e : Nat} (h0 : 0 < e) (he : e < p) : ∃ e', Zc p (letI := pfR; nmG pfR e * e' - 1) := by
  obtain ⟨c, hc⟩ := inv_ex hp (c := (e : Int)) (fun h => by
    have := Int.le_of_dvd (by omega) h
    omega)
  refine ⟨kP c, fun k => ?_⟩
  show (p : Int) ∣ pm (nmG pfR e).1 (pk0 c) k + -1 * pk0 ((1 : Nat) : Int) k
  rw [nm_pf, pm_c0]
  cases k with
  | zero => 
    show (p : Int) ∣ (e : Int) * c + -1 * 1
    have e1 : (e : Int) * c + -1 * 1 = (e : Int) * c - 1 := by omega
    rw [e1]; exact hc
  | succ k => show (p : Int) ∣ (e : Int) * 0 + -1 * 0; simp
theorem pw_md {p : Int} (hp : Pr p) {f : PP} {d : Nat} (h : md p f d) : ∀ n, md p (pw f n) (n * d)
  | 0 => by
    rw [Nat.zero_mul]
    exact ⟨hp.n1, fun k hk => by cases k with
      | zero => omega
      | succ k => exact Int.dvd_zero _⟩
  | n + 1 => by
    rw [show (n + 1) * d = d + n * d by rw [Nat.add_mul, Nat.one_mul, Nat.add_comm]]
    exact h.mul hp (pw_md hp h n)
theorem pd_md {p : Int} (hp : Pr p) (t : Nat → Int) (M : Nat) : ∀ n, md p (pdG pfR (fun i => letI := pfR; wP (t i) ^ M) n).1 (n * M)
  | 0 => by
    rw [Nat.zero_mul]
    exact ⟨hp.n1, fun k hk => by cases k with
      | zero => omega
      | succ k => exact Int.dvd_zero _⟩
  | n + 1 => by
    rw [show (n + 1) * M = n * M + M by rw [Nat.add_mul, Nat.one_mul]]
    have h1 := pw_md hp (wP_md hp (t n)) M
    rw [Nat.mul_one] at h1
    exact (pd_md hp t M n).mul hp h1
/-- N points of order M take the degree N M -/
theorem ordN {p : Nat} (hp : Pr (p : Int)) {H : PF} {n N M : Nat} (hH : md p H.1 n) (t : Nat → Int) (ht : ∀ i j, i < j → j < N → ¬ (p : Int) ∣ t i - t j) (h : ∀ i, i < N → jI pfR (Zc p) (wP (t i)) M H) : N * M ≤ n := by
  obtain ⟨q, hq⟩ := jI_all (zc_prm hp) (w := fun i => wP (t i)) (N := N) (M := M) (H := H) (fun i _ h1 => (wP_md hp (t i)).nal h1) (fun i _ a b h1 => by
    rw [jI_zp] at h1 ⊢
    rw [jI_zp]
    exact wP_mul hp (t i) a b h1) (fun i j hij hj h1 => by
    rw [jI_zp] at h1
    refine wP_cop hp (fun w => ht i j hij hj ?_) h1
    have := Int.dvd_neg.mpr w
    rwa [Int.neg_sub] at this) (fun i _ h1 => by
    rw [jI_zp] at h1
    exact hp.n1 (wP_c hp h1)) h N (Nat.le_refl _)
  have hd : dmP p (pdG pfR (fun i => letI := pfR; wP (t i) ^ M) N).1 H.1 := ⟨q.1, q.2, fun k => by
    have h1 : (p : Int) ∣ H.1 k + -1 * pm (pdG pfR (fun i => letI := pfR; wP (t i) ^ M) N).1 q.1 k := hq k
    rw [pmc] at h1
    have e : H.1 k - pm q.1 (pdG pfR (fun i => letI := pfR; wP (t i) ^ M) N).1 k = H.1 k + -1 * pm q.1 (pdG pfR (fun i => letI := pfR; wP (t i) ^ M) N).1 k := by omega
    rw [e]; exact h1⟩
  exact hd.le hp (pd_md hp t M N) hH
end
