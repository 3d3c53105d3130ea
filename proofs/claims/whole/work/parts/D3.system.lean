/-! THE AUXILIARY SUM is not 0; a system with fewer rows than unknowns -/
section
theorem kP_al {p : Nat} (hp : Pr (p : Int)) (c : Int) : Zc p (letI := pfR; kP c ^ p - kP c) := fun k => by
  show (p : Int) ∣ pw (pk0 c) p k + -1 * pk0 c k
  rw [kP_pow]
  cases k with
  | zero =>
    show (p : Int) ∣ c ^ p + -1 * c
    have := flt hp c
    rw [show c ^ p + -1 * c = c ^ p - c by omega]; exact this
  | succ k => show (p : Int) ∣ 0 + -1 * 0; exact Int.dvd_zero _
theorem nm_al (p : Nat) : Zc p (nmG pfR p) := fun k => by
  rw [nm_pf]
  cases k with
  | zero => exact Int.dvd_refl _
  | succ k => exact Int.dvd_zero _
def XP (r : Int) (p : Nat) : PF := letI := pfR; wP r ^ p
theorem XP_md {p : Int} (hp : Pr p) (r : Int) (n : Nat) : md p (XP r n).1 n := by
  have h1 := pw_md hp (wP_md hp r) n
  rw [Nat.mul_one] at h1
  exact h1
theorem ev_xP {f : PF} {n : Nat} (h : dl f.1 n) : evG pfR n (fun k => kP (f.1 k)) xP = f := Subtype.ext (ev_x n f.1 h)
theorem kP_add (a b : Int) : (letI := pfR; kP a + kP b) = kP (a + b) := Subtype.ext (funext fun k => by
  show pk0 a k + pk0 b k = pk0 (a + b) k
  cases k <;> simp [pk0])
theorem frob_x {p : Nat} (hp : Pr (p : Int)) {G : PF} {r g : Int} (hG : ZP p (wP r).1 (letI := pfR; G - kP g)) : ∃ v, Zc p (letI := pfR; G ^ p - (kP g + XP r p * v)) := by
  have hi := zc_idl (p : Int)
  rw [← jI_zp] at hG
  obtain ⟨Q, hQ⟩ := hG
  refine ⟨(letI := pfR; Q ^ p), ?_⟩
  have h1 : Zc p (letI := pfR; G - (kP g + wP r * Q)) := by
    refine hi.of hQ ?_
    letI := pfR
    have e : (wP r) ^ 1 = wP r := by rw [Lean.Grind.Semiring.pow_succ, Lean.Grind.Semiring.pow_zero]; grind
    rw [e]; grind
  have h2 := hi.pow2 h1 p
  have h3 := frob hi hp (nm_al p) (kP g) (letI := pfR; wP r * Q)
  have h4 := kP_al hp g
  have h5 := hi.trans h2 h3
  rw [mul_powG pfR] at h5
  refine hi.of (hi.2.1 _ _ h5 h4) ?_
  letI := pfR
  unfold XP
  grind
theorem XP_nz {p : Nat} (hp : Pr (p : Int)) (r : Int) (n : Nat) : ¬ Zc p (XP r n) := (XP_md hp r n).nal
theorem XP_d {p : Nat} (hp : Pr (p : Int)) (r : Int) : Zc p (dP (XP r p)) := by
  obtain ⟨n, rfl⟩ : ∃ n, p = n + 1 := ⟨p - 1, by have := hp.1; omega⟩
  have e := (dP_dr ((n + 1 : Nat) : Int)).pow (wP r) n
  have hi := zc_idl ((n + 1 : Nat) : Int)
  unfold XP
  rw [e]
  have h1 := hi.2.2 _ (letI := pfR; wP r ^ n * dP (wP r)) (nm_al (n + 1))
  refine hi.of h1 ?_
  letI := pfR
  grind
/-- G is no square times a number -/
def nsq (p : Int) (G : PF) : Prop := ∀ (a b : PF) (c : Int), ¬ p ∣ c → Zc p (letI := pfR; a * a * G - b * b * kP c) → Zc p a ∧ Zc p b
theorem sq_dl {D m : Nat} {a G : PP} (hD : 0 < D) (ha : dl a D) (hG : dl G (m + 1)) : dl (pm (pm a a) G) (2 * D + m - 1) := by
  obtain ⟨e, rfl⟩ : ∃ e, D = e + 1 := ⟨D - 1, by omega⟩
  have h1 := pm_dl (e + e) (pm a a) G m (pm_dl e a a e ha ha) hG
  exact dl_mono h1 (by omega)
theorem k_dl (c : Int) : dl (pk0 c) 1 := fun k hk => by cases k with
  | zero => omega
  | succ k => rfl
theorem nv1 {p c m D : Nat} (hp : Pr (p : Int)) (hc : 2 * c + 1 = p) {G a b w : PF} {r g : Int} (hG : dl G.1 (m + 1)) (hg : ZP p (wP r).1 (letI := pfR; G - kP g)) (h0 : ¬ (p : Int) ∣ g) (hs : nsq p G) (hD0 : 0 < D) (hD : 2 * D + m ≤ p) (ha : dl a.1 D) (hb : dl b.1 D) (h : Zc p (letI := pfR; a + b * G ^ c - XP r p * w)) : Zc p a ∧ Zc p b := by
  obtain ⟨v, hv⟩ := frob_x hp hg
  obtain ⟨s, hss⟩ := low_sq (zc_idl (p : Int)) hc h hv
  refine hs a b _ h0 (Classical.byContradiction fun hz => ?_)
  have hd : dl (pa (pm (pm a.1 a.1) G.1) (pc (-1) (pm (pm b.1 b.1) (pk0 g)))) p := fun k hk => by
    show pm (pm a.1 a.1) G.1 k + -1 * pm (pm b.1 b.1) (pk0 g) k = 0
    have e1 := sq_dl hD0 ha hG k (by omega)
    have e2 := sq_dl hD0 hb (k_dl g) k (by omega)
    rw [e1, e2]; rfl
  obtain ⟨n, hn, hmd⟩ := md_ex p hd hz
  have hdv : dmP p (XP r p).1 (pa (pm (pm a.1 a.1) G.1) (pc (-1) (pm (pm b.1 b.1) (pk0 g)))) := ⟨s.1, s.2, fun k => by
    have h1 : (p : Int) ∣ (pm (pm a.1 a.1) G.1 k + -1 * pm (pm b.1 b.1) (pk0 g) k) + -1 * pm (XP r p).1 s.1 k := hss k
    rw [pmc (XP r p).1] at h1
    show (p : Int) ∣ (pm (pm a.1 a.1) G.1 k + -1 * pm (pm b.1 b.1) (pk0 g) k) - pm s.1 (XP r p).1 k
    rw [show ∀ x y : Int, x - y = x + -1 * y from fun x y => by omega]; exact h1⟩
  have := hdv.le hp (XP_md hp r p) hmd
  omega
theorem nv {p c m D J M : Nat} (hp : Pr (p : Int)) (hc : 2 * c + 1 = p) {G : PF} {a b : Nat → PF} {r g : Int} (hG : dl G.1 (m + 1)) (hg : ZP p (wP r).1 (letI := pfR; G - kP g)) (h0 : ¬ (p : Int) ∣ g) (hs : nsq p G) (hD0 : 0 < D) (hD : 2 * D + m ≤ p) (ha : ∀ j, dl (a j).1 D) (hb : ∀ j, dl (b j).1 D) (h : Zc p (hO pfR dP G (XP r p) M c J a b 0)) : ∀ j, j < J → Zc p (a j) ∧ Zc p (b j) := by
  have hpr := zc_prm hp
  have hid := hpr.1
  have hGz : ¬ Zc p G := fun hh => h0 (by
    have h1 : ZP p (wP r).1 G := dmP.zero hh
    have h2 : ZP p (wP r).1 (kP g) := idl_p.of (idl_p.sub h1 hg) (by letI := pfR; grind)
    exact wP_c hp h2)
  have h1 : Zc p (smG pfR (fun j => letI := pfR; XP r p ^ j * (a j + b j * G ^ c)) J) := by
    refine hpr.powl hGz M ?_
    rw [← sm_mul pfR]
    unfold hO at h
    have e : (fun j => letI := pfR; XP r p ^ j * (G ^ (M - 0) * tO pfR dP G M 0 (a j) + G ^ (M + c - 0) * tO pfR dP G (M + c) 0 (b j))) = (fun j => letI := pfR; G ^ M * (XP r p ^ j * (a j + b j * G ^ c))) := funext fun j => by
      letI := pfR
      simp only [tO, Nat.sub_zero]
      rw [Lean.Grind.Semiring.pow_add]
      grind
    rw [e] at h
    exact h
  intro j
  induction j using Nat.strongRecOn with
  | _ j ih =>
    intro hj
    obtain ⟨w, hw⟩ := sm_low hpr (XP_nz hp r p) hj (f := fun j => letI := pfR; a j + b j * G ^ c) (fun i hi => by
      have := ih i hi (by omega)
      refine hid.2.1 _ _ this.1 ?_
      refine hid.of (hid.2.2 _ (letI := pfR; G ^ c) this.2) ?_
      letI := pfR
      grind) h1
    exact nv1 hp hc hG hg h0 hs hD0 hD (ha j) (hb j) hw
/-- fewer rows than unknowns -/
theorem linsys {p : Nat} (hp : 1 < p) (E U : Nat) (hE : E < U) (l : Nat → PP → Int) (hl : ∀ e u v, l e (fun k => u k - v k) = l e u - l e v) : ∃ u : PP, dl u U ∧ (∃ k, k < U ∧ ¬ (p : Int) ∣ u k) ∧ ∀ e, e < E → (p : Int) ∣ l e u := by
  have hb : ∀ i k, k < E → (l k (dgP p U i) % p).toNat < p := fun i k _ => by
    have h1 := Int.emod_nonneg (l k (dgP p U i)) (show (p : Int) ≠ 0 by omega)
    have h2 := Int.emod_lt_of_pos (l k (dgP p U i)) (show (0 : Int) < p by omega)
    omega
  obtain ⟨i, j, hij, hj, e⟩ := php (p ^ E) (p ^ U) (fun i => enc p (fun e => (l e (dgP p U i) % p).toNat) E) (fun i _ => enc_lt E (hb i)) (Nat.pow_lt_pow_right hp hE)
  have e' := enc_inj E (hb i) (hb j) e
  refine ⟨fun k => dgP p U i k - dgP p U j k, fun k hk => ?_, ?_, fun e he => ?_⟩
  · show dgP p U i k - dgP p U j k = 0
    rw [dgP_dl p U i k hk, dgP_dl p U j k hk]; rfl
  · apply Classical.byContradiction
    intro hh
    have : i = j := dig_eq hp U i j (by omega) hj (fun k hk => by
      have h1 : (p : Int) ∣ dgP p U i k - dgP p U j k := Classical.byContradiction fun w => hh ⟨k, hk, w⟩
      have b1 := dgP_bd hp U i k
      have b2 := dgP_bd hp U j k
      have h2 : dgP p U i k = dgP p U j k := by
        obtain ⟨c, hc⟩ := h1
        rcases Int.lt_trichotomy c 0 with q | q | q
        · have := Int.mul_le_mul_of_nonneg_left (show c ≤ -1 by omega) (show (0 : Int) ≤ p by omega)
          omega
        · subst q; omega
        · have := Int.mul_le_mul_of_nonneg_left (show 1 ≤ c by omega) (show (0 : Int) ≤ p by omega)
          omega
      unfold dgP at h2
      rw [if_pos hk, if_pos hk] at h2
      omega)
    omega
  · rw [hl]
    have h1 := e' e he
    have n1 := Int.emod_nonneg (l e (dgP p U i)) (show (p : Int) ≠ 0 by omega)
    have n2 := Int.emod_nonneg (l e (dgP p U j)) (show (p : Int) ≠ 0 by omega)
    have h2 : l e (dgP p U i) % p = l e (dgP p U j) % p := by omega
    exact Int.dvd_of_emod_eq_zero (Int.emod_emod_of_dvd _ (Int.dvd_refl _) ▸ (by rw [Int.sub_emod, h2, ← Int.sub_emod, Int.sub_self]; simp))
end
