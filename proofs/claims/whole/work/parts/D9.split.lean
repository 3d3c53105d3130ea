/-! SPLITTING a product of different irreducible polynomials of one degree -/
section
/-- a monic irreducible polynomial of degree d -/
def MI (p d : Nat) (h : PF) : Prop := IrM p h.1 d ∧ dl h.1 (d + 1) ∧ h.1 d = 1
theorem mi_ex {p D : Nat} (hp : Pr (p : Int)) {h : PP} (hh : IrM p h D) : ∃ m : PF, MI p D m ∧ asc p h m.1 := by
  obtain ⟨c, hc⟩ := inv_ex hp hh.2.1.1
  have hcn : ¬ (p : Int) ∣ c := fun w => hp.n1 (by
    have := Int.dvd_sub (Int.dvd_mul_of_dvd_right (b := h D) w) hc
    rwa [show h D * c - (h D * c - 1) = 1 by omega] at this)
  have hd : dl (fun k => if k < D then c * h k else if k = D then 1 else 0) (D + 1) := fun k hk => by
    show (if k < D then c * h k else if k = D then 1 else 0) = 0
    rw [if_neg (by omega), if_neg (by omega)]
  have hcg : cg p (pc c h) (fun k => if k < D then c * h k else if k = D then 1 else 0) := fun k => by
    show (p : Int) ∣ c * h k - (if k < D then c * h k else if k = D then 1 else 0)
    by_cases w : k < D
    · rw [if_pos w, Int.sub_self]; exact Int.dvd_zero _
    · rw [if_neg w]
      by_cases w2 : k = D
      · rw [if_pos w2, w2, Int.mul_comm]; exact hc
      · rw [if_neg w2, Int.sub_zero]
        exact Int.dvd_mul_of_dvd_right (hh.2.1.2 k (by omega))
  have ha : asc p h (fun k => if k < D then c * h k else if k = D then 1 else 0) := (asc.c hp hcn).trans (asc.of_cg hcg)
  have h1 : (fun k => if k < D then c * h k else if k = D then 1 else 0) D = 1 := by
    show (if D < D then c * h D else if D = D then 1 else 0) = 1
    rw [if_neg (by omega), if_pos rfl]
  generalize (fun k => if k < D then c * h k else if k = D then 1 else 0) = m at hd hcg ha h1
  have hpf : Pf m := ⟨D + 1, hd⟩
  exact ⟨⟨m, hpf⟩, ⟨⟨hpf, ⟨by show ¬ (p : Int) ∣ m D; rw [h1]; exact hp.n1, fun k hk => by show (p : Int) ∣ m k; rw [hd k (by omega)]; exact Int.dvd_zero _⟩, hh.2.2.1, fun x e hx he hdv => hh.2.2.2 x e hx he (hdv.trans ha.2)⟩, hd, h1⟩, ha⟩
/-- two monic ones of which one divides the other -/
theorem MI.same {p d : Nat} (hp : Pr (p : Int)) {h k : PF} (hh : MI p d h) (hk : MI p d k) (hd : dmP p h.1 k.1) : cg p h.1 k.1 := mono_dv hp hh.2.1 hk.2.1 hh.2.2 hk.2.2 hd
/-- different irreducible factors, all of degree d -/
def Sd (p d : Nat) (g : PF) : Prop := (∃ n, md p g.1 n) ∧ sqf p g.1 ∧ ∀ h D, IrM p h D → dmP p h g.1 → D = d
theorem Sd.of_dv {p d : Nat} {g k : PF} (h : Sd p d g) (hd : dmP p k.1 g.1) (hk : ∃ n, md p k.1 n) : Sd p d k := ⟨hk, h.2.1.of_dv hd, fun h' D hh hdv => h.2.2 h' D hh (hdv.trans hd)⟩
/-- the norm's power is 1 -/
def onS (p c d : Nat) (s : Int) (h : PF) : Prop := (p : Int) ∣ ((-1) ^ d * vI (d + 1) h.1 (-s)) ^ c - 1
/-- shift s does not part g -/
def npt (p c d : Nat) (s : Int) (g : PF) : Prop := ∀ h k, MI p d h → MI p d k → dmP p h.1 g.1 → dmP p k.1 g.1 → (onS p c d s h ↔ onS p c d s k)
theorem npt.of_dv {p c d : Nat} {s : Int} {g k : PF} (h : npt p c d s g) (hd : dmP p k.1 g.1) : npt p c d s k := fun h1 h2 m1 m2 d1 d2 => h h1 h2 m1 m2 (d1.trans hd) (d2.trans hd)
theorem on_iff {p c d : Nat} (hp : Pr (p : Int)) {g l W h : PF} {s : Int} (hl : ZP p g.1 (letI := pfR; l - pdG pfR (fun k => xP ^ (p ^ k) + kP s) d)) (hW : ZP p g.1 (letI := pfR; l ^ c - 1 - W)) (hh : MI p d h) (hd : dmP p h.1 g.1) : dmP p h.1 W.1 ↔ onS p c d s h := by
  have hi : Idl pfR (ZP p h.1) := idl_p
  have h1 : ZP p h.1 (letI := pfR; l - kP ((-1) ^ d * vI (d + 1) h.1 (-s))) := hi.trans (hd.trans hl) (norm_at hp hh.1 hh.2.1 hh.2.2 s)
  have h2 := hi.pow2 h1 c
  rw [kP_pw] at h2
  have hW' : ZP p h.1 (letI := pfR; l ^ c - 1 - W) := hd.trans hW
  have e1 : (letI := pfR; kP (((-1) ^ d * vI (d + 1) h.1 (-s)) ^ c) - 1) = kP (((-1) ^ d * vI (d + 1) h.1 (-s)) ^ c - 1) := by
    rw [← kP_sub]; rfl
  have h3 : ZP p h.1 (letI := pfR; W - kP (((-1) ^ d * vI (d + 1) h.1 (-s)) ^ c - 1)) := by
    rw [← e1]
    refine hi.of (hi.sub h2 hW') ?_
    letI := pfR
    grind
  constructor
  · intro w
    have h4 : ZP p h.1 (kP (((-1) ^ d * vI (d + 1) h.1 (-s)) ^ c - 1)) := hi.of (hi.sub w h3) (by letI := pfR; grind)
    apply Classical.byContradiction
    intro z
    have h5 : md p (pk0 (((-1) ^ d * vI (d + 1) h.1 (-s)) ^ c - 1)) 0 := ⟨z, fun k hk => by cases k with
      | zero => omega
      | succ k => exact Int.dvd_zero _⟩
    have := dmP.le hp h4 hh.1.2.1 h5
    have := hh.1.2.2.1
    omega
  · intro w
    have h4 : ZP p h.1 (kP (((-1) ^ d * vI (d + 1) h.1 (-s)) ^ c - 1)) := zc_zp (fun k => by cases k with
      | zero => exact w
      | succ k => exact Int.dvd_zero _)
    exact hi.of_sub h3 h4
/-- what the common divisor with W takes out -/
theorem split_in {p c d : Nat} (hp : Pr (p : Int)) {g l W G : PF} {s : Int} (hl : ZP p g.1 (letI := pfR; l - pdG pfR (fun k => xP ^ (p ^ k) + kP s) d)) (hW : ZP p g.1 (letI := pfR; l ^ c - 1 - W)) (hG : GcdM p G.1 W.1 g.1) : npt p c d s G := fun h k m1 m2 d1 d2 => by
  have a := (on_iff hp hl hW m1 (d1.trans hG.dy)).mp (d1.trans hG.dx)
  have b := (on_iff hp hl hW m2 (d2.trans hG.dy)).mp (d2.trans hG.dx)
  exact ⟨fun _ => b, fun _ => a⟩
theorem split_out {p c d : Nat} (hp : Pr (p : Int)) {g l W G Q : PF} {s : Int} (hg : Sd p d g) (hl : ZP p g.1 (letI := pfR; l - pdG pfR (fun k => xP ^ (p ^ k) + kP s) d)) (hW : ZP p g.1 (letI := pfR; l ^ c - 1 - W)) (hG : GcdM p G.1 W.1 g.1) (hQ : cg p g.1 (pm Q.1 G.1)) : npt p c d s Q := fun h k m1 m2 d1 d2 => by
  have hQd : dmP p Q.1 g.1 := ⟨G.1, G.2, by rw [pmc]; exact hQ⟩
  have key : ∀ h, MI p d h → dmP p h.1 Q.1 → ¬ onS p c d s h := fun h m d1 w => by
    have h1 := (on_iff hp hl hW m (d1.trans hQd)).mpr w
    have h2 : dmP p h.1 G.1 := hG.dvd h1 (d1.trans hQd)
    obtain ⟨a, ha, ea⟩ := d1
    obtain ⟨b, hb, eb⟩ := h2
    refine hg.2.1 h.1 d m.1 ⟨pm a b, ha.mul hb, hQ.trans ((cg.mul_l _ ea).trans ((cg.mul_r _ eb).trans ?_))⟩
    have e : pm (pm a h.1) (pm b h.1) = pm (pm a b) (pm h.1 h.1) := by
      have := (letI := pfR; (by grind : (⟨a, ha⟩ * h) * (⟨b, hb⟩ * h) = (⟨a, ha⟩ * ⟨b, hb⟩) * (h * h)))
      exact congrArg Subtype.val this
    rw [e]; exact cg.refl _ _
  exact ⟨fun w => absurd w (key h m1 d1), fun w => absurd w (key k m2 d2)⟩
/-- all or none: nothing is parted -/
theorem split_none {p c d : Nat} (hp : Pr (p : Int)) {g l W G : PF} {s : Int} {n e : Nat} (hl : ZP p g.1 (letI := pfR; l - pdG pfR (fun k => xP ^ (p ^ k) + kP s) d)) (hW : ZP p g.1 (letI := pfR; l ^ c - 1 - W)) (hG : GcdM p G.1 W.1 g.1) (hn : md p g.1 n) (he : md p G.1 e) (h : e = 0 ∨ e = n) : npt p c d s g := by
  rcases h with rfl | rfl
  · intro h k m1 m2 d1 d2
    have key : ∀ h, MI p d h → dmP p h.1 g.1 → ¬ onS p c d s h := fun h m d1 w => by
      have := (hG.dvd ((on_iff hp hl hW m d1).mpr w) d1).le hp m.1.2.1 he
      have := m.1.2.2.1
      omega
    exact ⟨fun w => absurd w (key h m1 d1), fun w => absurd w (key k m2 d2)⟩
  · -- g divides G
    obtain ⟨q, hq, eq⟩ := hG.dy
    obtain ⟨f, hf⟩ := md_of hq (md_mul_r (hn.of_cg eq)).1
    have := (hf.mul hp he).uniq (hn.of_cg eq)
    have hf0 : f = 0 := by omega
    subst hf0
    have h1 : asc p G.1 g.1 := (asc.c hp hf.1).trans (asc.of_cg ((show cg p (pc (q 0) G.1) (pm q G.1) from by
      have := cg.mul_l G.1 (md0 hf)
      have e2 : pm (pk0 (q 0)) G.1 = pc (q 0) G.1 := funext fun k => pm_c0 _ _ k
      rw [e2] at this
      exact this.symm).trans eq.symm))
    exact (split_in hp hl hW hG).of_dv h1.2
theorem chi_on {p c : Nat} {z : Int} (hc : 0 < c) (hp : Pr (p : Int)) : chi p c z = 1 ↔ (p : Int) ∣ z ^ c - 1 := by
  constructor
  · intro h; exact (chi_eq1 h).2
  · intro h
    refine chi_1 (fun w => hp.n1 ?_) h
    obtain ⟨n, rfl⟩ : ∃ n, c = n + 1 := ⟨c - 1, by omega⟩
    have h1 : (p : Int) ∣ z ^ (n + 1) := by rw [Int.pow_succ]; exact Int.dvd_mul_of_dvd_right w
    have := Int.dvd_sub h1 h
    rwa [show z ^ (n + 1) - (z ^ (n + 1) - 1) = 1 by omega] at this
/-- what no shift parts is irreducible -/
theorem no_shift {p c d n : Nat} (hp : Pr (p : Int)) (hc : 2 * c + 1 = p) (h1 : 33554467 ≤ p) (h2 : p ≤ 33555000) (hd : d ≤ 3) {g : PF} (hg : Sd p d g) (hn : md p g.1 n) (h0 : 0 < n) (hs : ∀ s : Nat, s < 1000000 → npt p c d s g) : n = d := by
  obtain ⟨h, D, hh, hdv⟩ := irm_ex hp g.2 hn h0
  have hD := hg.2.2 h D hh hdv
  subst hD
  obtain ⟨m, hm, ham⟩ := mi_ex hp hh
  have hmg : dmP p m.1 g.1 := ham.2.trans hdv
  obtain ⟨q, hq, eq⟩ := hmg
  have hmq := hn.of_cg eq
  obtain ⟨e, he⟩ := md_of hq (md_mul_r hmq).1
  have hsum := (he.mul hp hm.1.2.1).uniq hmq
  rcases Nat.eq_zero_or_pos e with z | z
  · omega
  · exfalso
    obtain ⟨h', D', hh', hdv'⟩ := irm_ex hp hq he z
    have hq' : dmP p q g.1 := ⟨m.1, m.2, by rw [pmc]; exact eq⟩
    have hD' := hg.2.2 h' D' hh' (hdv'.trans hq')
    subst hD'
    obtain ⟨k, hk, hak⟩ := mi_ex hp hh'
    have hkg : dmP p k.1 g.1 := hak.2.trans (hdv'.trans hq')
    have hmg : dmP p m.1 g.1 := ⟨q, hq, eq⟩
    by_cases w : cg p m.1 k.1
    · -- twice
      obtain ⟨a, ha, ea⟩ := hak.2.trans hdv'
      refine hg.2.1 m.1 _ hm.1 ⟨a, ha, eq.trans ((cg.mul_l _ ea).trans ((cg.mul_l _ (cg.mul_r _ w.symm)).trans ?_))⟩
      rw [pma]; exact cg.refl _ _
    · obtain ⟨s, hs1, hs2⟩ := shift_ex hp hc h1 h2 hd hm.1 hk.1 hm.2.1 hk.2.1 hm.2.2 hk.2.2 w
      have hiff := hs s hs1 m k hm hk hmg hkg
      have hc0 : 0 < c := by omega
      unfold onS at hiff
      rw [← chi_on hc0 hp, ← chi_on hc0 hp] at hiff
      have hmul := chi_mul hp hc (by omega)
      have e1 : chi p c (vv D' m.1 k.1 s) = chi p c ((-1) ^ D' * vI (D' + 1) m.1 (-(s : Int))) * chi p c ((-1) ^ D' * vI (D' + 1) k.1 (-(s : Int))) := by
        rw [← hmul]
        congr 1
        unfold vv
        have : ((-1 : Int) ^ D') * (-1) ^ D' = 1 := by rw [← Int.mul_pow, show (-1 : Int) * -1 = 1 from rfl, Int.one_pow]
        generalize (-1 : Int) ^ D' = z at *
        generalize vI (D' + 1) m.1 (-(s : Int)) = u
        generalize vI (D' + 1) k.1 (-(s : Int)) = v
        grind
      rw [e1] at hs2
      rcases chi_cs p c ((-1) ^ D' * vI (D' + 1) m.1 (-(s : Int))) with r | r | r <;> rcases chi_cs p c ((-1) ^ D' * vI (D' + 1) k.1 (-(s : Int))) with t | t | t <;> rw [r, t] at hs2 hiff <;> revert hs2 hiff <;> decide
end
