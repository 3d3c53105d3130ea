/-! FEW POINTS where a polynomial that is no square has the power (p - 1) / 2 equal to 1 -/
section
theorem cO_sub {R : Type} {g : Lean.Grind.CommRing R} {Z : R → Prop} {d : R → R} (hd : Dr g Z d) (G x : R) (M c J : Nat) (a b a' b' : Nat → R) (k : Nat) : cO g d G x M c J (fun j => a j - a' j) (fun j => b j - b' j) k = cO g d G x M c J a b k - cO g d G x M c J a' b' k := by
  unfold cO
  rw [← sm_sub]
  congr 1
  funext j
  rw [tO_sub hd, tO_sub hd]
  grind
/-- the unknowns -/
def vA (D : Nat) (u : PP) (j : Nat) : PF := ⟨fun k => if k < D then u (2 * D * j + k) else 0, D, fun k hk => if_neg (by omega)⟩
def vB (D : Nat) (u : PP) (j : Nat) : PF := ⟨fun k => if k < D then u (2 * D * j + D + k) else 0, D, fun k hk => if_neg (by omega)⟩
theorem vA_sub (D : Nat) (u v : PP) (j : Nat) : vA D (fun k => u k - v k) j = (letI := pfR; vA D u j - vA D v j) := Subtype.ext (funext fun k => by
  show (if k < D then u (2 * D * j + k) - v (2 * D * j + k) else 0) = (if k < D then u (2 * D * j + k) else 0) + -1 * (if k < D then v (2 * D * j + k) else 0)
  by_cases h : k < D
  · rw [if_pos h, if_pos h, if_pos h]; omega
  · rw [if_neg h, if_neg h, if_neg h]; rfl)
theorem vB_sub (D : Nat) (u v : PP) (j : Nat) : vB D (fun k => u k - v k) j = (letI := pfR; vB D u j - vB D v j) := Subtype.ext (funext fun k => by
  show (if k < D then u (2 * D * j + D + k) - v (2 * D * j + D + k) else 0) = (if k < D then u (2 * D * j + D + k) else 0) + -1 * (if k < D then v (2 * D * j + D + k) else 0)
  by_cases h : k < D
  · rw [if_pos h, if_pos h, if_pos h]; omega
  · rw [if_neg h, if_neg h, if_neg h]; rfl)
theorem vA_dl (D : Nat) (u : PP) (j : Nat) : dl (vA D u j).1 D := fun k hk => if_neg (by omega)
theorem vB_dl (D : Nat) (u : PP) (j : Nat) : dl (vB D u j).1 D := fun k hk => if_neg (by omega)
theorem drv_dl {f : PP} {n : Nat} (h : dl f n) : dl (drv f) n := fun k hk => by
  show _ * f (k + 1) = 0
  rw [h (k + 1) (by omega), Int.mul_zero]
theorem tO_dl {G : PF} {m D : Nat} (hG : dl G.1 (m + 1)) (hD : 0 < D) {a : PF} (ha : dl a.1 D) (e : Nat) : ∀ k, dl (tO pfR dP G e k a).1 (D + k * m)
  | 0 => by rw [Nat.zero_mul]; exact ha
  | k + 1 => by
    have ih := tO_dl hG hD ha e k
    obtain ⟨z, hz⟩ : ∃ z, D + k * m = z + 1 := ⟨D + k * m - 1, by omega⟩
    have e1 : D + (k + 1) * m = m + z + 1 := by rw [Nat.add_mul, Nat.one_mul]; omega
    rw [e1]
    rw [hz] at ih
    have h1 : dl (pm G.1 (drv (tO pfR dP G e k a).1)) (m + z + 1) := pm_dl m _ _ z hG (drv_dl ih)
    have h2 : dl (pm (nmG pfR (e - k)).1 (drv G.1)) (0 + m + 1) := pm_dl 0 _ _ m (by rw [nm_pf]; exact k_dl _) (drv_dl hG)
    rw [Nat.zero_add] at h2
    have h3 : dl (pm (pm (nmG pfR (e - k)).1 (drv G.1)) (tO pfR dP G e k a).1) (m + z + 1) := pm_dl m _ _ z h2 ih
    intro i hi
    show pm G.1 (drv (tO pfR dP G e k a).1) i + pm (pm (nmG pfR (e - k)).1 (drv G.1)) (tO pfR dP G e k a).1 i = 0
    rw [h1 i hi, h3 i hi]; rfl
theorem sm_dl {f : Nat → PF} {n : Nat} : ∀ J, (∀ j, j < J → dl (f j).1 n) → dl (smG pfR f J).1 n
  | 0, _ => fun k _ => by show pk0 ((0 : Nat) : Int) k = 0; cases k <;> rfl
  | J + 1, h => fun k hk => by
    show (smG pfR f J).1 k + (f J).1 k = 0
    rw [sm_dl J (fun j hj => h j (by omega)) k hk, h J (by omega) k hk]; rfl
theorem pw_dl {f : PP} {m : Nat} (h : dl f (m + 1)) : ∀ n, dl (pw f n) (n * m + 1)
  | 0 => by rw [Nat.zero_mul]; exact k_dl 1
  | n + 1 => by
    have h1 := pm_dl m f (pw f n) (n * m) h (pw_dl h n)
    rw [show (n + 1) * m + 1 = m + n * m + 1 by rw [Nat.add_mul, Nat.one_mul]; omega]
    exact h1
theorem cO_dl {G : PF} {r : Int} {m D M c J k : Nat} (hG : dl G.1 (m + 1)) (hD : 0 < D) {a b : Nat → PF} (ha : ∀ j, dl (a j).1 D) (hb : ∀ j, dl (b j).1 D) (hk : k ≤ M) : dl (cO pfR dP G (wP r) M c J a b k).1 (D + M * m + J) := by
  unfold cO
  refine sm_dl J (fun j hj => ?_)
  have h1 := tO_dl hG hD (ha j) M k
  have h2 := tO_dl hG hD (hb j) (M + c) k
  obtain ⟨z, hz⟩ : ∃ z, D + k * m = z + 1 := ⟨D + k * m - 1, by omega⟩
  rw [hz] at h1 h2
  have h3 : dl (pa (tO pfR dP G M k (a j)).1 (tO pfR dP G (M + c) k (b j)).1) (z + 1) := fun i hi => by
    show _ + _ = _
    rw [h1 i hi, h2 i hi]; rfl
  have h4 : dl (pw (wP r).1 j) (j * 1 + 1) := pw_dl (wP_dl r) j
  have h5 := pm_dl _ _ _ z h4 h3
  have h6 := Nat.mul_le_mul_right m hk
  exact dl_mono h5 (by omega)
theorem hO_dl {G : PF} {r : Int} {m D M c J p : Nat} (hG : dl G.1 (m + 1)) (hD : 0 < D) {a b : Nat → PF} (ha : ∀ j, dl (a j).1 D) (hb : ∀ j, dl (b j).1 D) : dl (hO pfR dP G (XP r p) M c J a b 0).1 (J * p + (M + c) * m + D) := by
  unfold hO
  refine sm_dl J (fun j hj => ?_)
  obtain ⟨z, rfl⟩ : ∃ z, D = z + 1 := ⟨D - 1, by omega⟩
  have h1 : dl (pm (pw G.1 M) (a j).1) (M * m + z + 1) := pm_dl _ _ _ z (pw_dl hG M) (ha j)
  have h2 : dl (pm (pw G.1 (M + c)) (b j).1) ((M + c) * m + z + 1) := pm_dl _ _ _ z (pw_dl hG _) (hb j)
  have hmm : M * m ≤ (M + c) * m := Nat.mul_le_mul_right m (by omega)
  have h3 : dl (pa (pm (pw G.1 M) (a j).1) (pm (pw G.1 (M + c)) (b j).1)) ((M + c) * m + z + 1) := fun i hi => by
    show _ + _ = _
    rw [h1 i (by omega), h2 i hi]; rfl
  have h4 : dl (pw (pw (wP r).1 p) j) (j * p + 1) := pw_dl (by have := pw_dl (wP_dl r) p; rw [Nat.mul_one] at this; exact this) j
  have h5 := pm_dl _ _ _ _ h4 h3
  have h6 : j * p ≤ J * p := Nat.mul_le_mul_right p (by omega)
  exact dl_mono h5 (by omega)
def intR : Lean.Grind.CommRing Int := inferInstance
/-- the value -/
def vI (n : Nat) (f : PP) (t : Int) : Int := evG intR n f t
theorem ev_kP (t : Int) : ∀ (n : Nat) (f : PP), evG pfR n (fun k => kP (f k)) (kP t) = kP (vI n f t)
  | 0, _ => rfl
  | n + 1, f => by
    have ih := ev_kP t n (fun k => f (k + 1))
    have e1 : evG pfR (n + 1) (fun k => kP (f k)) (kP t) = (letI := pfR; kP (f 0) + kP t * evG pfR n (fun k => kP (f (k + 1))) (kP t)) := rfl
    rw [e1, ih]
    have e2 : vI (n + 1) f t = f 0 + t * vI n (fun k => f (k + 1)) t := rfl
    rw [e2]
    refine Subtype.ext (funext fun k => ?_)
    show pk0 (f 0) k + pm (pk0 t) (pk0 (vI n (fun k => f (k + 1)) t)) k = pk0 (f 0 + t * vI n (fun k => f (k + 1)) t) k
    rw [pm_c0]
    cases k with
    | zero => rfl
    | succ k => show (0 : Int) + t * 0 = 0; simp
theorem x_at (p : Nat) (t : Int) : ZP p (wP t).1 (letI := pfR; xP - kP t) := by
  refine (dmP.refl (p : Int) (wP t).1).of_cg (fun k => ?_)
  show (p : Int) ∣ (px (pk0 1) k + -1 * pk0 t k) - (px (pk0 1) k + pk0 (-t) k)
  cases k with
  | zero => 
    have e : px (pk0 1) 0 + -1 * pk0 t 0 - (px (pk0 1) 0 + pk0 (-t) 0) = 0 := by simp only [px, pk0]; omega
    rw [e]; exact Int.dvd_zero _
  | succ k =>
    have e : px (pk0 1) (k + 1) + -1 * pk0 t (k + 1) - (px (pk0 1) (k + 1) + pk0 (-t) (k + 1)) = 0 := by simp only [px, pk0]; omega
    rw [e]; exact Int.dvd_zero _
theorem w_at (p : Nat) (r t : Int) : ZP p (wP t).1 (letI := pfR; wP r - kP (t - r)) := by
  refine (dmP.refl (p : Int) (wP t).1).of_cg (fun k => ?_)
  show (p : Int) ∣ (px (pk0 1) k + pk0 (-r) k + -1 * pk0 (t - r) k) - (px (pk0 1) k + pk0 (-t) k)
  cases k with
  | zero => 
    have e : px (pk0 1) 0 + pk0 (-r) 0 + -1 * pk0 (t - r) 0 - (px (pk0 1) 0 + pk0 (-t) 0) = 0 := by simp only [px, pk0]; omega
    rw [e]; exact Int.dvd_zero _
  | succ k =>
    have e : px (pk0 1) (k + 1) + pk0 (-r) (k + 1) + -1 * pk0 (t - r) (k + 1) - (px (pk0 1) (k + 1) + pk0 (-t) (k + 1)) = 0 := by simp only [px, pk0]; omega
    rw [e]; exact Int.dvd_zero _
theorem X_at {p : Nat} (hp : Pr (p : Int)) (r t : Int) : ZP p (wP t).1 (letI := pfR; XP r p - wP r) := by
  have hi : Idl pfR (ZP p (wP t).1) := idl_p
  have h1 := hi.pow2 (w_at p r t) p
  exact hi.trans (hi.trans h1 (kP_fix hp (t - r))) (hi.sym (w_at p r t))
theorem v_at {p n : Nat} {G : PF} (hG : dl G.1 n) (t : Int) : ZP p (wP t).1 (letI := pfR; G - kP (vI n G.1 t)) := by
  have hi : Idl pfR (ZP p (wP t).1) := idl_p
  have h1 := ev_cg hi (x_at p t) n (fun k => kP (G.1 k))
  rw [ev_xP hG, ev_kP] at h1
  exact h1
theorem zc_zp {p : Int} {h : PP} {f : PF} (hf : Zc p f) : ZP p h f := dmP.zero hf
theorem G_at {p c n : Nat} {t : Int} {G : PF} (hG : dl G.1 n) (hv : (p : Int) ∣ vI n G.1 t ^ c - 1) : ZP p (wP t).1 (letI := pfR; G ^ c - 1) := by
  have hi : Idl pfR (ZP p (wP t).1) := idl_p
  have h1 := v_at (p := p) hG t
  have h2 := hi.pow2 h1 c
  have h3 : Zc p (letI := pfR; kP (vI n G.1 t) ^ c - 1) := fun k => by
    show (p : Int) ∣ pw (pk0 (vI n G.1 t)) c k + -1 * pk0 ((1 : Nat) : Int) k
    rw [kP_pow]
    cases k with
    | zero =>
      show (p : Int) ∣ vI n G.1 t ^ c + -1 * 1
      rw [show vI n G.1 t ^ c + -1 * 1 = vI n G.1 t ^ c - 1 by omega]; exact hv
    | succ k => show (p : Int) ∣ 0 + -1 * 0; exact Int.dvd_zero _
  exact hi.trans h2 (zc_zp h3)
/-- FEW POINTS -/
theorem stepv {p c m D J M N : Nat} (hp : Pr (p : Int)) (hc : 2 * c + 1 = p) {G : PF} {r : Int} (hG : dl G.1 (m + 1)) (h0 : ¬ (p : Int) ∣ vI (m + 1) G.1 r) (hs : nsq p G) (hD0 : 0 < D) (hD : 2 * D + m ≤ p) (hM : M < p) (hl : M * (D + M * m + J) < 2 * D * J) (t : Nat → Int) (ht : ∀ i j, i < j → j < N → ¬ (p : Int) ∣ t i - t j) (hv : ∀ i, i < N → (p : Int) ∣ vI (m + 1) G.1 (t i) ^ c - 1) : N * M < J * p + (M + c) * m + D := by
  have hp1 : 1 < p := by have := hp.1; omega
  obtain ⟨W, hW⟩ : ∃ W, W = D + M * m + J := ⟨_, rfl⟩
  have hW0 : 0 < W := by omega
  obtain ⟨u, hu, ⟨k0, hk0, hk1⟩, hz⟩ := linsys hp1 (M * W) (2 * D * J) (by rw [hW]; exact hl) (fun e u => (cO pfR dP G (wP r) M c J (vA D u) (vB D u) (e / W)).1 (e % W)) (fun e u v => by
    have e1 : vA D (fun k => u k - v k) = (fun j => letI := pfR; vA D u j - vA D v j) := funext fun j => vA_sub D u v j
    have e2 : vB D (fun k => u k - v k) = (fun j => letI := pfR; vB D u j - vB D v j) := funext fun j => vB_sub D u v j
    show (cO pfR dP G (wP r) M c J (vA D (fun k => u k - v k)) (vB D (fun k => u k - v k)) (e / W)).1 (e % W) = _
    rw [e1, e2, cO_sub (dP_dr (p : Int))]
    show _ + -1 * _ = _
    omega)
  have hC : ∀ k, k < M → Zc p (cO pfR dP G (wP r) M c J (vA D u) (vB D u) k) := fun k hk i => by
    by_cases hi : i < W
    · have h1 : (k * W + i) / W = k := by
        rw [Nat.mul_comm, Nat.mul_add_div hW0, Nat.div_eq_of_lt hi, Nat.add_zero]
      have h2 : (k * W + i) % W = i := by
        rw [Nat.mul_comm, Nat.mul_add_mod, Nat.mod_eq_of_lt hi]
      have h3 := hz (k * W + i) (by
        have : (k + 1) * W ≤ M * W := Nat.mul_le_mul_right W hk
        rw [Nat.add_mul] at this
        omega)
      simp only [h1, h2] at h3
      exact h3
    · rw [cO_dl hG hD0 (vA_dl D u) (vB_dl D u) (show k ≤ M by omega) i (by omega)]
      exact Int.dvd_zero _
  have hH : ¬ Zc p (hO pfR dP G (XP r p) M c J (vA D u) (vB D u) 0) := fun hh => by
    have h1 := nv hp hc hG (v_at hG r) h0 hs hD0 hD (vA_dl D u) (vB_dl D u) hh
    have hd0 : 0 < 2 * D := by omega
    have hj : k0 / (2 * D) < J := Nat.div_lt_of_lt_mul hk0
    have hk : 2 * D * (k0 / (2 * D)) + k0 % (2 * D) = k0 := Nat.div_add_mod _ _
    have hr := Nat.mod_lt k0 hd0
    have h2 := h1 _ hj
    apply hk1
    by_cases hq : k0 % (2 * D) < D
    · have h3 : (p : Int) ∣ (if k0 % (2 * D) < D then u (2 * D * (k0 / (2 * D)) + k0 % (2 * D)) else 0) := h2.1 (k0 % (2 * D))
      rw [if_pos hq, hk] at h3
      exact h3
    · have h3 : (p : Int) ∣ (if k0 % (2 * D) - D < D then u (2 * D * (k0 / (2 * D)) + D + (k0 % (2 * D) - D)) else 0) := h2.2 (k0 % (2 * D) - D)
      rw [if_pos (by omega), show 2 * D * (k0 / (2 * D)) + D + (k0 % (2 * D) - D) = 2 * D * (k0 / (2 * D)) + k0 % (2 * D) by omega, hk] at h3
      exact h3
  obtain ⟨n, hn, hmd⟩ := md_ex (p := (p : Int)) (f := (hO pfR dP G (XP r p) M c J (vA D u) (vB D u) 0).1) (J * p + (M + c) * m + D) (hO_dl hG hD0 (vA_dl D u) (vB_dl D u)) hH
  have := ordN hp hmd t ht (N := N) (M := M) (fun i hi => by
    have h1 := jI_chain (zc_prm hp) (dP_dr (p : Int)) (w := wP (t i)) (fun z => (wP_md hp (t i)).nal z) (wP_d (t i)) (M := M) (fun e h1 h2 => nm_inv hp h1 (by omega)) (fun k => hO pfR dP G (XP r p) M c J (vA D u) (vB D u) k) (fun k hk => hO_d (zc_idl (p : Int)) (dP_dr (p : Int)) (XP_d hp r) _ _ hk) (fun k hk => by
      rw [jI_zp]
      exact hO_at idl_p (X_at hp r (t i)) (G_at hG (hv i hi)) _ _ (by omega) (zc_zp (hC k hk))) M (Nat.le_refl _)
    rw [Nat.sub_self] at h1
    exact h1)
  omega
end
