/-! VALUES; bounds for the divisions by polynomials of degree 2 -/
section
variable {K : Cx} {I : TI} {L : TL} {A : TA}
theorem hor_sf (f : PP) (x : Int) : ∀ (n i : Nat), hor f x i n = sf x n (fun k => f (i + k)) 0
  | 0, i => rfl
  | n + 1, i => by
    rw [hor, sf]
    simp only [pa, px, pc, pk0]
    rw [hor_sf f x n (i + 1)]
    have e : pt (fun k => f (i + k)) = fun k => f (i + 1 + k) := funext fun k => by
      show f (i + (k + 1)) = f (i + 1 + k)
      rw [show i + (k + 1) = i + 1 + k by omega]
    rw [e]
    simp
theorem val8_sf (f : PP) (x : Int) : val8 f x = sf x 8 f 0 := by
  unfold val8
  rw [hor_sf f x 8 0]
  congr 1
  funext k
  rw [Nat.zero_add]
/-- values of divisors divide -/
theorem val8_dvd {t g : PP} (x : Int) (h : dv t g) (ht : Pf t) (ht8 : dl t 8) (hg8 : dl g 8) : val8 t x ∣ val8 g x := by
  obtain ⟨s, hs, es⟩ := h
  by_cases hg0 : g = p0
  · rw [hg0]
    exact ⟨0, by rw [val8_sf, sf_0]; simp [p0]⟩
  have hs0 : s ≠ p0 := fun z => hg0 (by rw [← es, z]; funext k; rw [pm_comm, pm_0l])
  obtain ⟨d, hd⟩ := hs.dg hs0
  rw [val8_sf, val8_sf]
  refine ⟨sf x (d + 1) s 0, ?_⟩
  have h1 := sf_mul x s (d + 1) hd.2 8 t ht8
  rw [es] at h1
  have h2 : sf x (8 + (d + 1)) g = sf x 8 g := sf_le hg8 (by omega)
  rw [h2] at h1
  rw [h1]
  rfl
theorem body_val {f g : PP} (hf : body f) (hgf : Pf g) (h : dv g f) : (val8 g 1).natAbs ≤ 10500 ∧ (val8 g (-1)).natAbs ≤ 10500 := by
  have hb := body_bd hf hgf h
  obtain ⟨s, hs, es⟩ := h
  obtain ⟨d0, hd0, -⟩ := hf.2.2
  have h8 : dl g 8 := dl_mono hb.1 (by omega)
  have v1 := val_le (m := 1) hgf hs hf.1.1 hd0.ne es h8 (sf_p1 hf.1)
  have v2 := val_le (m := -1) hgf hs hf.1.1 hd0.ne es h8 (sf_n1 hf.1)
  rw [val8_sf, val8_sf]
  omega
theorem val_1 (f : PP) : val8 f 1 = f 0 + f 1 + f 2 + f 3 + f 4 + f 5 + f 6 + f 7 := by simp only [val8, hor, Nat.zero_add, Nat.reduceAdd]; omega
theorem val_n1 (f : PP) : val8 f (-1) = f 0 - f 1 + f 2 - f 3 + f 4 - f 5 + f 6 - f 7 := by simp only [val8, hor, Nat.zero_add, Nat.reduceAdd]; omega
theorem val_2 (f : PP) : val8 f 2 = f 0 + 2 * f 1 + 4 * f 2 + 8 * f 3 + 16 * f 4 + 32 * f 5 + 64 * f 6 + 128 * f 7 := by simp only [val8, hor, Nat.zero_add, Nat.reduceAdd]; omega
theorem val_6 {g : PP} (h7 : dl g 7) (hb : ∀ k, (g k).natAbs ≤ 300) : (val8 g 1).natAbs ≤ 2100 ∧ (val8 g (-1)).natAbs ≤ 2100 := by
  have h := h7 7 (by omega)
  have b0 := hb 0; have b1 := hb 1; have b2 := hb 2; have b3 := hb 3; have b4 := hb 4; have b5 := hb 5; have b6 := hb 6
  rw [val_1, val_n1]
  omega
/-- without a factor of degree 1 no value is 0 -/
theorem no_root {g : PP} (hgf : Pf g) (hg8 : dl g 8) (h : ∀ t, dgI t 1 → ¬ dv t g) (x : Int) : val8 g x ≠ 0 := fun z => by
  -- x - root: synthetic division
  have key : ∀ (n : Nat) (f : PP), dl f (n + 1) → ∃ q, dl q n ∧ f = pa (pm (lin 1 (-x)) q) (pk0 (sf x (n + 1) f 0)) := by
    intro n
    induction n with
    | zero =>
      intro f hf
      refine ⟨p0, fun _ _ => rfl, ?_⟩
      have e : sf x 1 f 0 = f 0 := by simp [sf, pa, px, pc, pk0, p0]
      rw [e, show pm (lin 1 (-x)) p0 = p0 from funext fun k => by rw [pm_comm, pm_0l], pa_comm, pa_0]
      exact dl1 hf
    | succ n ih =>
      intro f hf
      obtain ⟨q, hq, e⟩ := ih (pt f) (pt_dl hf)
      -- f = f0 + x f', f' = (X - x) q + c: f = (X - x) (X q + c) + (f0 + x c)
      refine ⟨pa (px q) (pk0 (sf x (n + 1) (pt f) 0)), fun k hk => ?_, ?_⟩
      · show px q k + pk0 _ k = 0
        cases k with
        | zero => omega
        | succ k => show q k + 0 = 0; rw [hq k (by omega)]; rfl
      · have e0 : sf x (n + 1 + 1) f 0 = f 0 + x * sf x (n + 1) (pt f) 0 := by
          rw [sf]; simp only [pa, px, pc, pk0]; omega
        rw [e0]
        generalize sf x (n + 1) (pt f) 0 = c at e ⊢
        have ef : f = pa (pk0 (f 0)) (px (pt f)) := funext fun k => by cases k <;> simp [pa, pk0, px, pt]
        have e1 : px (pt f) = pa (pm (lin 1 (-x)) (px q)) (px (pk0 c)) := by
          rw [e]
          funext k
          show px (pa (pm (lin 1 (-x)) q) (pk0 c)) k = pm (lin 1 (-x)) (px q) k + px (pk0 c) k
          rw [pm_comm k (lin 1 (-x)) (px q), pm_x]
          cases k with
          | zero => rfl
          | succ k => show pm (lin 1 (-x)) q k + pk0 c k = pm q (lin 1 (-x)) k + pk0 c k; rw [pm_comm]
        funext k
        show f k = pm (lin 1 (-x)) (pa (px q) (pk0 c)) k + pk0 (f 0 + x * c) k
        rw [pm_add_r (lin 1 (-x)), pm_k_r]
        have h1 := congrFun ef k
        have h2 := congrFun e1 k
        simp only [pa] at h1 h2
        rw [h1, h2]
        simp only [pc, lin]
        cases k with
        | zero => simp only [pk0, px]; simp; grind
        | succ k =>
          cases k with
          | zero => simp only [pk0, px]; simp
          | succ k => simp only [pk0, px]; simp
  obtain ⟨q, hq, e⟩ := key 7 g hg8
  rw [val8_sf] at z
  rw [z, pk_0, pa_0] at e
  exact h (lin 1 (-x)) (lin_dg (by decide)) ⟨q, ⟨7, hq⟩, e.symm⟩
end
