/-! THE COEFFICIENTS OF A DIVISOR: x + m in the place of x, and what that says of values -/
section
def sf (m : Int) : Nat → PP → PP
  | 0, _ => p0
  | n + 1, f => pa (pk0 (f 0)) (pa (px (sf m n (pt f))) (pc m (sf m n (pt f))))
theorem px_0 : px p0 = p0 := funext fun k => by cases k <;> rfl
theorem pc_0 (c : Int) : pc c p0 = p0 := funext fun k => by simp [pc, p0]
theorem pa_0 (f : PP) : pa f p0 = f := funext fun k => by simp [pa, p0]
theorem pk_0 : pk0 0 = p0 := funext fun k => by cases k <;> rfl
theorem pt_dl {f : PP} {n : Nat} (h : dl f (n + 1)) : dl (pt f) n := fun k hk => h (k + 1) (by omega)
theorem sf_0 (m : Int) : ∀ n, sf m n p0 = p0
  | 0 => rfl
  | n + 1 => by
    have e : pt p0 = p0 := rfl
    rw [sf, e, sf_0 m n, px_0, pc_0, pa_0, pa_0]
    exact pk_0
theorem sf_st (m : Int) : ∀ (n : Nat) (f : PP) (k : Nat), dl f n → sf m (n + k) f = sf m n f
  | 0, f, k, h => by
    have e : f = p0 := funext fun j => h j (Nat.zero_le j)
    rw [e, sf_0, sf_0]
  | n + 1, f, k, h => by
    rw [show n + 1 + k = (n + k) + 1 by omega, sf, sf, sf_st m n (pt f) k (pt_dl h)]
theorem sf_le {m : Int} {n k : Nat} {f : PP} (h : dl f n) (hk : n ≤ k) : sf m k f = sf m n f := by
  obtain ⟨j, rfl⟩ : ∃ j, k = n + j := ⟨k - n, by omega⟩
  exact sf_st m n f j h
theorem sf_dl (m : Int) : ∀ (n : Nat) (f : PP), dl (sf m n f) n
  | 0, f => fun _ _ => rfl
  | n + 1, f => by
    intro k hk
    cases k with
    | zero => omega
    | succ k =>
      rw [sf]
      simp only [pa, px, pc, pk0]
      rw [sf_dl m n (pt f) k (by omega), sf_dl m n (pt f) (k + 1) (by omega)]
      simp
theorem sf_top (m : Int) : ∀ (n : Nat) (f : PP), sf m (n + 1) f n = f n
  | 0, f => by simp [sf, pa, px, pc, pk0, p0]
  | n + 1, f => by
    rw [sf]
    simp only [pa, px, pc, pk0]
    rw [sf_top m n (pt f), sf_dl m (n + 1) (pt f) (n + 1) (Nat.le_refl _)]
    simp [pt]
theorem sf_add (m : Int) : ∀ (n : Nat) (f g : PP), sf m n (pa f g) = pa (sf m n f) (sf m n g)
  | 0, f, g => (pa_0 _).symm
  | n + 1, f, g => by
    have e : pt (pa f g) = pa (pt f) (pt g) := rfl
    rw [sf, sf, sf, e, sf_add m n]
    funext k
    cases k with
    | zero => simp only [pa, px, pc, pk0]; grind
    | succ k => simp only [pa, px, pc, pk0]; grind
theorem sf_c (m c : Int) : ∀ (n : Nat) (f : PP), sf m n (pc c f) = pc c (sf m n f)
  | 0, f => (pc_0 c).symm
  | n + 1, f => by
    have e : pt (pc c f) = pc c (pt f) := rfl
    rw [sf, sf, e, sf_c m c n]
    funext k
    cases k with
    | zero => simp only [pa, px, pc, pk0]; grind
    | succ k => simp only [pa, px, pc, pk0]; grind
theorem pm_cons (f g : PP) : pm f g = pa (pc (f 0) g) (px (pm (pt f) g)) := funext fun k => by
  cases k with
  | zero => simp [pm, pa, pc, px]
  | succ k => rfl
theorem sf_mul (m : Int) (g : PP) (j : Nat) (hg : dl g j) : ∀ (i : Nat) (f : PP), dl f i → sf m (i + j) (pm f g) = pm (sf m i f) (sf m j g)
  | 0, f, hf => by
    have e : f = p0 := funext fun k => hf k (Nat.zero_le k)
    rw [e, pm_0l, sf_0]
    show p0 = pm p0 _
    rw [pm_0l]
  | i + 1, f, hf => by
    rw [pm_cons f g, sf_add, sf_c, sf_le hg (by omega : j ≤ i + 1 + j), show i + 1 + j = (i + j) + 1 by omega]
    have e2 : sf m (i + j + 1) (px (pm (pt f) g)) = pa (px (pm (sf m i (pt f)) (sf m j g))) (pc m (pm (sf m i (pt f)) (sf m j g))) := by
      rw [sf]
      have e3 : pt (px (pm (pt f) g)) = pm (pt f) g := rfl
      rw [e3, sf_mul m g j hg i (pt f) (pt_dl hf)]
      have e4 : pk0 (px (pm (pt f) g) 0) = p0 := pk_0
      rw [e4]
      funext k
      simp [pa, p0]
    rw [e2]
    funext k
    have e5 : sf m (i + 1) f = pa (pk0 (f 0)) (pa (px (sf m i (pt f))) (pc m (sf m i (pt f)))) := rfl
    rw [e5, pm_add_l, pm_add_l, pm_c0, pm_x, pm_c_l]
    simp only [pa, pc]
/-- the value of a divisor -/
theorem val_le {g h a : PP} {m B : Int} {n : Nat} (hg : Pf g) (hh : Pf h) (ha : dl a 7) (ha0 : a ≠ p0) (e : pm g h = a) (hn : dl g n) (hB : ∀ j, j < 7 → -B ≤ sf m 7 a j ∧ sf m 7 a j ≤ B) : -B ≤ sf m n g 0 ∧ sf m n g 0 ≤ B := by
  have hB0 : 0 ≤ B := by have := hB 0 (by omega); omega
  by_cases h0 : sf m n g 0 = 0
  · rw [h0]; omega
  · have hhn : h ≠ p0 := fun z => ha0 (by rw [← e, z]; funext k; rw [pm_comm, pm_0l])
    obtain ⟨d, hd⟩ := hh.dg hhn
    have h1 : sf m (d + 1) h d ≠ 0 := by rw [sf_top]; exact hd.1
    obtain ⟨j, hj, hj'⟩ := least (P := fun k => sf m (d + 1) h k ≠ 0) d h1
    have h2 : pm (sf m n g) (sf m (d + 1) h) = sf m 7 a := by
      rw [← sf_mul m h (d + 1) hd.2 n g hn, e]
      have hda : dl a (n + (d + 1)) := by
        rw [← e]
        cases n with
        | zero =>
          have : g = p0 := funext fun k => hn k (Nat.zero_le k)
          rw [this, pm_0l]
          exact fun _ _ => rfl
        | succ n => exact dl_mono (pm_dl n g h d hn hd.2) (by omega)
      rcases Nat.le_total 7 (n + (d + 1)) with q | q
      · exact sf_le ha q
      · exact (sf_le hda q).symm
    have h3 := low1 (l := 0) (sf m (d + 1) h) j (fun b hb => by have := Classical.not_not.mp (hj' b hb); rw [this]; exact Int.dvd_refl 0) 0 (sf m n g) (fun a ha => by omega)
    have h4 : pm (sf m n g) (sf m (d + 1) h) (0 + j) = sf m n g 0 * sf m (d + 1) h j := by
      have := Int.zero_dvd.mp h3
      omega
    rw [h2, Nat.zero_add] at h4
    have h5 : j < 7 := by
      rcases Nat.lt_or_ge j 7 with q | q
      · exact q
      · have := sf_dl m 7 a j q
        rw [this] at h4
        exact absurd h4.symm (Int.mul_ne_zero h0 hj)
    have h6 := hB j h5
    rw [h4] at h6
    have h7 : (sf m n g 0).natAbs ≤ (sf m n g 0 * sf m (d + 1) h j).natAbs := by
      rw [Int.natAbs_mul]
      exact Nat.le_mul_of_pos_right _ (Int.natAbs_pos.mpr hj)
    omega
theorem lt7 {P : Nat → Prop} (h0 : P 0) (h1 : P 1) (h2 : P 2) (h3 : P 3) (h4 : P 4) (h5 : P 5) (h6 : P 6) : ∀ j, j < 7 → P j := by
  intro j hj
  match j, hj with
  | 0, _ => exact h0
  | 1, _ => exact h1
  | 2, _ => exact h2
  | 3, _ => exact h3
  | 4, _ => exact h4
  | 5, _ => exact h5
  | 6, _ => exact h6
/-- a slot's polynomial: degree up to 6, coefficients up to 300 -/
def sm7 (a : PP) : Prop := dl a 7 ∧ ∀ k, -300 ≤ a k ∧ a k ≤ 300
set_option maxRecDepth 10000 in
set_option maxHeartbeats 4000000 in
theorem sf_p1 {a : PP} (h : sm7 a) : ∀ j, j < 7 → -10500 ≤ sf 1 7 a j ∧ sf 1 7 a j ≤ 10500 := by
  have b0 := h.2 0; have b1 := h.2 1; have b2 := h.2 2; have b3 := h.2 3; have b4 := h.2 4; have b5 := h.2 5; have b6 := h.2 6
  apply lt7 <;> simp only [sf, pa, px, pc, pk0, pt, p0, Nat.reduceAdd] <;> omega
set_option maxRecDepth 10000 in
set_option maxHeartbeats 4000000 in
theorem sf_n1 {a : PP} (h : sm7 a) : ∀ j, j < 7 → -10500 ≤ sf (-1) 7 a j ∧ sf (-1) 7 a j ≤ 10500 := by
  have b0 := h.2 0; have b1 := h.2 1; have b2 := h.2 2; have b3 := h.2 3; have b4 := h.2 4; have b5 := h.2 5; have b6 := h.2 6
  apply lt7 <;> simp only [sf, pa, px, pc, pk0, pt, p0, Nat.reduceAdd] <;> omega
set_option maxRecDepth 10000 in
set_option maxHeartbeats 4000000 in
theorem sf_p2 {a : PP} (h : sm7 a) : ∀ j, j < 7 → -105300 ≤ sf 2 7 a j ∧ sf 2 7 a j ≤ 105300 := by
  have b0 := h.2 0; have b1 := h.2 1; have b2 := h.2 2; have b3 := h.2 3; have b4 := h.2 4; have b5 := h.2 5; have b6 := h.2 6
  apply lt7 <;> simp only [sf, pa, px, pc, pk0, pt, p0, Nat.reduceAdd] <;> omega
set_option maxRecDepth 10000 in
set_option maxHeartbeats 4000000 in
theorem sf_n2 {a : PP} (h : sm7 a) : ∀ j, j < 7 → -105300 ≤ sf (-2) 7 a j ∧ sf (-2) 7 a j ≤ 105300 := by
  have b0 := h.2 0; have b1 := h.2 1; have b2 := h.2 2; have b3 := h.2 3; have b4 := h.2 4; have b5 := h.2 5; have b6 := h.2 6
  apply lt7 <;> simp only [sf, pa, px, pc, pk0, pt, p0, Nat.reduceAdd] <;> omega
set_option maxRecDepth 10000 in
set_option maxHeartbeats 4000000 in
theorem sf_z {a : PP} (h : sm7 a) : ∀ j, j < 7 → -300 ≤ sf 0 7 a j ∧ sf 0 7 a j ≤ 300 := by
  have b0 := h.2 0; have b1 := h.2 1; have b2 := h.2 2; have b3 := h.2 3; have b4 := h.2 4; have b5 := h.2 5; have b6 := h.2 6
  apply lt7 <;> simp only [sf, pa, px, pc, pk0, pt, p0, Nat.reduceAdd] <;> omega
set_option maxHeartbeats 4000000 in
/-- the coefficients of a divisor of a slot's polynomial -/
theorem div_le {g h a : PP} (hg : Pf g) (hh : Pf h) (hs : sm7 a) (ha0 : a ≠ p0) (e : pm g h = a) : dl g 7 ∧ ∀ k, -33350 ≤ g k ∧ g k ≤ 33350 := by
  have hg0 : g ≠ p0 := fun z => ha0 (by rw [← e, z, pm_0l])
  have hh0 : h ≠ p0 := fun z => ha0 (by rw [← e, z]; funext k; rw [pm_comm, pm_0l])
  obtain ⟨d, hd⟩ := hg.dg hg0
  obtain ⟨n, hn⟩ := hh.dg hh0
  have hdn : dgI a (d + n) := by rw [← e]; exact hd.mul hn
  have hlt := hdn.lt hs.1
  refine ⟨dl_mono hd.2 (by omega), ?_⟩
  by_cases h6 : d = 6
  · have hn0 : n = 0 := by omega
    subst hn0
    intro k
    have e2 : a = pc (h 0) g := by rw [← e, dgI0 hn, pm_k_r]; rfl
    have e3 : a k = h 0 * g k := by rw [e2]; rfl
    have b := hs.2 k
    have h7 : (g k).natAbs ≤ (h 0 * g k).natAbs := by
      rw [Int.natAbs_mul]
      exact Nat.le_mul_of_pos_left _ (Int.natAbs_pos.mpr hn.1)
    rw [← e3] at h7
    omega
  · have hg6 : dl g 6 := dl_mono hd.2 (by omega)
    have v1 := val_le (m := 1) hg hh hs.1 ha0 e hg6 (sf_p1 hs)
    have v2 := val_le (m := -1) hg hh hs.1 ha0 e hg6 (sf_n1 hs)
    have v3 := val_le (m := 2) hg hh hs.1 ha0 e hg6 (sf_p2 hs)
    have v4 := val_le (m := -2) hg hh hs.1 ha0 e hg6 (sf_n2 hs)
    have v5 := val_le (m := 0) hg hh hs.1 ha0 e hg6 (sf_z hs)
    simp only [sf, pa, px, pc, pk0, pt, p0, Nat.reduceAdd] at v1 v2 v3 v4 v5
    have h5 : -300 ≤ g 5 ∧ g 5 ≤ 300 := by
      by_cases q : g 5 = 0
      · omega
      · have hd5 : d = 5 := by have := hd.2 5; have := hd.lt hg6; rcases Nat.lt_or_ge 5 (d + 1) with r | r <;> omega
        subst hd5
        have e3 : a (5 + n) = g 5 * h n := by rw [← e]; exact pm_top 5 g h n hd.2 hn.2
        have b := hs.2 (5 + n)
        have h7 : (g 5).natAbs ≤ (g 5 * h n).natAbs := by
          rw [Int.natAbs_mul]
          exact Nat.le_mul_of_pos_right _ (Int.natAbs_pos.mpr hn.1)
        rw [← e3] at h7
        omega
    intro k
    by_cases hk : k < 6
    · match k, hk with
      | 0, _ => omega
      | 1, _ => omega
      | 2, _ => omega
      | 3, _ => omega
      | 4, _ => omega
      | 5, _ => omega
    · rw [hg6 k (by omega)]
      omega
end
