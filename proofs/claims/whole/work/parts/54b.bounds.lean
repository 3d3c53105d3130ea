/-! THE SAME BOUNDS for a slope -/
section
/-- a slope's polynomial: coefficients up to 1800 -/
def sm7s (a : PP) : Prop := dl a 7 ∧ ∀ k, -1800 ≤ a k ∧ a k ≤ 1800
set_option maxRecDepth 10000 in
set_option maxHeartbeats 4000000 in
theorem sfs_p1 {a : PP} (h : sm7s a) : ∀ j, j < 7 → -63000 ≤ sf 1 7 a j ∧ sf 1 7 a j ≤ 63000 := by
  have b0 := h.2 0; have b1 := h.2 1; have b2 := h.2 2; have b3 := h.2 3; have b4 := h.2 4; have b5 := h.2 5; have b6 := h.2 6
  apply lt7 <;> simp only [sf, pa, px, pc, pk0, pt, p0, Nat.reduceAdd] <;> omega
set_option maxRecDepth 10000 in
set_option maxHeartbeats 4000000 in
theorem sfs_n1 {a : PP} (h : sm7s a) : ∀ j, j < 7 → -63000 ≤ sf (-1) 7 a j ∧ sf (-1) 7 a j ≤ 63000 := by
  have b0 := h.2 0; have b1 := h.2 1; have b2 := h.2 2; have b3 := h.2 3; have b4 := h.2 4; have b5 := h.2 5; have b6 := h.2 6
  apply lt7 <;> simp only [sf, pa, px, pc, pk0, pt, p0, Nat.reduceAdd] <;> omega
set_option maxRecDepth 10000 in
set_option maxHeartbeats 4000000 in
theorem sfs_p2 {a : PP} (h : sm7s a) : ∀ j, j < 7 → -631800 ≤ sf 2 7 a j ∧ sf 2 7 a j ≤ 631800 := by
  have b0 := h.2 0; have b1 := h.2 1; have b2 := h.2 2; have b3 := h.2 3; have b4 := h.2 4; have b5 := h.2 5; have b6 := h.2 6
  apply lt7 <;> simp only [sf, pa, px, pc, pk0, pt, p0, Nat.reduceAdd] <;> omega
set_option maxRecDepth 10000 in
set_option maxHeartbeats 4000000 in
theorem sfs_n2 {a : PP} (h : sm7s a) : ∀ j, j < 7 → -631800 ≤ sf (-2) 7 a j ∧ sf (-2) 7 a j ≤ 631800 := by
  have b0 := h.2 0; have b1 := h.2 1; have b2 := h.2 2; have b3 := h.2 3; have b4 := h.2 4; have b5 := h.2 5; have b6 := h.2 6
  apply lt7 <;> simp only [sf, pa, px, pc, pk0, pt, p0, Nat.reduceAdd] <;> omega
set_option maxRecDepth 10000 in
set_option maxHeartbeats 4000000 in
theorem sfs_z {a : PP} (h : sm7s a) : ∀ j, j < 7 → -1800 ≤ sf 0 7 a j ∧ sf 0 7 a j ≤ 1800 := by
  have b0 := h.2 0; have b1 := h.2 1; have b2 := h.2 2; have b3 := h.2 3; have b4 := h.2 4; have b5 := h.2 5; have b6 := h.2 6
  apply lt7 <;> simp only [sf, pa, px, pc, pk0, pt, p0, Nat.reduceAdd] <;> omega
set_option maxHeartbeats 4000000 in
/-- the coefficients of a divisor of a slope's polynomial -/
theorem div_les {g h a : PP} (hg : Pf g) (hh : Pf h) (hs : sm7s a) (ha0 : a ≠ p0) (e : pm g h = a) : dl g 7 ∧ ∀ k, -200100 ≤ g k ∧ g k ≤ 200100 := by
  have hg0 : g ≠ p0 := fun z => ha0 (by rw [← e, z, pm_0l])
  have hh0 : h ≠ p0 := fun z => ha0 (by rw [← e, z]; funext k; rw [pm_comm, pm_0l])
  obtain ⟨d, hd⟩ := hg.dg hg0
  obtain ⟨n, hn⟩ := hh.dg hh0
  have hdn : dgI a (d + n) := by rw [← e]; exact hd.mul hn
  have hlt := hdn.lt hs.1
  refine ⟨dl_mono hd.2 (by omega), ?_⟩
  by_cases h6 : d = 6
  · have hn0 : n = 0 := by omega
    subst hn0
    intro k
    have e2 : a = pc (h 0) g := by rw [← e, dgI0 hn, pm_k_r]; rfl
    have e3 : a k = h 0 * g k := by rw [e2]; rfl
    have b := hs.2 k
    have h7 : (g k).natAbs ≤ (h 0 * g k).natAbs := by
      rw [Int.natAbs_mul]
      exact Nat.le_mul_of_pos_left _ (Int.natAbs_pos.mpr hn.1)
    rw [← e3] at h7
    omega
  · have hg6 : dl g 6 := dl_mono hd.2 (by omega)
    have v1 := val_le (m := 1) hg hh hs.1 ha0 e hg6 (sfs_p1 hs)
    have v2 := val_le (m := -1) hg hh hs.1 ha0 e hg6 (sfs_n1 hs)
    have v3 := val_le (m := 2) hg hh hs.1 ha0 e hg6 (sfs_p2 hs)
    have v4 := val_le (m := -2) hg hh hs.1 ha0 e hg6 (sfs_n2 hs)
    have v5 := val_le (m := 0) hg hh hs.1 ha0 e hg6 (sfs_z hs)
    simp only [sf, pa, px, pc, pk0, pt, p0, Nat.reduceAdd] at v1 v2 v3 v4 v5
    have h5 : -1800 ≤ g 5 ∧ g 5 ≤ 1800 := by
      by_cases q : g 5 = 0
      · omega
      · have hd5 : d = 5 := by have := hd.2 5; have := hd.lt hg6; rcases Nat.lt_or_ge 5 (d + 1) with r | r <;> omega
        subst hd5
        have e3 : a (5 + n) = g 5 * h n := by rw [← e]; exact pm_top 5 g h n hd.2 hn.2
        have b := hs.2 (5 + n)
        have h7 : (g 5).natAbs ≤ (g 5 * h n).natAbs := by
          rw [Int.natAbs_mul]
          exact Nat.le_mul_of_pos_right _ (Int.natAbs_pos.mpr hn.1)
        rw [← e3] at h7
        omega
    intro k
    by_cases hk : k < 6
    · match k, hk with
      | 0, _ => omega
      | 1, _ => omega
      | 2, _ => omega
      | 3, _ => omega
      | 4, _ => omega
      | 5, _ => omega
    · rw [hg6 k (by omega)]
      omega
theorem sm7.s {a : PP} (h : sm7 a) : sm7s a := ⟨h.1, fun k => by have := h.2 k; omega⟩
end
