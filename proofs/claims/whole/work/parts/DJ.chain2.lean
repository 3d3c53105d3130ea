/-! THE CHAIN OF DEGREES, to its end -/
section
theorem lsg_zero {g : Nat → Nat} {k : Nat} : ∀ m, (∀ i, k ≤ i → i < k + m → g i = 0) → lsg g (k + m) = lsg g k
  | 0, _ => rfl
  | m + 1, h => by
    rw [← Nat.add_assoc, lsg, lsg_zero m (fun i h1 h2 => h i h1 (by omega)), h (k + m) (by omega) (by omega), Nat.zero_div, List.replicate_zero, List.append_nil]
theorem chn_one {p : Nat} (hp : Pr (p : Int)) {F R : PP} {l : List Nat} (hR : Pf R) (h0 : md p R 0) : ∀ m n, Chn p F n R l → Chn p F (n + m) R l
  | 0, _, h => h
  | m + 1, n, h => by
    have hst : DStp p (n + 1) R (pk0 1) R := by
      refine dstp_unit hp hR (Pf.k 1) ⟨?_, ⟨xq p (n + 1), xq_pf p _, by rw [pm_1r]; exact cg.refl _ _⟩, ⟨R, hR, by rw [pm_1r]; exact cg.refl _ _⟩⟩ ⟨hp.n1, fun k hk => by cases k with
        | zero => omega
        | succ k => exact Int.dvd_zero _⟩
      obtain ⟨c, hc⟩ := inv_ex hp h0.1
      refine ⟨p0, pk0 c, Pf.z, Pf.k c, ?_⟩
      rw [pm_0l]
      intro k
      show (p : Int) ∣ pk0 1 k - (0 + pm (pk0 c) R k)
      rw [pm_c0]
      cases k with
      | zero =>
        show (p : Int) ∣ 1 - (0 + c * R 0)
        have := Int.dvd_neg.mpr hc
        rwa [show -(R 0 * c - 1) = 1 - (0 + c * R 0) by rw [Int.mul_comm c]; omega] at this
      | succ k =>
        show (p : Int) ∣ 0 - (0 + c * R (k + 1))
        have := Int.dvd_neg.mpr (Int.dvd_mul_of_dvd_right (b := c) (h0.2 (k + 1) (by omega)))
        rwa [show -(c * R (k + 1)) = 0 - (0 + c * R (k + 1)) by omega] at this
    have h1 := h.step hst (e := 0) ⟨hp.n1, fun k hk => by cases k with
      | zero => omega
      | succ k => exact Int.dvd_zero _⟩
    rw [Nat.zero_div, List.replicate_zero, List.append_nil] at h1
    have := chn_one hp hR h0 m (n + 1) h1
    rw [show n + (m + 1) = n + 1 + m by omega]; exact this
def gfin (g : Nat → Nat) (k E : Nat) : Nat → Nat := fun j => if j < k then g j else if j + 1 = E then E else 0
theorem chn_end {p k E : Nat} (hp : Pr (p : Int)) {F R : PP} {g : Nat → Nat} (h : Chn p F k R (lsg g k)) (hR : Pf R) (hm : minD p (k + 1) R) (hE : md p R E) (h2 : E < 2 * (k + 1)) (hk : k ≤ 6) (hE6 : E ≤ 6) : ∃ R', Chn p F 6 R' (lsg (gfin g k E) 6) ∧ md p R' 0 := by
  have e0 : lsg (gfin g k E) k = lsg g k := lsg_congr k (fun i hi => if_pos hi)
  rcases Nat.eq_zero_or_pos E with z | z
  · subst z
    have h1 := chn_one hp hR hE (6 - k) k h
    rw [show k + (6 - k) = 6 by omega] at h1
    refine ⟨R, ?_, hE⟩
    have e1 : lsg (gfin g k 0) 6 = lsg g k := by
      have := lsg_zero (g := gfin g k 0) (k := k) (6 - k) (fun i h3 h4 => by unfold gfin; rw [if_neg (by omega), if_neg (by omega)])
      rw [show k + (6 - k) = 6 by omega] at this
      rw [this, e0]
    rw [e1]; exact h1
  · have hir := hm.irr hp hR hE z h2
    have hle := hm.le hp hR hE z
    have h3 := chn_skip hp hir (E - k - 1) k (by omega) h
    rw [show k + (E - k - 1) = E - 1 by omega] at h3
    have h1' : md p (pk0 1) 0 := ⟨hp.n1, fun k hk => by cases k with
      | zero => omega
      | succ k => exact Int.dvd_zero _⟩
    have hst : DStp p (E - 1 + 1) R R (pk0 1) := by
      rw [show E - 1 + 1 = E by omega]
      refine ⟨hR, Pf.k 1, ⟨In.y p _ _, xq_dv hp hir, ⟨pk0 1, Pf.k 1, by rw [pm_1l]; exact cg.refl _ _⟩⟩, ?_⟩
      rw [pm_1r]; exact asc.refl _ _
    have h4 := h3.step hst hE
    rw [show E - 1 + 1 = E by omega, Nat.div_self z] at h4
    have h5 := chn_one hp (Pf.k 1) h1' (6 - E) E h4
    rw [show E + (6 - E) = 6 by omega] at h5
    refine ⟨pk0 1, ?_, h1'⟩
    have e1 : lsg (gfin g k E) 6 = lsg g k ++ List.replicate 1 E := by
      have a1 := lsg_zero (g := gfin g k E) (k := E) (6 - E) (fun i h3 h4 => by unfold gfin; rw [if_neg (by omega), if_neg (by omega)])
      rw [show E + (6 - E) = 6 by omega] at a1
      have a2 := lsg_zero (g := gfin g k E) (k := k) (E - 1 - k) (fun i h3 h4 => by unfold gfin; rw [if_neg (by omega), if_neg (by omega)])
      rw [show k + (E - 1 - k) = E - 1 by omega] at a2
      rw [a1]
      obtain ⟨m, hm'⟩ : ∃ m, E = m + 1 := ⟨E - 1, by omega⟩
      rw [hm', Nat.add_sub_cancel] at a2
      have a3 : gfin g k E m = E := by unfold gfin; rw [if_neg (by omega), if_pos (by omega)]
      rw [hm'] at a3
      rw [hm', lsg, a2, a3, Nat.div_self (by omega)]
      rw [hm'] at e0
      rw [e0]
    rw [e1]; exact h5
end
