/-! POLYNOMIALS with whole coefficients, as sequences: sums, multiples, products. -/
section
abbrev PP := Nat → Int
def pa (f g : PP) : PP := fun k => f k + g k
def pc (c : Int) (f : PP) : PP := fun k => c * f k
def pt (f : PP) : PP := fun k => f (k + 1)
def px (f : PP) : PP
  | 0 => 0
  | k + 1 => f k
def p0 : PP := fun _ => 0
def pk0 (c : Int) : PP
  | 0 => c
  | _ + 1 => 0
def pm : PP → PP → PP
  | f, g, 0 => f 0 * g 0
  | f, g, k + 1 => f 0 * g (k + 1) + pm (pt f) g k
/-- nothing from n on -/
def dl (f : PP) (n : Nat) : Prop := ∀ k, n ≤ k → f k = 0
theorem pm_add_l (h : PP) : ∀ (k : Nat) (f g : PP), pm (pa f g) h k = pm f h k + pm g h k
  | 0, f, g => by simp only [pm, pa]; grind
  | k + 1, f, g => by
    have e : pt (pa f g) = pa (pt f) (pt g) := rfl
    simp only [pm]
    rw [e, pm_add_l h k]
    simp only [pa]; grind
theorem pm_add_r (f : PP) (g h : PP) : ∀ (k : Nat) (f : PP), pm f (pa g h) k = pm f g k + pm f h k
  | 0, f => by simp only [pm, pa]; grind
  | k + 1, f => by
    simp only [pm]
    rw [pm_add_r f g h k]
    simp only [pa]; grind
theorem pm_c_l (c : Int) (h : PP) : ∀ (k : Nat) (f : PP), pm (pc c f) h k = c * pm f h k
  | 0, f => by simp only [pm, pc]; grind
  | k + 1, f => by
    have e : pt (pc c f) = pc c (pt f) := rfl
    simp only [pm]
    rw [e, pm_c_l c h k]
    simp only [pc]; grind
theorem pm_c_r (c : Int) (g : PP) : ∀ (k : Nat) (f : PP), pm f (pc c g) k = c * pm f g k
  | 0, f => by simp only [pm, pc]; grind
  | k + 1, f => by
    simp only [pm]
    rw [pm_c_r c g k]
    simp only [pc]; grind
/-- the other recursion -/
theorem pm_succ (g : PP) : ∀ (k : Nat) (f : PP), pm f g (k + 1) = f (k + 1) * g 0 + pm f (pt g) k
  | 0, f => by simp only [pm, pt]; grind
  | k + 1, f => by
    rw [pm, pm_succ g k (pt f)]
    rw [pm]
    simp only [pt]; grind
theorem pm_comm : ∀ (k : Nat) (f g : PP), pm f g k = pm g f k
  | 0, f, g => by simp only [pm]; grind
  | k + 1, f, g => by
    rw [pm, pm_succ, pm_comm k (pt f) g]
    grind
theorem pm_assoc (g h : PP) : ∀ (k : Nat) (f : PP), pm (pm f g) h k = pm f (pm g h) k
  | 0, f => by simp only [pm]; grind
  | k + 1, f => by
    have e : pt (pm f g) = pa (pc (f 0) (pt g)) (pm (pt f) g) := funext fun j => rfl
    rw [pm, e, pm_add_l, pm_c_l, pm_assoc g h k (pt f)]
    rw [pm, pm]
    simp only [pm]
    grind
theorem pm_c0 (c : Int) (g : PP) : ∀ k, pm (pk0 c) g k = c * g k
  | 0 => rfl
  | k + 1 => by
    have e : pt (pk0 c) = pk0 0 := funext fun j => by cases j <;> rfl
    rw [pm, e, pm_c0 0 g k]
    simp [pk0]
theorem pm_x (g : PP) : ∀ (k : Nat) (f : PP), pm (px f) g k = px (pm f g) k
  | 0, f => by simp [pm, px]
  | k + 1, f => by
    have e : pt (px f) = f := rfl
    rw [pm, e]
    simp [px]
theorem pm_0l (g : PP) : pm p0 g = p0 := funext fun k => by
  have : p0 = pk0 0 := funext fun j => by cases j <;> rfl
  rw [this, pm_c0]
  cases k <;> simp [pk0]
/-- degrees: the length of a product -/
theorem pm_dl : ∀ (m : Nat) (f g : PP) (n : Nat), dl f (m + 1) → dl g (n + 1) → dl (pm f g) (m + n + 1)
  | 0, f, g, n, hf, hg => by
    have e : f = pk0 (f 0) := funext fun j => by
      cases j with
      | zero => rfl
      | succ j => exact hf (j + 1) (by omega)
    intro k hk
    rw [e, pm_c0, hg k (by omega)]
    simp
  | m + 1, f, g, n, hf, hg => by
    intro k hk
    cases k with
    | zero => omega
    | succ k =>
      rw [pm, hg (k + 1) (by omega), pm_dl m (pt f) g n (fun j hj => hf (j + 1) (by omega)) hg k (by omega)]
      simp
/-- and its highest place -/
theorem pm_top : ∀ (m : Nat) (f g : PP) (n : Nat), dl f (m + 1) → dl g (n + 1) → pm f g (m + n) = f m * g n
  | 0, f, g, n, hf, hg => by
    have e : f = pk0 (f 0) := funext fun j => by
      cases j with
      | zero => rfl
      | succ j => exact hf (j + 1) (by omega)
    rw [e, pm_c0]
    simp [pk0]
  | m + 1, f, g, n, hf, hg => by
    rw [show m + 1 + n = (m + n) + 1 by omega, pm, pm_top m (pt f) g n (fun j hj => hf (j + 1) (by omega)) hg, hg (m + n + 1) (by omega)]
    simp [pt]
/-- a sequence that ends and is not 0 has a degree -/
theorem dg_ex (f : PP) : ∀ n, dl f n → f ≠ p0 → ∃ d, d < n ∧ f d ≠ 0 ∧ dl f (d + 1)
  | 0, h, h0 => absurd (funext fun k => h k (Nat.zero_le k)) h0
  | n + 1, h, h0 => by
    by_cases e : f n = 0
    · obtain ⟨d, h1, h2, h3⟩ := dg_ex f n (fun k hk => by
        by_cases q : k = n
        · rw [q, e]
        · exact h k (by omega)) h0
      exact ⟨d, by omega, h2, h3⟩
    · exact ⟨n, by omega, e, h⟩
end
