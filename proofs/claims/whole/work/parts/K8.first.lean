/-! THE START: both sides say the same -/
section
variable {D : va_G} {cl : List vw_C} {tys : List (ClassId × FieldType)} {b n : Nat} {s : State} {E E' : Nat → va_E} {H : Heap} {locs : List Loc}
theorem PS.as (hz : PS D cl tys b n s E H locs) (h : ∀ q, b ≤ q → q < b + n → E q = E' q ∨ ∃ cA N g g', E q = .inl (cA, N, .inr (.inr (.inr (.inr g)))) ∧ E' q = .inl (cA, N, .inr (.inr (.inr (.inr g')))) ∧ ∀ j, j < N → g j = g' j) : PS D cl tys b n s E' H locs := by
  refine ⟨fun k q hk => ?_, hz.2⟩
  obtain ⟨h1, h2, h3, h4⟩ := pl_of hk
  obtain ⟨k0, hk0⟩ := pl_at (n := n) (E := E) (a := q.1) ⟨h1, h2⟩
  have h5 := hz.1 k0 _ hk0
  obtain ⟨q1, q2⟩ := q
  dsimp only at h1 h2 h3 h5 ⊢
  rcases h q1 h1 h2 with e | ⟨cA, N, g, g', e1, e2, e3⟩
  · rw [h3, ← e]; exact h5
  · rw [h3, e2]
    rw [e1] at h5
    have h6 : H[q1]? = some (vp_cell cA (N, .inr (.inr (.inr (.inr g))))) := h5
    show H[q1]? = some (vp_cell cA (N, .inr (.inr (.inr (.inr g')))))
    rw [h6]
    show some (arrV cA N fun j => va_rf (g j)) = some (arrV cA N fun j => va_rf (g' j))
    have e : (Array.ofFn (n := N) fun j => va_rf (g j.val)) = Array.ofFn (n := N) fun j => va_rf (g' j.val) := congrArg _ (funext fun j => by rw [e3 j.val j.isLt])
    unfold arrV
    rw [e]
end
section
variable {b : Nat} {l : Launch} {D : va_G} {cJ cI cR : ClassId}
abbrev K0 (l : Launch) (D : va_G) (cJ cI cR : ClassId) (b : Nat) : Cx := (l, D, cJ, cI, cR, b, 134, sh0 b)
theorem K0_ok : CxOk (K0 l D cJ cI cR b) := fun a h => sh_in h
theorem SS_first {s : State} {E : Nat → va_E} {H : Heap} {locs : List Loc} (hz : PS D vwCl (tys3 cJ cI cR) b 134 s E H locs) (h : ∀ k, k < 134 → OkC cJ cI cR b E (b + k)) : SS (K0 l D cJ cI cR b) s (I0 b) (L0 b) A0 H locs := by
  refine PS.as hz (fun q h1 h2 => ?_)
  have h1 : b ≤ q := h1
  have h2 : q < b + 134 := h2
  have := h (q - b) (by omega)
  rw [show b + (q - b) = q by omega] at this
  rcases this with e | ⟨N, g, e1, e2, e3⟩
  · exact Or.inl e
  · exact Or.inr ⟨cR, N, g, _, e1, rz_ref e2, e3⟩
theorem row0 {k : Nat} (h1 : sh0 b (b + k) = shX4 (b + k)) (h2 : sh0 b (b + (k + 1)) = .inr (1, 13)) : isRow (K0 l D cJ cI cR b) (b + k) := ⟨h1, h2⟩
theorem sh_ShB : ShB (K0 l D cJ cI cR b) b := by
  refine ⟨⟨⟨sh_at b 0, sh_at b 1, ?_, row0 (sh_at b 18) (sh_at b 19), row0 (sh_at b 20) (sh_at b 21), row0 (sh_at b 22) (sh_at b 23), ⟨sh_at b 40, ⟨sh_at b 42, row0 (sh_at b 44) (sh_at b 45), row0 (sh_at b 46) (sh_at b 47), sh_at b 43⟩, row0 (sh_at b 95) (sh_at b 96), row0 (sh_at b 97) (sh_at b 98), row0 (sh_at b 99) (sh_at b 100), row0 (sh_at b 101) (sh_at b 102), row0 (sh_at b 103) (sh_at b 104), row0 (sh_at b 105) (sh_at b 106), row0 (sh_at b 107) (sh_at b 108)⟩⟩, sh_at b 39, ⟨sh_at b 41, ⟨sh_at b 42, row0 (sh_at b 44) (sh_at b 45), row0 (sh_at b 46) (sh_at b 47), sh_at b 43⟩, row0 (sh_at b 48) (sh_at b 49), row0 (sh_at b 50) (sh_at b 51), row0 (sh_at b 52) (sh_at b 53), row0 (sh_at b 54) (sh_at b 55), row0 (sh_at b 56) (sh_at b 57), sh_at b 58, ?_, sh_at b 67, ?_, sh_at b 82, ?_⟩, ⟨sh_at b 24, sh_at b 25, ?_, sh_at b 38⟩, ⟨sh_at b 109, sh_at b 110, ?_, sh_at b 123⟩⟩, ⟨sh_at b 124, sh_at b 125, sh_at b 126, sh_at b 127, sh_at b 128, sh_at b 129, sh_at b 130, sh_at b 131, sh_at b 132⟩, sh_at b 133⟩
  · intro j hj
    rcases (show j = 0 ∨ j = 1 ∨ j = 2 ∨ j = 3 ∨ j = 4 ∨ j = 5 ∨ j = 6 ∨ j = 7 by omega) with rfl | rfl | rfl | rfl | rfl | rfl | rfl | rfl
    · exact row0 (sh_at b 2) (sh_at b 3)
    · exact row0 (sh_at b 4) (sh_at b 5)
    · exact row0 (sh_at b 6) (sh_at b 7)
    · exact row0 (sh_at b 8) (sh_at b 9)
    · exact row0 (sh_at b 10) (sh_at b 11)
    · exact row0 (sh_at b 12) (sh_at b 13)
    · exact row0 (sh_at b 14) (sh_at b 15)
    · exact row0 (sh_at b 16) (sh_at b 17)
  · intro j hj
    rcases (show j = 0 ∨ j = 1 ∨ j = 2 ∨ j = 3 by omega) with rfl | rfl | rfl | rfl
    · exact row0 (sh_at b 59) (sh_at b 60)
    · exact row0 (sh_at b 61) (sh_at b 62)
    · exact row0 (sh_at b 63) (sh_at b 64)
    · exact row0 (sh_at b 65) (sh_at b 66)
  · intro j hj
    rcases (show j = 0 ∨ j = 1 ∨ j = 2 ∨ j = 3 ∨ j = 4 ∨ j = 5 ∨ j = 6 by omega) with rfl | rfl | rfl | rfl | rfl | rfl | rfl
    · exact row0 (sh_at b 68) (sh_at b 69)
    · exact row0 (sh_at b 70) (sh_at b 71)
    · exact row0 (sh_at b 72) (sh_at b 73)
    · exact row0 (sh_at b 74) (sh_at b 75)
    · exact row0 (sh_at b 76) (sh_at b 77)
    · exact row0 (sh_at b 78) (sh_at b 79)
    · exact row0 (sh_at b 80) (sh_at b 81)
  · intro j hj
    rcases (show j = 0 ∨ j = 1 ∨ j = 2 ∨ j = 3 ∨ j = 4 ∨ j = 5 by omega) with rfl | rfl | rfl | rfl | rfl | rfl
    · exact row0 (sh_at b 83) (sh_at b 84)
    · exact row0 (sh_at b 85) (sh_at b 86)
    · exact row0 (sh_at b 87) (sh_at b 88)
    · exact row0 (sh_at b 89) (sh_at b 90)
    · exact row0 (sh_at b 91) (sh_at b 92)
    · exact row0 (sh_at b 93) (sh_at b 94)
  · intro j hj
    rcases (show j = 0 ∨ j = 1 ∨ j = 2 ∨ j = 3 ∨ j = 4 ∨ j = 5 by omega) with rfl | rfl | rfl | rfl | rfl | rfl
    · exact row0 (sh_at b 26) (sh_at b 27)
    · exact row0 (sh_at b 28) (sh_at b 29)
    · exact row0 (sh_at b 30) (sh_at b 31)
    · exact row0 (sh_at b 32) (sh_at b 33)
    · exact row0 (sh_at b 34) (sh_at b 35)
    · exact row0 (sh_at b 36) (sh_at b 37)
  · intro j hj
    rcases (show j = 0 ∨ j = 1 ∨ j = 2 ∨ j = 3 ∨ j = 4 ∨ j = 5 by omega) with rfl | rfl | rfl | rfl | rfl | rfl
    · exact row0 (sh_at b 111) (sh_at b 112)
    · exact row0 (sh_at b 113) (sh_at b 114)
    · exact row0 (sh_at b 115) (sh_at b 116)
    · exact row0 (sh_at b 117) (sh_at b 118)
    · exact row0 (sh_at b 119) (sh_at b 120)
    · exact row0 (sh_at b 121) (sh_at b 122)
theorem perm0 (o : Nat) : PermA A0 o := ⟨fun j hj => ⟨j, hj, by unfold A0; omega⟩, fun i j _ _ hij => by unfold A0; omega⟩
theorem sm7_0 : sm7 p0 := ⟨fun _ _ => rfl, fun _ => ⟨by show (-300 : Int) ≤ 0; decide, by show (0 : Int) ≤ 300; decide⟩⟩
theorem Gd_first (K : Cx) (hS : cxS K = sh0 b) (hB : ShB K b) : Gd b (I0 b) (L0 b) A0 := by
  have z : ∀ k, I0 b (b + 124) k = 0 := I0_obj (sh_at b 124) (by decide)
  have n0 : nI 0 = 0 := rfl
  refine ⟨fun _ => p0, 0, fun _ => p0, fun _ => 0, 0, [], ⟨fun j hj => ?_, ⟨perm0 _, perm0 _, ?_⟩, ⟨⟨?_, by omega, fun i hi => absurd hi (by omega)⟩, ?_⟩, ⟨?_, by decide, fun i hi => absurd hi (by simp)⟩⟩, ⟨fun j hj => ⟨?_, sm7_0⟩, ⟨?_, by omega, ?_, fun i hi => absurd hi (by omega)⟩, ⟨?_, by decide, fun i hi => absurd hi (by simp)⟩⟩, fun i hi => absurd hi (by omega)⟩
  · have hr := hB.1.1.2.2.1 j hj
    have h1 : sh0 b (sl b j) = shX4 (sl b j) := by rw [← hS]; exact hr.1
    have h2 : sh0 b (sl b j + 1) = .inr (1, 13) := by rw [← hS]; exact hr.2
    have hl : lnP p0 7 = 0 := by decide
    have hp : pl (L0 b) (sl b j) = p0 := by
      funext k
      unfold pl
      rw [L0_arr h2]
      split <;> rfl
    refine ⟨by unfold A0 sl; omega, ?_, hp, sm7_0⟩
    rw [hl]
    exact ⟨⟨by rw [I0_row h1]; rfl, by omega, fun k _ _ => by rw [L0_arr h2]⟩, fun e he => absurd he (by omega)⟩
  · refine ⟨fun j _ => ?_, fun j _ => ?_, fun j _ => ?_⟩
    · unfold A0 cj; omega
    · unfold A0 eq5; omega
    · unfold A0 pc5; omega
  · exact I0_obj (sh_at b 24) (by decide) 2
  · rw [I0_obj (sh_at b 24) (by decide) 3]; rfl
  · exact I0_obj (sh_at b 0) (by decide) 6
  · funext k
    unfold rp
    rw [show L0 b (b + 124 + 1) = fun _ => 0 from L0_arr (sh_at b 125)]
    split <;> rfl
  · exact z 7
  · rw [z 8]; rfl
  · exact z 11
end
