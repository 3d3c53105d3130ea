/-! THE START: the shape of what the constructors leave -/
def shL (b : Nat) : List Shp := [shX6 (b + 0), .inr (2, 8), shX4 (b + 2), .inr (1, 13), shX4 (b + 4), .inr (1, 13), shX4 (b + 6), .inr (1, 13), shX4 (b + 8), .inr (1, 13), shX4 (b + 10), .inr (1, 13), shX4 (b + 12), .inr (1, 13), shX4 (b + 14), .inr (1, 13), shX4 (b + 16), .inr (1, 13), shX4 (b + 18), .inr (1, 13), shX4 (b + 20), .inr (1, 13), shX4 (b + 22), .inr (1, 13), shX2 (b + 24), .inr (2, 6), shX4 (b + 26), .inr (1, 13), shX4 (b + 28), .inr (1, 13), shX4 (b + 30), .inr (1, 13), shX4 (b + 32), .inr (1, 13), shX4 (b + 34), .inr (1, 13), shX4 (b + 36), .inr (1, 13), .inr (0, 6), .inr (0, 6), shX0 (b + 40), shX5 (b + 41), shX3 (b + 42), .inr (1, 13), shX4 (b + 44), .inr (1, 13), shX4 (b + 46), .inr (1, 13), shX4 (b + 48), .inr (1, 13), shX4 (b + 50), .inr (1, 13), shX4 (b + 52), .inr (1, 13), shX4 (b + 54), .inr (1, 13), shX4 (b + 56), .inr (1, 13), .inr (2, 4), shX4 (b + 59), .inr (1, 13), shX4 (b + 61), .inr (1, 13), shX4 (b + 63), .inr (1, 13), shX4 (b + 65), .inr (1, 13), .inr (2, 7), shX4 (b + 68), .inr (1, 13), shX4 (b + 70), .inr (1, 13), shX4 (b + 72), .inr (1, 13), shX4 (b + 74), .inr (1, 13), shX4 (b + 76), .inr (1, 13), shX4 (b + 78), .inr (1, 13), shX4 (b + 80), .inr (1, 13), .inr (2, 6), shX4 (b + 83), .inr (1, 13), shX4 (b + 85), .inr (1, 13), shX4 (b + 87), .inr (1, 13), shX4 (b + 89), .inr (1, 13), shX4 (b + 91), .inr (1, 13), shX4 (b + 93), .inr (1, 13), shX4 (b + 95), .inr (1, 13), shX4 (b + 97), .inr (1, 13), shX4 (b + 99), .inr (1, 13), shX4 (b + 101), .inr (1, 13), shX4 (b + 103), .inr (1, 13), shX4 (b + 105), .inr (1, 13), shX4 (b + 107), .inr (1, 13), shX2 (b + 109), .inr (2, 6), shX4 (b + 111), .inr (1, 13), shX4 (b + 113), .inr (1, 13), shX4 (b + 115), .inr (1, 13), shX4 (b + 117), .inr (1, 13), shX4 (b + 119), .inr (1, 13), shX4 (b + 121), .inr (1, 13), .inr (0, 6), shX7 (b + 124), .inr (1, 240), .inr (0, 8), .inr (0, 8), .inr (1, 56), .inr (0, 7), .inr (0, 7), .inr (0, 600), .inr (0, 160), .inr (1, 1)]
def sh0 (b a : Nat) : Shp := if b ≤ a then (shL b).getD (a - b) (.inr (9, 0)) else .inr (9, 0)
def I0 (b : Nat) : TI := fun a _ => if sh0 b a = shX4 a then -1 else 0
def L0 (b : Nat) : TL := fun a k => if sh0 b a = shX3 a ∧ k = 0 then 2 else 0
def A0 : TA := fun a i => a + 1 + 2 * i
theorem sh_at (b k : Nat) : sh0 b (b + k) = (shL b).getD k (.inr (9, 0)) := by
  unfold sh0
  rw [if_pos (by omega), show b + k - b = k by omega]
theorem sh_in {b a : Nat} (h : sh0 b a ≠ .inr (9, 0)) : b ≤ a ∧ a < b + 134 := by
  unfold sh0 at h
  by_cases hb : b ≤ a
  · rw [if_pos hb] at h
    refine ⟨hb, ?_⟩
    rcases Nat.lt_or_ge (a - b) 134 with w | w
    · omega
    · exact absurd (by rw [List.getD_eq_getElem?_getD, List.getElem?_eq_none (show (shL b).length ≤ a - b from w)]; rfl) h
  · rw [if_neg hb] at h
    exact absurd rfl h
section
variable {b a : Nat}
theorem I0_row (h : sh0 b a = shX4 a) (k : Nat) : I0 b a k = -1 := if_pos h
theorem I0_arr {x : Nat × Nat} (h : sh0 b a = .inr x) : I0 b a = fun _ => 0 := funext fun k => if_neg (by rw [h]; unfold shX4; exact fun q => by cases q)
theorem L0_arr {x : Nat × Nat} (h : sh0 b a = .inr x) : L0 b a = fun _ => 0 := funext fun k => if_neg (by rw [h]; unfold shX3; exact fun q => by cases q.1)
theorem I0_obj {ci : Nat} {ks : List K3} (h : sh0 b a = .inl (ci, ks)) (hc : ci ≠ 3) (k : Nat) : I0 b a k = 0 := if_neg (by rw [h]; unfold shX4; exact fun q => hc (by injection q with q; injection q))
theorem L0_obj {ci : Nat} {ks : List K3} (h : sh0 b a = .inl (ci, ks)) (hc : ci ≠ 2) (k : Nat) : L0 b a k = 0 := if_neg (by rw [h]; unfold shX3; exact fun q => hc (by have q := q.1; injection q with q; injection q))
variable {cJ cI cR : ClassId} {E : Nat → va_E}
/-- the cell at q is what the tables say -/
def OkC (cJ cI cR : ClassId) (b : Nat) (E : Nat → va_E) (q : Nat) : Prop := E q = rz cJ cI cR (sh0 b) (I0 b) (L0 b) A0 q ∨ ∃ N g, E q = .inl (cR, N, .inr (.inr (.inr (.inr g)))) ∧ sh0 b q = .inr (2, N) ∧ ∀ j, j < N → g j = some (A0 q j)
theorem okRow {r : Nat} (h1 : sh0 b r = shX4 r) (h2 : sh0 b (r + 1) = .inr (1, 13)) (h : E r = rowO r (-1) ∧ E (r + 1) = rowA cJ (fun _ => 0)) : OkC cJ cI cR b E r ∧ OkC cJ cI cR b E (r + 1) := by
  refine ⟨Or.inl ?_, Or.inl ?_⟩
  · rw [h.1, rz_obj (show sh0 b r = .inl (3, [fr (r + 1), fI]) from h1)]
    simp only [fvs, fvl, I0_row h1]
  · rw [h.2, rz_long h2, L0_arr h2]
theorem okObj {q ci : Nat} {ks : List K3} {fs : List Value} (h : sh0 b q = .inl (ci, ks)) (hf : E q = .inr (ci, fs)) (he : fs = fvs (I0 b) (L0 b) q 0 ks) : OkC cJ cI cR b E q := Or.inl (by rw [hf, he, rz_obj h])
theorem okCI {q N : Nat} (h : sh0 b q = .inr (0, N)) (hf : E q = .inl (cI, N, .inl (fun _ => 0))) : OkC cJ cI cR b E q := Or.inl (by rw [hf, rz_int h, I0_arr h])
theorem okCL {q N : Nat} (h : sh0 b q = .inr (1, N)) (hf : E q = .inl (cJ, N, .inr (.inl (fun _ => 0)))) : OkC cJ cI cR b E q := Or.inl (by rw [hf, rz_long h, L0_arr h])
theorem okCA {q N : Nat} {g : Nat → Option Nat} (h : sh0 b q = .inr (2, N)) (hf : E q = .inl (cR, N, .inr (.inr (.inr (.inr g))))) (hg : ∀ j, j < N → g j = some (q + 1 + 2 * j)) : OkC cJ cI cR b E q := Or.inr ⟨N, g, hf, h, hg⟩
end
set_option maxHeartbeats 4000000 in
set_option maxRecDepth 100000 in
theorem ok_all {cJ cI cR : ClassId} {b : Nat} {E : Nat → va_E} (hF : deskAt cJ cI cR b E) (hM : modelAt cJ cI (b + 124) E) (hO : E (b + 133) = .inl (cJ, 1, .inr (.inl (fun _ => 0)))) : ∀ k, k < 134 → OkC cJ cI cR b E (b + k) := by
  obtain ⟨d0, ⟨⟨g1, d1, d2⟩, d3⟩, d18, d20, d22, ⟨p0, ⟨⟨g2, p1, p2⟩, p3⟩, p4⟩, d39, ⟨f0, ⟨s0, ⟨r0, r1, r2, r4⟩, s7, s9, s11, s13, s15, ⟨⟨g3, t1, t2⟩, t3⟩, ⟨⟨g4, u1, u2⟩, u3⟩, ⟨⟨g5, v1, v2⟩, v3⟩⟩, f55, f57, f59, f61, f63, f65, f67, ⟨q0, ⟨⟨g6, q1, q2⟩, q3⟩, q4⟩⟩⟩ := hF
  obtain ⟨m0, m1, m2, m3, m4, m5, m6, m7, m8⟩ := hM
  have z0 : ∀ k, I0 b (b + 0) k = 0 := I0_obj (sh_at b 0) (by decide)
  have y0 : ∀ k, L0 b (b + 0) k = 0 := L0_obj (sh_at b 0) (by decide)
  have w2 := okRow (cI := cI) (cR := cR) (r := b + 2) (sh_at b 2) (sh_at b 3) (d3 0 (by decide))
  have w4 := okRow (cI := cI) (cR := cR) (r := b + 4) (sh_at b 4) (sh_at b 5) (d3 1 (by decide))
  have w6 := okRow (cI := cI) (cR := cR) (r := b + 6) (sh_at b 6) (sh_at b 7) (d3 2 (by decide))
  have w8 := okRow (cI := cI) (cR := cR) (r := b + 8) (sh_at b 8) (sh_at b 9) (d3 3 (by decide))
  have w10 := okRow (cI := cI) (cR := cR) (r := b + 10) (sh_at b 10) (sh_at b 11) (d3 4 (by decide))
  have w12 := okRow (cI := cI) (cR := cR) (r := b + 12) (sh_at b 12) (sh_at b 13) (d3 5 (by decide))
  have w14 := okRow (cI := cI) (cR := cR) (r := b + 14) (sh_at b 14) (sh_at b 15) (d3 6 (by decide))
  have w16 := okRow (cI := cI) (cR := cR) (r := b + 16) (sh_at b 16) (sh_at b 17) (d3 7 (by decide))
  have w18 := okRow (cI := cI) (cR := cR) (r := b + 18) (sh_at b 18) (sh_at b 19) d18
  have w20 := okRow (cI := cI) (cR := cR) (r := b + 20) (sh_at b 20) (sh_at b 21) d20
  have w22 := okRow (cI := cI) (cR := cR) (r := b + 22) (sh_at b 22) (sh_at b 23) d22
  have z24 : ∀ k, I0 b (b + 24) k = 0 := I0_obj (sh_at b 24) (by decide)
  have y24 : ∀ k, L0 b (b + 24) k = 0 := L0_obj (sh_at b 24) (by decide)
  have w26 := okRow (cI := cI) (cR := cR) (r := b + 26) (sh_at b 26) (sh_at b 27) (p3 0 (by decide))
  have w28 := okRow (cI := cI) (cR := cR) (r := b + 28) (sh_at b 28) (sh_at b 29) (p3 1 (by decide))
  have w30 := okRow (cI := cI) (cR := cR) (r := b + 30) (sh_at b 30) (sh_at b 31) (p3 2 (by decide))
  have w32 := okRow (cI := cI) (cR := cR) (r := b + 32) (sh_at b 32) (sh_at b 33) (p3 3 (by decide))
  have w34 := okRow (cI := cI) (cR := cR) (r := b + 34) (sh_at b 34) (sh_at b 35) (p3 4 (by decide))
  have w36 := okRow (cI := cI) (cR := cR) (r := b + 36) (sh_at b 36) (sh_at b 37) (p3 5 (by decide))
  have z40 : ∀ k, I0 b (b + 40) k = 0 := I0_obj (sh_at b 40) (by decide)
  have y40 : ∀ k, L0 b (b + 40) k = 0 := L0_obj (sh_at b 40) (by decide)
  have z41 : ∀ k, I0 b (b + 41) k = 0 := I0_obj (sh_at b 41) (by decide)
  have y41 : ∀ k, L0 b (b + 41) k = 0 := L0_obj (sh_at b 41) (by decide)
  have z42 : ∀ k, I0 b (b + 42) k = 0 := I0_obj (sh_at b 42) (by decide)
  have y42 : L0 b (b + 42) 0 = 2 := if_pos ⟨sh_at b 42, rfl⟩
  have w44 := okRow (cI := cI) (cR := cR) (r := b + 44) (sh_at b 44) (sh_at b 45) r2
  have w46 := okRow (cI := cI) (cR := cR) (r := b + 46) (sh_at b 46) (sh_at b 47) r4
  have w48 := okRow (cI := cI) (cR := cR) (r := b + 48) (sh_at b 48) (sh_at b 49) s7
  have w50 := okRow (cI := cI) (cR := cR) (r := b + 50) (sh_at b 50) (sh_at b 51) s9
  have w52 := okRow (cI := cI) (cR := cR) (r := b + 52) (sh_at b 52) (sh_at b 53) s11
  have w54 := okRow (cI := cI) (cR := cR) (r := b + 54) (sh_at b 54) (sh_at b 55) s13
  have w56 := okRow (cI := cI) (cR := cR) (r := b + 56) (sh_at b 56) (sh_at b 57) s15
  have w59 := okRow (cI := cI) (cR := cR) (r := b + 59) (sh_at b 59) (sh_at b 60) (t3 0 (by decide))
  have w61 := okRow (cI := cI) (cR := cR) (r := b + 61) (sh_at b 61) (sh_at b 62) (t3 1 (by decide))
  have w63 := okRow (cI := cI) (cR := cR) (r := b + 63) (sh_at b 63) (sh_at b 64) (t3 2 (by decide))
  have w65 := okRow (cI := cI) (cR := cR) (r := b + 65) (sh_at b 65) (sh_at b 66) (t3 3 (by decide))
  have w68 := okRow (cI := cI) (cR := cR) (r := b + 68) (sh_at b 68) (sh_at b 69) (u3 0 (by decide))
  have w70 := okRow (cI := cI) (cR := cR) (r := b + 70) (sh_at b 70) (sh_at b 71) (u3 1 (by decide))
  have w72 := okRow (cI := cI) (cR := cR) (r := b + 72) (sh_at b 72) (sh_at b 73) (u3 2 (by decide))
  have w74 := okRow (cI := cI) (cR := cR) (r := b + 74) (sh_at b 74) (sh_at b 75) (u3 3 (by decide))
  have w76 := okRow (cI := cI) (cR := cR) (r := b + 76) (sh_at b 76) (sh_at b 77) (u3 4 (by decide))
  have w78 := okRow (cI := cI) (cR := cR) (r := b + 78) (sh_at b 78) (sh_at b 79) (u3 5 (by decide))
  have w80 := okRow (cI := cI) (cR := cR) (r := b + 80) (sh_at b 80) (sh_at b 81) (u3 6 (by decide))
  have w83 := okRow (cI := cI) (cR := cR) (r := b + 83) (sh_at b 83) (sh_at b 84) (v3 0 (by decide))
  have w85 := okRow (cI := cI) (cR := cR) (r := b + 85) (sh_at b 85) (sh_at b 86) (v3 1 (by decide))
  have w87 := okRow (cI := cI) (cR := cR) (r := b + 87) (sh_at b 87) (sh_at b 88) (v3 2 (by decide))
  have w89 := okRow (cI := cI) (cR := cR) (r := b + 89) (sh_at b 89) (sh_at b 90) (v3 3 (by decide))
  have w91 := okRow (cI := cI) (cR := cR) (r := b + 91) (sh_at b 91) (sh_at b 92) (v3 4 (by decide))
  have w93 := okRow (cI := cI) (cR := cR) (r := b + 93) (sh_at b 93) (sh_at b 94) (v3 5 (by decide))
  have w95 := okRow (cI := cI) (cR := cR) (r := b + 95) (sh_at b 95) (sh_at b 96) f55
  have w97 := okRow (cI := cI) (cR := cR) (r := b + 97) (sh_at b 97) (sh_at b 98) f57
  have w99 := okRow (cI := cI) (cR := cR) (r := b + 99) (sh_at b 99) (sh_at b 100) f59
  have w101 := okRow (cI := cI) (cR := cR) (r := b + 101) (sh_at b 101) (sh_at b 102) f61
  have w103 := okRow (cI := cI) (cR := cR) (r := b + 103) (sh_at b 103) (sh_at b 104) f63
  have w105 := okRow (cI := cI) (cR := cR) (r := b + 105) (sh_at b 105) (sh_at b 106) f65
  have w107 := okRow (cI := cI) (cR := cR) (r := b + 107) (sh_at b 107) (sh_at b 108) f67
  have z109 : ∀ k, I0 b (b + 109) k = 0 := I0_obj (sh_at b 109) (by decide)
  have y109 : ∀ k, L0 b (b + 109) k = 0 := L0_obj (sh_at b 109) (by decide)
  have w111 := okRow (cI := cI) (cR := cR) (r := b + 111) (sh_at b 111) (sh_at b 112) (q3 0 (by decide))
  have w113 := okRow (cI := cI) (cR := cR) (r := b + 113) (sh_at b 113) (sh_at b 114) (q3 1 (by decide))
  have w115 := okRow (cI := cI) (cR := cR) (r := b + 115) (sh_at b 115) (sh_at b 116) (q3 2 (by decide))
  have w117 := okRow (cI := cI) (cR := cR) (r := b + 117) (sh_at b 117) (sh_at b 118) (q3 3 (by decide))
  have w119 := okRow (cI := cI) (cR := cR) (r := b + 119) (sh_at b 119) (sh_at b 120) (q3 4 (by decide))
  have w121 := okRow (cI := cI) (cR := cR) (r := b + 121) (sh_at b 121) (sh_at b 122) (q3 5 (by decide))
  have z124 : ∀ k, I0 b (b + 124) k = 0 := I0_obj (sh_at b 124) (by decide)
  have y124 : ∀ k, L0 b (b + 124) k = 0 := L0_obj (sh_at b 124) (by decide)
  intro k hk
  match k, hk with
  | 0, _ => exact (okObj (q := b + 0) (sh_at b 0) d0 (by simp only [fvs, fvl, z0, y0]))
  | 1, _ => exact (okCA (q := b + 1) (sh_at b 1) d1 d2)
  | 2, _ => exact w2.1
  | 3, _ => exact w2.2
  | 4, _ => exact w4.1
  | 5, _ => exact w4.2
  | 6, _ => exact w6.1
  | 7, _ => exact w6.2
  | 8, _ => exact w8.1
  | 9, _ => exact w8.2
  | 10, _ => exact w10.1
  | 11, _ => exact w10.2
  | 12, _ => exact w12.1
  | 13, _ => exact w12.2
  | 14, _ => exact w14.1
  | 15, _ => exact w14.2
  | 16, _ => exact w16.1
  | 17, _ => exact w16.2
  | 18, _ => exact w18.1
  | 19, _ => exact w18.2
  | 20, _ => exact w20.1
  | 21, _ => exact w20.2
  | 22, _ => exact w22.1
  | 23, _ => exact w22.2
  | 24, _ => exact (okObj (q := b + 24) (sh_at b 24) p0 (by simp only [fvs, fvl, z24, y24]))
  | 25, _ => exact (okCA (q := b + 25) (sh_at b 25) p1 p2)
  | 26, _ => exact w26.1
  | 27, _ => exact w26.2
  | 28, _ => exact w28.1
  | 29, _ => exact w28.2
  | 30, _ => exact w30.1
  | 31, _ => exact w30.2
  | 32, _ => exact w32.1
  | 33, _ => exact w32.2
  | 34, _ => exact w34.1
  | 35, _ => exact w34.2
  | 36, _ => exact w36.1
  | 37, _ => exact w36.2
  | 38, _ => exact (okCI (q := b + 38) (sh_at b 38) p4)
  | 39, _ => exact (okCI (q := b + 39) (sh_at b 39) d39)
  | 40, _ => exact (okObj (q := b + 40) (sh_at b 40) f0 (by simp only [fvs, fvl, z40, y40]))
  | 41, _ => exact (okObj (q := b + 41) (sh_at b 41) s0 (by simp only [fvs, fvl, z41, y41]))
  | 42, _ => exact (okObj (q := b + 42) (sh_at b 42) r0 (by simp only [fvs, fvl, z42, y42]))
  | 43, _ => exact (okCL (q := b + 43) (sh_at b 43) r1)
  | 44, _ => exact w44.1
  | 45, _ => exact w44.2
  | 46, _ => exact w46.1
  | 47, _ => exact w46.2
  | 48, _ => exact w48.1
  | 49, _ => exact w48.2
  | 50, _ => exact w50.1
  | 51, _ => exact w50.2
  | 52, _ => exact w52.1
  | 53, _ => exact w52.2
  | 54, _ => exact w54.1
  | 55, _ => exact w54.2
  | 56, _ => exact w56.1
  | 57, _ => exact w56.2
  | 58, _ => exact (okCA (q := b + 58) (sh_at b 58) t1 t2)
  | 59, _ => exact w59.1
  | 60, _ => exact w59.2
  | 61, _ => exact w61.1
  | 62, _ => exact w61.2
  | 63, _ => exact w63.1
  | 64, _ => exact w63.2
  | 65, _ => exact w65.1
  | 66, _ => exact w65.2
  | 67, _ => exact (okCA (q := b + 67) (sh_at b 67) u1 u2)
  | 68, _ => exact w68.1
  | 69, _ => exact w68.2
  | 70, _ => exact w70.1
  | 71, _ => exact w70.2
  | 72, _ => exact w72.1
  | 73, _ => exact w72.2
  | 74, _ => exact w74.1
  | 75, _ => exact w74.2
  | 76, _ => exact w76.1
  | 77, _ => exact w76.2
  | 78, _ => exact w78.1
  | 79, _ => exact w78.2
  | 80, _ => exact w80.1
  | 81, _ => exact w80.2
  | 82, _ => exact (okCA (q := b + 82) (sh_at b 82) v1 v2)
  | 83, _ => exact w83.1
  | 84, _ => exact w83.2
  | 85, _ => exact w85.1
  | 86, _ => exact w85.2
  | 87, _ => exact w87.1
  | 88, _ => exact w87.2
  | 89, _ => exact w89.1
  | 90, _ => exact w89.2
  | 91, _ => exact w91.1
  | 92, _ => exact w91.2
  | 93, _ => exact w93.1
  | 94, _ => exact w93.2
  | 95, _ => exact w95.1
  | 96, _ => exact w95.2
  | 97, _ => exact w97.1
  | 98, _ => exact w97.2
  | 99, _ => exact w99.1
  | 100, _ => exact w99.2
  | 101, _ => exact w101.1
  | 102, _ => exact w101.2
  | 103, _ => exact w103.1
  | 104, _ => exact w103.2
  | 105, _ => exact w105.1
  | 106, _ => exact w105.2
  | 107, _ => exact w107.1
  | 108, _ => exact w107.2
  | 109, _ => exact (okObj (q := b + 109) (sh_at b 109) q0 (by simp only [fvs, fvl, z109, y109]))
  | 110, _ => exact (okCA (q := b + 110) (sh_at b 110) q1 q2)
  | 111, _ => exact w111.1
  | 112, _ => exact w111.2
  | 113, _ => exact w113.1
  | 114, _ => exact w113.2
  | 115, _ => exact w115.1
  | 116, _ => exact w115.2
  | 117, _ => exact w117.1
  | 118, _ => exact w117.2
  | 119, _ => exact w119.1
  | 120, _ => exact w119.2
  | 121, _ => exact w121.1
  | 122, _ => exact w121.2
  | 123, _ => exact (okCI (q := b + 123) (sh_at b 123) q4)
  | 124, _ => exact (okObj (q := b + 124) (sh_at b 124) m0 (by simp only [fvs, fvl, z124, y124]))
  | 125, _ => exact (okCL (q := b + 125) (sh_at b 125) m1)
  | 126, _ => exact (okCI (q := b + 126) (sh_at b 126) m2)
  | 127, _ => exact (okCI (q := b + 127) (sh_at b 127) m3)
  | 128, _ => exact (okCL (q := b + 128) (sh_at b 128) m4)
  | 129, _ => exact (okCI (q := b + 129) (sh_at b 129) m5)
  | 130, _ => exact (okCI (q := b + 130) (sh_at b 130) m6)
  | 131, _ => exact (okCI (q := b + 131) (sh_at b 131) m7)
  | 132, _ => exact (okCI (q := b + 132) (sh_at b 132) m8)
  | 133, _ => exact (okCL (q := b + 133) (sh_at b 133) hO)
  | k + 134, hk => exact absurd hk (by omega)
