/-! THE REFERENCE: timesPart -/
section
variable {K : Cx} {I : TI} {L : TL} {A : TA}
theorem sevn2 {i : Nat} (h : i < 8) {x : Int32} (hx : x = nI i) : ((72 : Int32) + x).toInt = ((8 * 9 + i : Nat) : Int) := by
  have : (72 : Int32).toInt = 72 := by decide
  rw [iadd (by rw [this, hx, tI (by omega)]; omega) (by rw [this, hx, tI (by omega)]; omega), this, hx, tI (by omega)]; omega
set_option maxHeartbeats 2000000 in
theorem m_timesPart {m r : Nat} {a b : PP} (hm : isX7 K m) (hr : r < 30) (hr12 : 12 ≤ r) (ha : rp L m 8 = a) (hb : rp L m r = b) (ba : ∀ k, (a k).natAbs ≤ 33350) (bb : ∀ k, (b k).natAbs ≤ 33350) (hdl : dl (pm a b) 8) :
    ConV K yX7_timesPart wsX7_timesPart 1 23 I L A [.ref m, .int (nI r)] (fun I' L' A' => rp L' m 8 = pm a b ∧ RU m (fun s => s = 8 ∨ s = 9) L L' ∧ I' = I ∧ A' = A) := by
  have da : dl a 8 := by rw [← ha]; exact rp_dl L m 8
  have l8 : (8 : Int32).toInt = 8 := by decide
  apply w_X7_timesPart
  unfold wp_X7_timesPart
  refine ⟨hm.1, _, m_copy (r := 9) (u := 8) hm (by omega) (by omega), ?_⟩
  rintro I1 L1 A1 ⟨c1, ru1, rfl, rfl⟩
  rw [ha] at c1
  refine ⟨_, m_clear (r := 8) hm (by omega), ?_⟩
  rintro I2 L2 A2 ⟨c2, ru2, rfl, rfl⟩
  have h9 : rp L2 m 9 = a := (ru2.same (show ¬ 9 = 8 by omega)).trans c1
  have hb2 : rp L2 m r = b := by rw [ru2.same (show ¬ r = 8 by omega), ru1.same (show ¬ r = 9 by omega), hb]
  have ruA : RU m (fun s => s = 8 ∨ s = 9) L L2 := (ru1.mono (fun s h => Or.inr h)).trans (ru2.mono (fun s h => Or.inl h))
  unfold wp_X7_timesPart_16
  refine ⟨fun μ I' L' A' x => ∃ i, i + μ = 8 ∧ x = nI i ∧ I' = I2 ∧ (∀ k, k < 8 → rp L' m 8 k = pm (ct a i) b k) ∧ RU m (· = 8) L2 L' ∧ A' = A2, 8, ⟨0, rfl, rfl, rfl, fun k hk => ?_, RU.refl _ _ _, rfl⟩, ?_⟩
  · rw [c2, show ct a 0 = p0 from funext fun k => if_neg (Nat.not_lt_zero k), pm_0l]
  rintro μ C hC I' L' A' _ ⟨i, hi, rfl, rfl, h1, h2, rfl⟩
  refine ⟨fun z => ?_, fun z => ?_⟩
  · rw [ile, l8, tI (by omega)] at z
    have hi8 : i = 8 := by omega
    subst hi8
    refine ⟨funext fun k => ?_, ruA.trans (h2.mono (fun s h => Or.inl h)), rfl, rfl⟩
    by_cases y : k < 8
    · rw [h1 k y, ct_all da]
    · rw [rp, if_neg y, hdl k (by omega)]
  · rw [ile, l8, tI (by omega)] at z
    unfold wp_X7_timesPart_24
    refine ⟨fun ν I'' L'' A'' x4 x5 => ∃ j, i + j + ν = 8 ∧ x4 = nI i ∧ x5 = nI j ∧ I'' = I' ∧ (∀ k, k < 8 → rp L'' m 8 k = pm (ct a i) b k + (if i ≤ k ∧ k < i + j then a i * b (k - i) else 0)) ∧ RU m (· = 8) L2 L'' ∧ A'' = A', 8 - i, ⟨0, by omega, rfl, rfl, rfl, fun k hk => ?_, h2, rfl⟩, ?_⟩
    · rw [h1 k hk, if_neg (by omega)]; omega
    rintro ν C' hC' I'' L'' A'' _ _ ⟨j, hj, rfl, rfl, rfl, h3, h4, rfl⟩
    have hsum : (nI i + nI j).toInt = ((i + j : Nat) : Int) := by rw [iadd (by rw [tI (by omega), tI (by omega)]; omega) (by rw [tI (by omega), tI (by omega)]; omega), tI (by omega), tI (by omega)]; omega
    refine ⟨fun q v1 e1 => ?_, fun q => ?_⟩
    · rw [ile, l8, hsum] at q
      refine hC (μ - 1) _ _ _ _ (by omega) ⟨i + 1, by omega, by rw [e1, sI], rfl, fun k hk => ?_, h4, rfl⟩
      rw [h3 k hk, pm_ct]
      congr 1
      by_cases y2 : i ≤ k
      · rw [if_pos y2, if_pos ⟨y2, by omega⟩]
      · rw [if_neg y2, if_neg (fun w => y2 w.1)]
    · rw [ile, l8, hsum] at q
      have hix := six4b (show i + j < 8 by omega) (x := nI i) (y := nI j) rfl rfl
      have hixa := sevn2 (show i < 8 by omega) (x := nI i) rfl
      have hixb := rix (show r < 30 by omega) (show j < 8 by omega) (x := nI r) rfl (tI (k := j) (by omega))
      have hok8 : aok (cxS K) (m + 1) 1 (64 + nI i + nI j) := rok hm (show 8 < 30 by omega) (show i + j < 8 by omega) hix
      refine ⟨hm.1, hok8, rok hm (show 9 < 30 by omega) (show i < 8 by omega) hixa, rok hm hr (show j < 8 by omega) hixb, hok8, fun L5 e5 v hv => ?_⟩
      rw [ix_of hix, ix_of hixa, ix_of hixb] at e5
      have ea : (L'' (m + 1) (8 * 9 + i)).toInt = a i := by rw [← rp_lt (by omega), h4.same (show ¬ 9 = 8 by omega), h9]
      have eb : (L'' (m + 1) (8 * r + j)).toInt = b j := by rw [← rp_lt (by omega), h4.same (show ¬ r = 8 by omega), hb2]
      refine hC' (ν - 1) _ _ _ _ _ (by omega) ⟨j + 1, by omega, rfl, by rw [hv, sI], rfl, fun k hk => ?_, h4.trans (by rw [e5]; exact u2_ru (by omega)), rfl⟩
      rw [rp_lt hk, e5]
      by_cases y : k = i + j
      · subst y
        have e8 := h3 (i + j) hk
        rw [if_neg (by omega), Int.add_zero, rp_lt hk] at e8
        have b1 := pm_part (n := 8) (k := i + j) ba bb (show i ≤ 8 by omega)
        have b2 := mul_ab (ba i) (bb j)
        have e2 : (L'' (m + 1) (8 * 9 + i) * L'' (m + 1) (8 * r + j)).toInt = a i * b j := by rw [jmulB (m := 33350) (n := 33350) (by rw [ea]; exact ba i) (by rw [eb]; exact bb j) (by decide), ea, eb]
        rw [u2_self, jadd (by rw [e8, e2]; omega) (by rw [e8, e2]; omega), e8, e2, if_pos ⟨by omega, by omega⟩, show i + j - i = j by omega]
      · rw [u2_ne _ _ (fun w => y (by omega)), ← rp_lt hk, h3 k hk]
        congr 1
        by_cases y3 : i ≤ k ∧ k < i + j
        · rw [if_pos y3, if_pos ⟨y3.1, by omega⟩]
        · rw [if_neg y3, if_neg (fun w => y3 ⟨w.1, by omega⟩)]
/-- the parts of the other one -/
def OtS (m : Nat) (I : TI) (L : TL) (c : Nat) (q : Nat → PP) (n : Nat → Nat) : Prop := ∀ i, i < c → rp L m (20 + i) = q i ∧ I (m + 3) i = nI (n i)
theorem Gcd.sym {R f g : PP} (h : Gcd R f g) : Gcd R g f := by
  obtain ⟨h1, h2, h3, d, h4, h5, h6⟩ := h
  exact ⟨h1, h3, h2, d, h4, h5, fun x n a b => h6 x n b a⟩
theorem t20 {k : Nat} (h : k < 1000) : (20 : Int32) + nI k = nI (20 + k) := eqn (by
  have : (20 : Int32).toInt = 20 := by decide
  rw [iadd (by rw [tI (by omega), this]; omega) (by rw [tI (by omega), this]; omega), tI (by omega), this]; omega)
/-- the exponents that common gathers -/
def exG (c' : Nat) (q q' : Nat → PP) (n n' : Nat → Nat) (i k w : Nat) : Prop := ((∃ k', k' < k ∧ q i = q' k' ∧ w = min (n i) (n' k')) ∨ ((∀ k', k' < k → q i ≠ q' k') ∧ w = 0)) ∧ k ≤ c'
theorem prd_part {q : Nat → PP} {n e : Nat → Nat} {c i w : Nat} {f0 : PP} (hf : Fac f0 c q n) (hi : i < c) (he : ∀ j, j < i → e j ≤ n j) (hw : w ≤ n i) : dv (pm (prd q e i) (pw (q i) w)) f0 := by
  -- the exponents below i, w at i, 0 behind
  have h0 : ∀ (E : Nat → Nat), (∀ j, j < c → E j ≤ n j) → dv (prd q E c) f0 := fun E hE => by
    rw [hf.1, prd_le hf.pf hE]; exact dv_mul_l (prd_pf c hf.pf)
  have h1 := h0 (fun j => if j < i then e j else if j = i then w else 0) (fun j hj => by
    show (if j < i then e j else if j = i then w else 0) ≤ n j
    by_cases a : j < i
    · rw [if_pos a]; exact he j a
    · rw [if_neg a]
      by_cases b : j = i
      · rw [if_pos b, b]; exact hw
      · rw [if_neg b]; exact Nat.zero_le _)
  have h2 : ∀ x, i < x → prd q (fun j => if j < i then e j else if j = i then w else 0) x = pm (prd q e i) (pw (q i) w) := fun x => by
    induction x with
    | zero => intro h; omega
    | succ x ih =>
      intro h
      rw [prd]
      by_cases b : x = i
      · subst b
        rw [prd_congr (q' := q) (n' := e) x (fun j hj => ⟨rfl, if_pos hj⟩)]
        simp
      · rw [ih (by omega)]
        show pm _ (pw (q x) (if x < i then e x else if x = i then w else 0)) = _
        rw [if_neg (by omega), if_neg b]
        exact pm_1r _
  rw [h2 c hi] at h1
  exact h1
theorem prd_part0 {q : Nat → PP} {n e : Nat → Nat} {c i : Nat} {f0 : PP} (hf : Fac f0 c q n) (hi : i ≤ c) (he : ∀ j, j < i → e j ≤ n j) : dv (prd q e i) f0 := by
  rcases Nat.lt_or_ge i c with h | h
  · have := prd_part hf h he (Nat.zero_le (n i))
    have e1 : pm (prd q e i) (pw (q i) 0) = prd q e i := pm_1r _
    rw [e1] at this; exact this
  · have : i = c := by omega
    subst this
    rw [hf.1, prd_le hf.pf he]; exact dv_mul_l (prd_pf i hf.pf)
end
