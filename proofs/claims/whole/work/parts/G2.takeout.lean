/-! FACTORING: takeOut -/
section
variable {K : Cx} {I : TI} {L : TL} {A : TA}
set_option maxRecDepth 100000 in
theorem ibit : ∀ M, M < 64 → ∀ i, i < 6 → ((((nI M >>> (nI i &&& 31)) &&& 1) = 1) ↔ M.testBit i = true) := by decide
theorem iand0 : ∀ M, M < 64 → ∀ U, U < 64 → ((nI M &&& nI U = 0) ↔ M &&& U = 0) := fun M hM U hU => by
  have e : nI M &&& nI U = nI (M &&& U) := by
    apply Int32.toBitVec_inj.mp
    rw [Int32.toBitVec_and]
    show BitVec.ofNat 32 M &&& BitVec.ofNat 32 U = BitVec.ofNat 32 (M &&& U)
    rw [BitVec.ofNat_and]
  rw [e]
  have hl : M &&& U < 64 := Nat.lt_of_le_of_lt Nat.and_le_left hM
  constructor
  · intro h
    have h2 := congrArg Int32.toInt h
    rw [tI (by omega), li0] at h2
    omega
  · intro h; rw [h]; rfl
theorem ior (M U : Nat) : nI U ||| nI M = nI (U ||| M) := by
  apply Int32.toBitVec_inj.mp
  rw [Int32.toBitVec_or]
  show BitVec.ofNat 32 U ||| BitVec.ofNat 32 M = BitVec.ofNat 32 (U ||| M)
  rw [BitVec.ofNat_or]
set_option maxRecDepth 100000 in
theorem ishl : ∀ c, c ≤ 6 → (1 : Int32) <<< (nI c &&& 31) = nI (2 ^ c) := by decide
theorem dsm_le (e : Nat → Nat) (b : Nat → Bool) : ∀ n, dsm e b n ≤ sgm e n
  | 0 => Nat.le_refl _
  | n + 1 => by
    have := dsm_le e b n
    rw [dsm, sgm]
    split <;> omega
theorem sgm_le (e : Nat → Nat) (k : Nat) : ∀ m, sgm e k ≤ sgm e (k + m)
  | 0 => Nat.le_refl _
  | m + 1 => by
    have := sgm_le e k m
    rw [← Nat.add_assoc, sgm]; omega
theorem near_cg (p x : Int) : p ∣ near p x - x := by
  have h := mod_dvd x p
  unfold near
  split
  · exact h
  · have := Int.dvd_sub h (Int.dvd_refl p)
    rwa [show x % p - x - p = x % p - p - x by omega] at this
theorem near_bd {p : Nat} (hp : 0 < p) (x : Int) : (near p x).natAbs ≤ p := by
  have h1 := Int.emod_nonneg x (show (p : Int) ≠ 0 by omega)
  have h2 := Int.emod_lt_of_pos x (show (0 : Int) < p by omega)
  unfold near
  split <;> omega
theorem s_divides2 {f u a e da MA : Nat} (hf : isX0 K f) (hu : isRow K u) (ha : isRow K a) (h1 : u ≠ f + 65) (h2 : u ≠ f + 67) (h3 : a ≠ f + 65) (h4 : a ≠ f + 67) (nu : RowN I L u (e + 1)) (sa : St I L a da) (hMA : ∀ k, (pl L a k).natAbs ≤ MA) (hA1 : MA ≤ 1000000000000000) :
    ConI K yX0_divides wsX0_divides 3 92 I L A [.ref f, .ref u, .ref a] (fun v I' L' A' => ((v = 1 ∧ quo (pl L a) (pl L u) (pl L' (f + 65)) ∧ ∃ d, RowN I' L' (f + 65) d) ∨ (v = 0 ∧ ¬ ((∀ k, (pl L u k).natAbs ≤ 1000000) ∧ ∃ x, quo (pl L a) (pl L u) x))) ∧ ChR (fun x => x = f + 65 ∨ x = f + 67) I I' L L' ∧ A' = A) := by
  have hd := nu.1.2.1
  apply w_X0_divides
  unfold wp_X0_divides
  refine ⟨hu.1, _, s_isWithin hu nu.1.1 hd (by decide), ?_⟩
  rintro v I1 L1 A1 ⟨hv, rfl, rfl, hA1'⟩
  rw [li1e6] at hv
  have hall : (∀ k, k < e + 1 → -1000000 ≤ (L1 (u + 1) k).toInt ∧ (L1 (u + 1) k).toInt ≤ 1000000) ↔ ∀ k, (pl L1 u k).natAbs ≤ 1000000 := by
    refine ⟨fun h k => ?_, fun h k hk => ?_⟩
    · by_cases q : k < e + 1
      · have := h k q
        rw [pl_lt (by omega)]; omega
      · rw [nu.1.dl k (by omega)]; simp
    · have := h k
      rw [pl_lt (by omega)] at this; omega
  rcases hv with ⟨rfl, hv⟩ | ⟨rfl, hv⟩
  · refine ⟨fun z => absurd z (by decide), fun _ => ⟨hf.1, hf.2.2.2.2.2.2.2.1.1, _, s_becomeQuotient (MB := 1000000) hf.2.2.2.2.2.2.2.1 ha hu hf.2.2.2.2.2.2.2.2 (Ne.symm h3) (Ne.symm h1) (by omega) (Ne.symm h4) (Ne.symm h2) sa nu.1 (nu.2 e rfl) hMA (hall.mp hv) hA1 (by omega), ?_⟩⟩
    rintro w I2 L2 A2 ⟨hw, -, -, hc, hA2⟩
    have hAA : A2 = A := by rw [hA2, hA1']
    rcases hw with ⟨rfl, hq, ht⟩ | ⟨rfl, hq⟩
    · exact ⟨fun z => absurd z (by decide), fun _ => ⟨Or.inl ⟨rfl, hq, _, rn_ln ht⟩, hc, hAA⟩⟩
    · exact ⟨fun _ => ⟨Or.inr ⟨rfl, fun t => t.2.elim (fun x hx => hq x hx)⟩, hc, hAA⟩, fun z => absurd rfl z⟩
  · refine ⟨fun _ => ⟨Or.inr ⟨rfl, fun t => ?_⟩, ChR.refl _ _ _, hA1'⟩, fun z => absurd rfl z⟩
    obtain ⟨k, hk1, hk2⟩ := hv
    exact hk2 (hall.mpr t.1 k hk1)
/-- while pieces are put together -/
def RcI (f p : Nat) (h : Nat → PF) (e : Nat → Nat) (cn : Nat) (I : TI) (L : TL) (r : PP) (er : Nat) : Prop := mdl L (f + 2) = p ∧ PcS p (f + 1) I L h e cn ∧ RowN I L (f + 57) (er + 1) ∧ pl L (f + 57) = r
theorem PcS.fr {p s a b cn : Nat} {h : Nat → PF} {e : Nat → Nat} {I' : TI} {L' : TL} (hp : PcS p s I L h e cn) (hf : Fr a b I I' L L') (hab : s + 54 ≤ a ∨ b ≤ s) : PcS p s I' L' h e cn := ⟨by rw [(hf s (by omega)).1]; exact hp.1, hp.2.1, fun j hj => by
  have : pc5 s j = s + 42 + 2 * j := rfl
  have := hp.2.1
  exact (hp.2.2 j hj).keep (hf _ (by omega)).1 (hf _ (by omega)).2⟩
set_option maxHeartbeats 4000000 in
theorem s_takeOut {f p cn M c er : Nat} {h : Nat → PF} {e : Nat → Nat} {a r : PP} {q : Nat → PP} {n : Nat → Nat} (hf : isX0 K f) (h5 : isX5 K (f + 1)) (hA5 : AX5 A (f + 1)) (ho : isX2 K (f + 69)) (hPA : PermA A (f + 69)) (hP : Pm p) (hp3 : 33554467 ≤ p) (hrc : RcI f p h e cn I L r er) (hmi : ∀ j, j < cn → MI p (e j) (h j)) (hse : sgm e cn ≤ 6) (hM : M < 64) (ha : sm7 a) (ha0 : a ≠ p0) (hra : dv r a) (hrp : prim r) (hr0 : 0 < r er) (hfl : FLs (f + 69) I L A c q n) (hc : c < 6) : ConI K yX0_takeOut wsX0_takeOut 4 116 I L A [.ref f, .int (nI M)] (fun v I' L' A' => ((v = 1 ∧ ∃ (g : PF) (qq : PP) (er' : Nat), fits p h cn r (fun i => M.testBit i) g ∧ posL g.1 ∧ Pf qq ∧ pm g.1 qq = r ∧ RcI f p h e cn I' L' qq er' ∧ FLs (f + 69) I' L' A (c + 1) (upN q c g.1) (upN n c 0)) ∨ (v = 0 ∧ ¬ (∃ g, fits p h cn r (fun i => M.testBit i) g) ∧ RcI f p h e cn I' L' r er ∧ FLs (f + 69) I' L' A c q n)) ∧ I' (f + 69) 3 = I (f + 69) 3 ∧ Fr (f + 57) (f + 84) I I' L L' ∧ A' = A) := by
  have hp1 := hP.1.1
  have hp2 := hP.2
  have hf' := hf
  obtain ⟨hf0, hx3, h55, h57, h59, h61, h63, h65, h67⟩ := hf'
  obtain ⟨hm, hpcs, nr, pr⟩ := hrc
  have hcn6 := hpcs.2.1
  have her13 := nr.1.2.1
  have hre : dgI r er := by rw [← pr]; exact nr.dg
  obtain ⟨w, hw, ew⟩ := hra
  have hra : dv r a := ⟨w, hw, ew⟩
  have hrbd := div_le hre.pf hw ha ha0 ew
  -- the lead of r is small
  have hrl : r er ≤ 300 := by
    have hw0 : w ≠ p0 := fun z => ha0 (by rw [← ew, z, pmc, pm_0l])
    obtain ⟨dw, hdw⟩ := hw.dg hw0
    obtain ⟨da, hda⟩ : ∃ da, dgI a da := (Pf.dg ⟨7, ha.1⟩ ha0)
    have hda' := hda
    rw [← ew] at hda'
    obtain ⟨e3, e4⟩ := dg_lead hre hdw hda'
    rw [ew] at e4
    have hb := ha.2 da
    rw [e4] at hb
    have hwn := hdw.1
    have hle : (r er).natAbs ≤ (r er * w dw).natAbs := by
      rw [Int.natAbs_mul]
      exact Nat.le_mul_of_pos_right _ (by omega)
    omega
  have hlp : ¬ (p : Int) ∣ r er := fun z => by have := Int.le_of_dvd hr0 z; omega
  apply w_X0_takeOut
  unfold wp_X0_takeOut
  refine ⟨hf0, h57.1, _, s_lead h57 nr.1.1 her13, ?_⟩
  rintro ld I1 L1 A1 ⟨hld, rfl, rfl, rfl⟩
  rw [if_neg (by omega), Nat.add_sub_cancel] at hld
  have hld' : ld.toInt = r er := by rw [hld, ← pl_lt (r := f + 57) (by omega), pr]
  refine ⟨h63.1, _, s_becomeNumber h63, ?_⟩
  rintro I2 L2 A2 ⟨r2, c2, rfl⟩
  have e2 : pl L2 (f + 63) = pk0 (r er) := by rw [rix_k r2, hld']
  obtain ⟨b, hb⟩ : ∃ b : Nat → Bool, b = fun i => M.testBit i := ⟨_, rfl⟩
  rw [← hb]
  unfold wp_X0_takeOut_16
  refine ⟨fun μ I' L' A' x => ∃ i, i + μ = cn ∧ x = nI i ∧ cg p (pl L' (f + 63)) (pc (r er) (msk h b i).1) ∧ rsd p (pl L' (f + 63)) ∧ dl (pl L' (f + 63)) (dsm e b i + 1) ∧ (∃ d', RowN I' L' (f + 63) d') ∧ ChR (fun y => y = f + 63 ∨ y = f + 67) I1 I' L1 L' ∧ A' = A2, cn, ⟨0, by omega, rfl, ?_, ?_, ?_, ⟨_, r2.rn⟩, c2.mono (fun y hy => Or.inl hy), rfl⟩, ?_⟩
  · rw [e2]
    have : pc (r er) (msk h b 0).1 = pk0 (r er) := funext fun k => by
      show r er * pk0 ((1 : Nat) : Int) k = pk0 (r er) k
      cases k with
      | zero => show r er * 1 = r er; omega
      | succ k => show r er * 0 = 0; simp
    rw [this]; exact cg.refl _ _
  · rw [e2]; intro k; cases k with
    | zero => exact ⟨by show 0 ≤ r er; omega, by show r er < p; omega⟩
    | succ k => exact ⟨Int.le_refl 0, by show (0 : Int) < p; omega⟩
  · rw [e2]; intro k hk
    have hk : 0 + 1 ≤ k := hk
    cases k with
    | zero => omega
    | succ k => rfl
  rintro μ C hC I3 L3 A3 _ ⟨i, hi, rfl, hcg, rC, dC, ⟨d3, n3⟩, c3, rfl⟩
  have f3 : Fr (f + 57) (f + 84) I1 I3 L1 L3 := c3.fab (fun r hr => by omega)
  have m3 : mdl L3 (f + 2) = p := by show (L3 (f + 2) 0).toInt = p; rw [(f3 (f + 2) (by omega)).2]; exact hm
  have hp93 : I3 (f + 1) 9 = nI cn := by rw [(f3 (f + 1) (by omega)).1]; exact hpcs.1
  have hpcs3 := hpcs.fr f3 (Or.inl (by omega))
  refine ⟨hf0, h5.1, fun z => ?_, fun z => ?_⟩
  rotate_left
  · -- one more piece
    rw [hp93, ile, tI (by omega), tI (by omega)] at z
    have hi6 : i < 6 := by omega
    have hpci := hpcs3.2.2 i (by omega)
    have hpk : pc5 (f + 1) i = f + 1 + 42 + 2 * i := rfl
    have hei : dsm e b i + e i ≤ 6 := by
      have h1 := dsm_le e b i
      have h2 := sgm_le e (i + 1) (cn - (i + 1))
      rw [show i + 1 + (cn - (i + 1)) = cn by omega, sgm] at h2
      omega
    refine ⟨fun w2 => ⟨h5.pca hi6 (tI (by omega)), h67.1, ?_⟩, fun w2 v hv => ?_⟩
    rotate_left
    · have hbi : ¬ b i = true := fun t => w2 ((ibit M hM i hi6).mpr (by rw [hb] at t; exact t))
      refine hC (μ - 1) _ _ _ _ (by omega) ⟨i + 1, by omega, by rw [hv, sI], ?_, rC, ?_, ⟨d3, n3⟩, c3, rfl⟩
      · rw [msk, if_neg hbi]; exact hcg
      · rw [dsm, if_neg hbi]; exact dC
    · have hbi : b i = true := by rw [hb]; exact (ibit M hM i hi6).mp w2
      rw [ixn (by omega), hA5.2.2 i hi6]
      have hrow := h5.pcr hi6
      refine ⟨_, s_becomeProduct (M := 67108864) (N := 67108864) h67 h63 hrow (by omega) (by omega) n3.1 hpci.1.1 (fun k => by have := rC k; omega) (fun k => by rw [hpci.2.1]; have := hpci.2.2.1 k; omega) (by decide), ?_⟩
      rintro I4 L4 A4 ⟨v4, t4, c4, rfl⟩
      have hdp : dl (pm (pl L3 (f + 63)) (h i).1) (dsm e b i + e i + 1) := pm_dl _ _ _ _ dC hpci.dg.2
      have p4 : pl L4 (f + 67) = pm (pl L3 (f + 63)) (h i).1 := funext fun k => by
        by_cases y : k < 13
        · rw [pl_lt y, v4 k y, hpci.2.1]
        · rw [hdp k (by omega)]; exact if_neg y
      have f4 : Fr (f + 57) (f + 84) I1 I4 L1 L4 := f3.trans (c4.fab (fun r hr => by omega))
      have m4 : mdl L4 (f + 2) = p := by show (L4 (f + 2) 0).toInt = p; rw [(f4 (f + 2) (by omega)).2]; exact hm
      refine ⟨hx3.1, _, s_reduce hx3.1 h63 h67 (fun z => by rw [j0] at z; unfold mdl at m4; omega), ?_⟩
      rintro I5 L5 A5 ⟨r5, c5, rfl⟩ v hv
      have hv5 := reduce_i (by rw [m4]; omega) (fun k => by
        rw [p4]
        have := pm_bd7 rC hpci.2.2.1 dC (by omega) hp2 k
        omega) r5
      rw [m4, p4] at hv5
      refine hC (μ - 1) _ _ _ _ (by omega) ⟨i + 1, by omega, by rw [hv, sI], ?_, rsd_of (by omega) hv5, ?_, ⟨_, r5.rn⟩, c3.trans ((c4.mono (fun y hy => Or.inr hy)).trans (c5.mono (fun y hy => Or.inl hy))), rfl⟩
      · rw [msk, if_pos hbi]
        refine (cg_of hv5).trans ((cg.mul_l _ hcg).trans ?_)
        have e6 : pm (pc (r er) (msk h b i).1) (h i).1 = pc (r er) (pm (msk h b i).1 (h i).1) := funext fun k => pm_c_l _ _ k _
        rw [e6]; exact cg.refl _ _
      · rw [dsm, if_pos hbi]
        intro k hk
        rw [hv5 k, hdp k hk]; simp
  -- all pieces are in
  rw [hp93, ile, tI (by omega), tI (by omega)] at z
  have : i = cn := by omega
  subst this
  have hmskm := msk_md hP.1 (b := b) hmi
  have hCm : md p (pc (r er) (msk h b i).1) (dsm e b i) := by
    have hk : md p (pk0 (r er)) 0 := ⟨hlp, fun k hk => by cases k with
      | zero => omega
      | succ k => exact Int.dvd_zero _⟩
    have h1 := hk.mul hP.1 hmskm
    rw [Nat.zero_add] at h1
    have e6 : pm (pk0 (r er)) (msk h b i).1 = pc (r er) (msk h b i).1 := funext fun k => pm_c0 _ _ k
    rw [e6] at h1; exact h1
  refine ⟨hx3.1, _, s_lift hx3.1 h61 h63 (by rw [m3]; omega) (by rw [m3]; omega) (fun k => by have := rC k; omega), ?_⟩
  rintro I4 L4 A4 ⟨v4, ⟨d4, n4⟩, c4, rfl⟩
  rw [m3] at v4
  have hCcg : cg p (pl L4 (f + 61)) (pc (r er) (msk h b i).1) := fun k => by
    have h1 := near_cg p (pl L3 (f + 63) k)
    rw [← v4 k] at h1
    have := Int.dvd_add h1 (hcg k)
    rwa [show ∀ x y z : Int, x - y + (y - z) = x - z from fun x y z => by omega] at this
  have hd4 : d4 ≠ 0 := fun z => by
    have h1 : pl L4 (f + 61) = p0 := funext fun k => n4.1.dl k (by omega)
    have h2 : al p (pc (r er) (msk h b i).1) := hCcg.symm.alof (fun k => by rw [h1]; exact Int.dvd_zero _)
    exact hCm.nal h2
  obtain ⟨eC, rfl⟩ : ∃ eC, d4 = eC + 1 := ⟨d4 - 1, by omega⟩
  have hCd : dgI (pl L4 (f + 61)) eC := n4.dg
  have f4 : Fr (f + 57) (f + 84) I1 I4 L1 L4 := f3.trans (c4.fab (fun r hr => by omega))
  refine ⟨h61.1, _, s_makePrimitive h61 n4.1 (fun k => by rw [v4 k]; have := near_bd (show 0 < p by omega) (pl L3 (f + 63) k); omega), ?_⟩
  rintro I5 L5 A5 ⟨v5, st5, c5, rfl⟩
  have hpp := pp_of hCd v5
  have hC0 : pl L4 (f + 61) ≠ p0 := hCd.ne
  obtain ⟨hsp, k0, ds, hk0, hCs, hsd, hspos⟩ : prim (pl L5 (f + 61)) ∧ ∃ c d, c ≠ 0 ∧ pl L4 (f + 61) = pc c (pl L5 (f + 61)) ∧ dgI (pl L5 (f + 61)) d ∧ 0 < pl L5 (f + 61) d := by
    rcases hpp with ⟨z, -⟩ | ⟨-, h2⟩
    · exact absurd z hC0
    · exact h2
  have hdse : ds = eC := by
    have h1 : dgI (pc k0 (pl L5 (f + 61))) ds := ⟨Int.mul_ne_zero hk0 hsd.1, fun k hk => by show k0 * _ = 0; rw [hsd.2 k hk]; simp⟩
    rw [← hCs] at h1
    exact h1.uniq hCd
  subst hdse
  have n5 : RowN I5 L5 (f + 61) (ds + 1) := ⟨st5, fun e' he => by rw [show e' = ds by omega]; exact hsd.1⟩
  have f5 : Fr (f + 57) (f + 84) I1 I5 L1 L5 := f4.trans (c5.fab (fun r hr => by omega))
  have c15 : ChR (fun y => y = f + 61 ∨ y = f + 63 ∨ y = f + 67) I1 I5 L1 L5 := (c3.mono (fun y hy => by omega)).trans ((c4.mono (fun y hy => by omega)).trans (c5.mono (fun y hy => by omega)))
  have pr5 : pl L5 (f + 57) = r := (pl_keep (c15.l (by omega))).trans pr
  have nr5 : RowN I5 L5 (f + 57) (er + 1) := nr.ch c15 (by omega)
  refine ⟨_, s_divides2 (MA := 33350) hf h61 h57 (by omega) (by omega) (by omega) (by omega) n5 nr5.1 (fun k => by rw [pr5]; have := hrbd.2 k; omega) (by omega), ?_⟩
  rintro v I6 L6 A6 ⟨hv6, c6, rfl⟩
  rw [pr5] at hv6
  have c16 : ChR (fun y => y = f + 61 ∨ y = f + 63 ∨ y = f + 65 ∨ y = f + 67) I1 I6 L1 L6 := (c15.mono (fun y hy => by omega)).trans (c6.mono (fun y hy => by omega))
  have f6 : Fr (f + 57) (f + 69) I1 I6 L1 L6 := c16.fab (fun r hr => by omega)
  have fl6 := hfl.fr hPA f6 (Or.inr (by omega))
  have hpc6 := hpcs.fr f6 (Or.inl (by omega))
  have m6 : mdl L6 (f + 2) = p := by show (L6 (f + 2) 0).toInt = p; rw [(f6 (f + 2) (by omega)).2]; exact hm
  have nr6 : RowN I6 L6 (f + 57) (er + 1) := nr.ch c16 (by omega)
  have pr6 : pl L6 (f + 57) = r := (pl_keep (c16.l (by omega))).trans pr
  have hfits : ∀ g, fits p h i r b g → posL g.1 → pl L5 (f + 61) = g.1 := fun g hg hpos => by
    obtain ⟨eg, hge, hgpos⟩ := hpos
    have hge' := hge
    have hgl : ¬ (p : Int) ∣ g.1 eg := fun z => by
      have := lead_dvd hg.2.1 hge hre
      exact hlp (Int.dvd_trans z this)
    obtain ⟨cc, hcc, hall⟩ := rec_lift hP.1 hp3 hmi ha ha0 hra hre hge hg hgl hcg
    have hc0 : 0 < cc := by
      rcases Int.lt_or_le 0 cc with t | t
      · exact t
      · have := Int.mul_nonpos_of_nonpos_of_nonneg t (show 0 ≤ g.1 eg by omega)
        omega
    have hCg : pl L4 (f + 61) = pc cc g.1 := funext fun k => by
      obtain ⟨y1, y2, y3⟩ := hall k
      rw [v4 k]
      exact near_small (by omega) y1 y2 y3
    have hdd : eg = ds := by
      have h1 : dgI (pc cc g.1) eg := ⟨Int.mul_ne_zero (by omega) hge.1, fun k hk => by show cc * _ = 0; rw [hge.2 k hk]; simp⟩
      rw [← hCg] at h1
      exact h1.uniq hCd
    subst hdd
    exact prim_of hc0 hg.1 hge hgpos hCg v5
  have hpos : ∀ g, fits p h i r b g → ∃ g', fits p h i r b g' ∧ posL g'.1 := fun g hg => by
    obtain ⟨q1, hq1, eq1⟩ := hg.2.1
    have hg0 : g.1 ≠ p0 := fun z => hre.ne (by rw [← eq1, z, pm_0l])
    obtain ⟨eg, hge⟩ := g.2.dg hg0
    rcases Int.lt_or_le 0 (g.1 eg) with t | t
    · exact ⟨g, hg, eg, hge, t⟩
    · have hn : g.1 eg < 0 := by have := hge.1; omega
      obtain ⟨v0, hv0, hz0⟩ := hg.2.2
      refine ⟨⟨pc (-1) g.1, g.2.c _⟩, ⟨fun l hl hal => hg.1 l hl (fun k => ?_), ⟨pc (-1) q1, hq1.c _, ?_⟩, -v0, fun z => hv0 (Int.dvd_neg.mp z), fun k => ?_⟩, eg, ⟨by show -1 * _ ≠ 0; omega, fun k hk => by show -1 * _ = 0; rw [hge.2 k hk]; rfl⟩, by show 0 < -1 * _; omega⟩
      · have := hal k
        have h1 : l ∣ -1 * g.1 k := this
        rw [show -1 * g.1 k = -(g.1 k) by omega] at h1
        exact Int.dvd_neg.mp h1
      · funext k
        rw [pm_c_l, pm_c_r, eq1]; omega
      · have h1 : (p : Int) ∣ g.1 k + -1 * pm (pk0 v0) (msk h b i).1 k := hz0 k
        show (p : Int) ∣ -1 * g.1 k + -1 * pm (pk0 (-v0)) (msk h b i).1 k
        rw [pm_c0] at h1 ⊢
        have := Int.dvd_neg.mpr h1
        rwa [show -(g.1 k + -1 * (v0 * (msk h b i).1 k)) = -1 * g.1 k + -1 * (-v0 * (msk h b i).1 k) by have := Int.neg_mul v0 ((msk h b i).1 k); omega] at this
  have f684 : Fr (f + 57) (f + 84) I1 I6 L1 L6 := f6.mono (by omega) (by omega)
  refine ⟨fun z2 => ?_, fun z2 => ?_⟩
  · have hno := hv6.resolve_left (fun t => by rw [t.1] at z2; exact absurd z2 (by decide))
    refine ⟨Or.inr ⟨rfl, fun ⟨g, hg⟩ => ?_, ⟨m6, hpc6, nr6, pr6⟩, fl6⟩, by rw [(f6 (f + 69) (by omega)).1], f684, rfl⟩
    obtain ⟨g', hg', hp'⟩ := hpos g hg
    have e7 := hfits g' hg' hp'
    obtain ⟨q1, hq1, eq1⟩ := hg'.2.1
    apply hno.2
    rw [e7]
    have b1 : pm g'.1 (pm q1 w) = a := by rw [← pma, eq1, ew]
    have b2 : pm q1 (pm g'.1 w) = a := by rw [← pma, pmc q1, eq1, ew]
    have d1 := div_le g'.2 (hq1.mul hw) ha ha0 b1
    have d2 := div_le hq1 (g'.2.mul hw) ha ha0 b2
    exact ⟨fun k => by have := d1.2 k; omega, q1, hq1, eq1, fun k => by have := d2.2 k; omega⟩
  · have hyes := (hv6.resolve_right (fun t => z2 t.1)).2
    obtain ⟨⟨hqp, hqe, hqb⟩, d6, n65⟩ := hyes
    have hsfit : fits p h i r b (plF L5 (f + 61)) := rec_true hP.1 hmi hlp hCcg hCs hsp ⟨_, hqp, hqe⟩
    have n61 : RowN I6 L6 (f + 61) (ds + 1) := n5.ch c6 (by omega)
    have p61 : pl L6 (f + 61) = pl L5 (f + 61) := pl_keep (c6.l (by omega))
    refine ⟨ho.1, _, s_append ho hPA h61 (by omega) fl6 hc n61, ?_⟩
    rintro I7 L7 A7 ⟨fl7, h37, f7, rfl⟩
    refine ⟨h57.1, _, s_become h57 h65, ?_⟩
    rintro I8 L8 A8 ⟨e8, e8', rfl⟩
    have c8 : ChR (· = f + 57) I7 I8 L7 L8 := by rw [e8, e8']; exact become_ch
    have f8 : Fr (f + 57) (f + 69) I7 I8 L7 L8 := c8.fab (fun r hr => by omega)
    have p87 : pl L8 (f + 57) = pl L6 (f + 65) := by
      have : pl L8 (f + 57) = pl L7 (f + 65) := by unfold pl; rw [e8', us_self]
      rw [this, fr_pl f7 (Or.inl (by omega))]
    have hq0 : pl L6 (f + 65) ≠ p0 := fun z => hre.ne (by rw [← hqe, z, pmc, pm_0l])
    have hd6 : d6 ≠ 0 := fun z => hq0 (funext fun k => n65.1.dl k (by omega))
    obtain ⟨er', rfl⟩ : ∃ er', d6 = er' + 1 := ⟨d6 - 1, by omega⟩
    have n75 : RowN I7 L7 (f + 65) (er' + 1) := n65.fr f7 (Or.inl (by omega))
    have n87 : RowN I8 L8 (f + 57) (er' + 1) := ⟨⟨by rw [e8, u2_self]; exact n75.1.1, n75.1.2.1, fun j h3 h4 => by rw [e8', us_self]; exact n75.1.2.2 j h3 h4⟩, fun e' he => by rw [p87]; exact n65.2 e' he⟩
    have f78 : Fr (f + 57) (f + 84) I6 I8 L6 L8 := (f7.mono (by omega) (by omega)).trans (f8.mono (by omega) (by omega))
    have f18 := f684.trans f78
    refine ⟨Or.inl ⟨rfl, plF L5 (f + 61), pl L6 (f + 65), er', hsfit, ⟨ds, hsd, hspos⟩, hqp, hqe, ⟨?_, hpcs.fr f18 (Or.inl (by omega)), n87, p87⟩, ?_⟩, ?_, f18, rfl⟩
    · show (L8 (f + 2) 0).toInt = p
      rw [(f18 (f + 2) (by omega)).2]; exact hm
    · have := fl7.fr hPA f8 (Or.inr (by omega))
      rw [p61] at this
      exact this
    · rw [(f8 (f + 69) (by omega)).1, h37, (f6 (f + 69) (by omega)).1]
end
