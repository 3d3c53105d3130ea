/-! THE LAW's loop over the store -/
set_option maxHeartbeats 4000000 in
set_option maxRecDepth 100000 in
theorem law_loop {p : Program} {K : Cx} {e : Env} {s : State} {m : MethodId} {below : List Frame} {meth : Method} {c : Code} (hst : (cxl K).stackTraces = false) (hK : CxOk K) {sb b N : Nat} {xs : Nat → Int32} (C0 : lw_At p s m meth c sb N xs) (hbs : cxb K = s.heap.size) (hB : ShB K b) (hN : N ≤ 3072) : ∀ (f t : Nat) (I : TI) (L : TL) (A : TA) (H : Heap) (locs : List Loc) (ls : Array Slot), t + f = 513 → Gd b I L A → SS K s I L A H locs → lv_has ls 7 [(4, .int (nI (6 * t))), (3, .ref (b + 133)), (2, .ref (b + 124)), (1, .ref b), (0, .ref sb)] → W p (cxl K) e room_1 s m #[Value.ref sb] below meth c H locs (200 + t) (3000 + 6 * t) (lw_Z below #[Value.ref sb] s) (F0 m 23 ls []) := by
  obtain ⟨hx, hb, hret, hml, hown, hts0, hX, hbl, hlocks, hgv⟩ := id C0
  have hbA : ¬ PA (cxb K) sb := by show ¬ cxb K ≤ sb; omega
  have out1 : ∀ (H : Heap) (locs : List Loc) (ls : Array Slot) (k1 k2 : Nat), k1 ≤ 601024 → k2 ≤ 7293034 → va_S (PA (cxb K)) s.heap H locs → W p (cxl K) e room_1 s m #[Value.ref sb] below meth c H locs k1 k2 (lw_Z below #[Value.ref sb] s) (F0 m 959 ls []) := by
    intro H locs ls k1 k2 g1 g2 hS
    refine lv_iconst (v := 1) hx hb dL_law_959 (by decide) ?_
    refine va_forget (fun q hq => by have := hS.2.2 q hq; rw [← hbs]; exact this) ?_
    refine W.widen (k := 601024) (n := 7293034) g1 g2 ?_
    exact lw_ret hx hb hret hlocks dL_law_960
  have h6 : (6 : Int32).toInt = 6 := rfl
  have hcmp : ∀ t, t ≤ 513 → (Int32.ofNat N - 6 < nI (6 * t) ↔ ¬ 6 * t + 6 ≤ N) := fun t ht => by
    have hNt : (Int32.ofNat N).toInt = (N : Int) := tI (show N < 2147483648 by omega)
    rw [ilt, isub (by rw [hNt, h6]; omega) (by rw [hNt, h6]; omega), hNt, h6, tI (by omega)]
    omega
  intro f
  induction f with
  | zero =>
    intro t I L A H locs ls htf hG hz hl
    refine lv_iload hx hb dL_law_23 (lv_at hl 0 rfl) ?_
    refine lv_aload_n hx hb dL_law_25 rfl (lv_at hl 4 rfl) ?_
    refine va_slen hx hb hX hbl hbA hz.2.1 dL_law_26 ?_
    refine lv_bipush (v := 6) hx hb dL_law_27 (by decide) ?_
    refine lv_isub hx hb dL_law_29 ?_
    refine lv_icmp_gt (tgt := 959) hx hb dL_law_30 (by decide) (fun _ => ?_) (fun q => ?_)
    · exact out1 H locs ls _ _ (by omega) (by omega) hz.2.1
    · exact absurd ((hcmp t (by omega)).mpr (by omega)) q
  | succ f ih =>
    intro t I L A H locs ls htf hG hz hl
    refine lv_iload hx hb dL_law_23 (lv_at hl 0 rfl) ?_
    refine lv_aload_n hx hb dL_law_25 rfl (lv_at hl 4 rfl) ?_
    refine va_slen hx hb hX hbl hbA hz.2.1 dL_law_26 ?_
    refine lv_bipush (v := 6) hx hb dL_law_27 (by decide) ?_
    refine lv_isub hx hb dL_law_29 ?_
    refine lv_icmp_gt (tgt := 959) hx hb dL_law_30 (by decide) (fun _ => ?_) (fun q => ?_)
    · exact out1 H locs ls _ _ (by omega) (by omega) hz.2.1
    have hi : 6 * t + 6 ≤ N := Decidable.of_not_not (fun w => q ((hcmp t (by omega)).mpr w))
    clear q
    have fin : ∀ (I : TI) (L : TL) (A : TA) (H : Heap) (locs : List Loc) (ls : Array Slot), Gd b I L A → SS K s I L A H locs → lv_has ls 7 [(4, .int (nI (6 * t))), (3, .ref (b + 133)), (2, .ref (b + 124)), (1, .ref b), (0, .ref sb)] → W p (cxl K) e room_1 s m #[Value.ref sb] below meth c H locs (200 + t + 1) (3000 + 6 * t + 6) (lw_Z below #[Value.ref sb] s) (F0 m 953 ls []) := by
      intro I L A H locs ls hG hz hl
      refine lv_iinc (v := nI (6 * (t + 1))) (lv' := [(4, .int (nI (6 * (t + 1)))), (3, .ref (b + 133)), (2, .ref (b + 124)), (1, .ref b), (0, .ref sb)]) hx hb dL_law_953 hl (k := 0) rfl (by show nI (6 * t) + nI 6 = _; rw [nI_add]; rfl) (by decide) rfl (fun ls hl => ?_)
      refine lv_goto (tgt := 23) hx hb dL_law_956 (by decide) ?_
      refine W.widen (k := 200 + (t + 1)) (n := 3000 + 6 * (t + 1)) (by omega) (by omega) ?_
      exact ih (t + 1) I L A H locs ls (by omega) hG hz hl
    refine lv_aload_n hx hb dL_law_33 rfl (lv_at hl 4 rfl) ?_
    refine lv_iload hx hb dL_law_34 (lv_at hl 0 rfl) ?_
    refine va_sld hx hb hX hbl hbA hz.2.1 (vp_in_nI (by omega) (by omega)) dL_law_36 ?_
    refine lv_bipush (v := 15) hx hb dL_law_37 (by decide) ?_
    refine lv_iand hx hb dL_law_39 ?_
    obtain ⟨w, hw, ew⟩ := pk_andE (xs (Int32.toNatClampNeg (nI (6 * t)))) (m := 15) 4 (by decide)
    rw [ew]
    rcases (show w = 0 ∨ w = 1 ∨ w = 2 ∨ w = 3 ∨ w = 4 ∨ w = 5 ∨ w = 6 ∨ w = 7 ∨ w = 8 ∨ w = 9 ∨ w = 10 ∨ w = 11 ∨ w = 12 ∨ w = 13 ∨ w = 14 ∨ w = 15 by omega) with rfl | rfl | rfl | rfl | rfl | rfl | rfl | rfl | rfl | rfl | rfl | rfl | rfl | rfl | rfl | rfl
    · refine lv_tableIn (off := 72) (tgt := 112) hx hb dL_law_40 (by decide +kernel) (by decide +kernel) (by decide +kernel) (by decide) ?_
      exact law_set hst hK C0 hbs hB.1.1.1 hB.2.1.1 hB.2.2 (by omega) hN (by omega) (by omega) hz (j_set hB hG) hl fin
    · refine lv_tableIn (off := 152) (tgt := 192) hx hb dL_law_40 (by decide +kernel) (by decide +kernel) (by decide +kernel) (by decide) ?_
      exact law_get hst hK C0 hbs hB.1.1.1 hB.2.1.1 hB.2.2 (by omega) hN (by omega) (by omega) hz (j_get hB hG) hl fin
    · refine lv_tableIn (off := 220) (tgt := 260) hx hb dL_law_40 (by decide +kernel) (by decide +kernel) (by decide +kernel) (by decide) ?_
      exact law_add hst hK C0 hbs hB.1.1.1 hB.2.1.1 hB.2.2 (by omega) hN (by omega) (by omega) hz (j_add hB hG) hl fin
    · refine lv_tableIn (off := 324) (tgt := 364) hx hb dL_law_40 (by decide +kernel) (by decide +kernel) (by decide +kernel) (by decide) ?_
      exact law_multiply hst hK C0 hbs hB.1.1.1 hB.2.1.1 hB.2.2 (by omega) hN (by omega) (by omega) hz (j_multiply hB hG) hl fin
    · refine lv_tableIn (off := 404) (tgt := 444) hx hb dL_law_40 (by decide +kernel) (by decide +kernel) (by decide +kernel) (by decide) ?_
      exact law_derive hst hK C0 hbs hB.1.1.1 hB.2.1.1 hB.2.2 (by omega) hN (by omega) (by omega) hz (j_derive hB hG) hl fin
    · refine lv_tableIn (off := 472) (tgt := 512) hx hb dL_law_40 (by decide +kernel) (by decide +kernel) (by decide +kernel) (by decide) ?_
      exact law_divide hst hK C0 hbs hB.1.1.1 hB.2.1.1 hB.2.2 (by omega) hN (by omega) (by omega) hz (j_divide hB hG) hl fin
    · refine lv_tableIn (off := 552) (tgt := 592) hx hb dL_law_40 (by decide +kernel) (by decide +kernel) (by decide +kernel) (by decide) ?_
      exact law_common hst hK C0 hbs hB.1.1.1 hB.2.1.1 hB.2.2 (by omega) hN (by omega) (by omega) hz (j_common hB hG) hl fin
    · refine lv_tableIn (off := 632) (tgt := 672) hx hb dL_law_40 (by decide +kernel) (by decide +kernel) (by decide +kernel) (by decide) ?_
      exact law_parts hst hK C0 hbs hB.1.1.1 hB.2.1.1 hB.2.2 (by omega) hN (by omega) (by omega) hz (j_parts hB hG) hl fin
    · refine lv_tableIn (off := 688) (tgt := 728) hx hb dL_law_40 (by decide +kernel) (by decide +kernel) (by decide +kernel) (by decide) ?_
      exact law_part hst hK C0 hbs hB.1.1.1 hB.2.1.1 hB.2.2 (by omega) hN (by omega) (by omega) hz (j_part hB hG) hl fin
    · refine lv_tableIn (off := 726) (tgt := 766) hx hb dL_law_40 (by decide +kernel) (by decide +kernel) (by decide +kernel) (by decide) ?_
      exact law_times hst hK C0 hbs hB.1.1.1 hB.2.1.1 hB.2.2 (by omega) hN (by omega) (by omega) hz (j_times hB hG) hl fin
    · refine lv_tableIn (off := 751) (tgt := 791) hx hb dL_law_40 (by decide +kernel) (by decide +kernel) (by decide +kernel) (by decide) ?_
      exact law_content hst hK C0 hbs hB.1.1.1 hB.2.1.1 hB.2.2 (by omega) hN (by omega) (by omega) hz (j_content hB hG) hl fin
    · refine lv_tableIn (off := 764) (tgt := 804) hx hb dL_law_40 (by decide +kernel) (by decide +kernel) (by decide +kernel) (by decide) ?_
      exact law_pattern hst hK C0 hbs hB.1.1.1 hB.2.1.1 hB.2.2 (by omega) hN (by omega) (by omega) hz (j_pattern hB hG) hl fin
    · refine lv_tableIn (off := 832) (tgt := 872) hx hb dL_law_40 (by decide +kernel) (by decide +kernel) (by decide +kernel) (by decide) ?_
      exact law_degree hst hK C0 hbs hB.1.1.1 hB.2.1.1 hB.2.2 (by omega) hN (by omega) (by omega) hz (j_degree hB hG) hl fin
    · refine lv_tableIn (off := 857) (tgt := 897) hx hb dL_law_40 (by decide +kernel) (by decide +kernel) (by decide +kernel) (by decide) ?_
      exact law_galois hst hK C0 hbs hB.1.1.1 hB.2.1.1 hB.2.2 (by omega) hN (by omega) (by omega) hz (j_galois hB hG) hl fin
    · refine lv_tableOut (tgt := 953) hx hb dL_law_40 (Or.inr (by decide +kernel)) (by decide) ?_
      refine W.widen (k := 200 + t + 1) (n := 3000 + 6 * t + 6) (by omega) (by omega) ?_
      exact fin _ _ _ H locs ls hG hz hl
    · refine lv_tableOut (tgt := 953) hx hb dL_law_40 (Or.inr (by decide +kernel)) (by decide) ?_
      refine W.widen (k := 200 + t + 1) (n := 3000 + 6 * t + 6) (by omega) (by omega) ?_
      exact fin _ _ _ H locs ls hG hz hl
