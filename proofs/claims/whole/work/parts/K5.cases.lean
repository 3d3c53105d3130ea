/-! THE LAW's cases over the store: what both sides answer is taken from JT / JP. -/
section
variable {p : Program} {l : Launch} {e : Env} {R : Room} {s : State} {m : MethodId} {args : Array Value} {below : List Frame} {meth : Method} {c : Code} {H : Heap} {locs : List Loc} {cells slots : Nat} {Q : State → Prop}
variable {pc : Nat} {ls : Array Slot} {rest : List Value} {D : va_G} {cl : List vw_C} {tys : List (ClassId × FieldType)} {b n : Nat} {E : Nat → va_E}
theorem pw_callim {post : Int32 → (Nat → va_E) → Prop} {st0 : List Value} {av : Array Value} {mc ms : Nat} (hz : PS D cl tys b n s E H locs) (hr : va_Run p l e R s m args below meth c H locs cells slots mc ms (F0 m pc ls st0) rest (cQi D cl tys b n post av) (PA b))
    (kk : ∀ (r : Int32) (E' : Nat → va_E) (H1 : Heap) (locs1 : List Loc), post r E' → PS D cl tys b n s E' H1 locs1 → W p l e R s m args below meth c H1 locs1 (cells + mc) (slots + ms) Q (F0 m (pc + 3) ls (.int r :: rest))) : W p l e R s m args below meth c H locs cells slots Q (F0 m pc ls st0) :=
  va_calli hr hz.2.1 (fun _ _ h => h) (fun _ h => h) (fun r u t H1 locs1 ht _ hp hB _ _ hS => kk r u H1 locs1 hp (hz.call (by rw [← ht]; exact hB.1) hS))
end
theorem m_thrown {K : Cx} {I : TI} {L : TL} {A : TA} {m : Nat} (hm : cxS K m = shX7 m) : ConI K yX7_thrown wsX7_thrown 0 0 I L A [.ref m] (fun v I' L' A' => v = I m 0 ∧ I' = I ∧ L' = L ∧ A' = A) := by
  apply w_X7_thrown
  unfold wp_X7_thrown
  exact ⟨hm, rfl, rfl, rfl, rfl⟩

set_option maxHeartbeats 1000000 in
set_option maxRecDepth 100000 in
theorem law_set {p : Program} {K : Cx} {e : Env} {s : State} {m : MethodId} {below : List Frame} {meth : Method} {c : Code} (hst : (cxl K).stackTraces = false) (hK : CxOk K) {sb b N : Nat} {xs : Nat → Int32} (C0 : lw_At p s m meth c sb N xs) (hbs : cxb K = s.heap.size) (hx0 : cxS K b = shX6 b) (hm0 : cxS K (b + 124) = shX7 (b + 124)) (ho : cxS K (b + 133) = .inr (1, 1)) {I : TI} {L : TL} {A : TA} {H : Heap} {locs : List Loc} {ls : Array Slot} {i n1 n2 : Nat} (hi : i + 6 ≤ N) (hN : N ≤ 3072) (hn1 : n1 ≤ 600000) (hn2 : n2 ≤ 7000000) (hz : SS K s I L A H locs) {G : TI → TL → TA → Prop} (hj : ∀ a1 a2 a3 : Int32, JT K b (oS a1 ∧ oK a2 ∧ oW a3 300) yX6_set wsX6_set 2 61 yX7_set wsX7_set 1 22 [.int a1, .int a2, .int a3] I L A G) (hl : lv_has ls 7 [(4, .int (nI i)), (3, .ref (b + 133)), (2, .ref (b + 124)), (1, .ref b), (0, .ref sb)])
    (fin : ∀ (I : TI) (L : TL) (A : TA) (H : Heap) (locs : List Loc) (ls : Array Slot), G I L A → SS K s I L A H locs → lv_has ls 7 [(4, .int (nI i)), (3, .ref (b + 133)), (2, .ref (b + 124)), (1, .ref b), (0, .ref sb)] → W p (cxl K) e room_1 s m #[Value.ref sb] below meth c H locs (n1 + 1) (n2 + 6) (lw_Z below #[Value.ref sb] s) (F0 m 953 ls [])) : W p (cxl K) e room_1 s m #[Value.ref sb] below meth c H locs n1 n2 (lw_Z below #[Value.ref sb] s) (F0 m 112 ls []) := by
  obtain ⟨hx, hb, -, hml, hown, hts0, hX, hbl, hlocks, hgv⟩ := C0
  have hts : ∀ w ∈ wsL_law, w.before #[Value.ref sb] s = true := fun w h => hts0 w (wsL_law_in w h)
  have hbA : ¬ PA (cxb K) sb := by show ¬ cxb K ≤ sb; omega
  have hin : ∀ k, k < 6 → vp_in (nI i + nI k) N := fun k hk => by rw [nI_add]; exact vp_in_nI (by omega) (by omega)
  obtain ⟨a1, ha1⟩ : ∃ z, z = (xs (Int32.toNatClampNeg (nI i + 1))) := ⟨_, rfl⟩
  obtain ⟨a2, ha2⟩ : ∃ z, z = (xs (Int32.toNatClampNeg (nI i + 2))) := ⟨_, rfl⟩
  obtain ⟨a3, ha3⟩ : ∃ z, z = (xs (Int32.toNatClampNeg (nI i + 3))) := ⟨_, rfl⟩
  obtain ⟨S, hS, hj⟩ := hj a1 a2 a3
  refine lv_aload_n hx hb dL_law_112 rfl (lv_at hl 3 rfl) ?_
  refine lv_aload_n hx hb dL_law_113 rfl (lv_at hl 4 rfl) ?_
  refine lv_iload hx hb dL_law_114 (lv_at hl 0 rfl) ?_
  refine lv_iconst (v := 1) hx hb dL_law_116 (by decide) ?_
  refine lv_iadd hx hb dL_law_117 ?_
  refine va_sld hx hb hX hbl hbA hz.2.1 (hin 1 (by decide)) dL_law_118 ?_
  rw [← ha1]
  refine lv_aload_n hx hb dL_law_119 rfl (lv_at hl 4 rfl) ?_
  refine lv_iload hx hb dL_law_120 (lv_at hl 0 rfl) ?_
  refine lv_iconst (v := 2) hx hb dL_law_122 (by decide) ?_
  refine lv_iadd hx hb dL_law_123 ?_
  refine va_sld hx hb hX hbl hbA hz.2.1 (hin 2 (by decide)) dL_law_124 ?_
  rw [← ha2]
  refine lv_aload_n hx hb dL_law_125 rfl (lv_at hl 4 rfl) ?_
  refine lv_iload hx hb dL_law_126 (lv_at hl 0 rfl) ?_
  refine lv_iconst (v := 3) hx hb dL_law_128 (by decide) ?_
  refine lv_iadd hx hb dL_law_129 ?_
  refine va_sld hx hb hX hbl hbA hz.2.1 (hin 3 (by decide)) dL_law_130 ?_
  rw [← ha3]
  refine lv_aload_n hx hb dL_law_131 rfl (lv_at hl 1 rfl) ?_
  refine pw_callim hz (vx_runSW (As := [.ref b, .int a1, .int a2, .int a3, .ref (b + 133)]) (rest := []) ⟨hx, hb, hml, hown, hts⟩ (h_set hst hx0 ho hS hK _) (vx_cwSW 5 hts gL_law_L_set rfl rfl rfl (by decide +kernel) ⟨Nat.le_of_ble_eq_true rfl, Nat.le_of_ble_eq_true rfl⟩) hz.preS rfl rfl hl.1 rfl (lv_room (Nat.le_of_ble_eq_true rfl)) dL_law_132 ⟨by show n1 + 1 ≤ 601024; omega, by show n2 + 6 ≤ 7293034; omega⟩) (fun r1 E1 H locs hp hz => ?_)
  obtain ⟨I1, L1, A1, rfl, hp⟩ := hp
  have hz : SS K s I1 L1 A1 H locs := hz
  obtain ⟨Q2, hQ2, hj⟩ := hj _ _ _ _ hp
  refine lv_istore (lv' := [(5, .int r1), (4, .int (nI i)), (3, .ref (b + 133)), (2, .ref (b + 124)), (1, .ref b), (0, .ref sb)]) hx hb dL_law_135 hl (by decide) rfl (fun ls hl => ?_)
  refine lv_aload_n hx hb dL_law_137 rfl (lv_at hl 3 rfl) ?_
  refine lv_aload_n hx hb dL_law_138 rfl (lv_at hl 5 rfl) ?_
  refine lv_iload hx hb dL_law_139 (lv_at hl 1 rfl) ?_
  refine lv_iconst (v := 1) hx hb dL_law_141 (by decide) ?_
  refine lv_iadd hx hb dL_law_142 ?_
  refine va_sld hx hb hX hbl hbA hz.2.1 (hin 1 (by decide)) dL_law_143 ?_
  rw [← ha1]
  refine lv_aload_n hx hb dL_law_144 rfl (lv_at hl 5 rfl) ?_
  refine lv_iload hx hb dL_law_145 (lv_at hl 1 rfl) ?_
  refine lv_iconst (v := 2) hx hb dL_law_147 (by decide) ?_
  refine lv_iadd hx hb dL_law_148 ?_
  refine va_sld hx hb hX hbl hbA hz.2.1 (hin 2 (by decide)) dL_law_149 ?_
  rw [← ha2]
  refine lv_aload_n hx hb dL_law_150 rfl (lv_at hl 5 rfl) ?_
  refine lv_iload hx hb dL_law_151 (lv_at hl 1 rfl) ?_
  refine lv_iconst (v := 3) hx hb dL_law_153 (by decide) ?_
  refine lv_iadd hx hb dL_law_154 ?_
  refine va_sld hx hb hX hbl hbA hz.2.1 (hin 3 (by decide)) dL_law_155 ?_
  rw [← ha3]
  refine sw_calli hz (va_runV (As := [.int a1, .int a2, .int a3]) (rest := []) ⟨hx, hb, hml, hown, hts⟩ (hQ2 hK _) (cwV 3 hts gL_law_X7_set rfl rfl rfl (by decide +kernel) ⟨Nat.le_of_ble_eq_true rfl, Nat.le_of_ble_eq_true rfl⟩) (hz.preV hK hm0 rfl) rfl rfl hl.1 rfl (lv_room (Nat.le_of_ble_eq_true rfl)) dL_law_156 ⟨by show n1 + 1 + 0 ≤ 601024; omega, by show n2 + 6 + 0 ≤ 7293034; omega⟩) (fun r2 I2 L2 A2 H locs hp hz => ?_)
  obtain ⟨hG, hth, hout⟩ := hj _ _ _ _ hp
  refine lv_istore (lv' := [(6, .int r2), (5, .int r1), (4, .int (nI i)), (3, .ref (b + 133)), (2, .ref (b + 124)), (1, .ref b), (0, .ref sb)]) hx hb dL_law_159 hl (by decide) rfl (fun ls hl => ?_)
  refine lv_aload_n hx hb dL_law_161 rfl (lv_at hl 4 rfl) ?_
  refine sw_calli hz (va_runV (As := []) (rest := []) ⟨hx, hb, hml, hown, hts⟩ (m_thrown hm0 hK _) (cwV 0 hts gL_law_X7_thrown rfl rfl rfl (by decide +kernel) ⟨Nat.le_of_ble_eq_true rfl, Nat.le_of_ble_eq_true rfl⟩) (hz.preV hK hm0 rfl) rfl rfl hl.1 rfl (lv_room (Nat.le_of_ble_eq_true rfl)) dL_law_162 ⟨by show n1 + 1 + 0 ≤ 601024; omega, by show n2 + 6 + 0 ≤ 7293034; omega⟩) (fun r3 I3 L3 A3 H locs hp hz => ?_)
  have hz9 := hz
  obtain ⟨e3, rfl, rfl, rfl⟩ := hp
  clear hz
  have hz := hz9
  rw [hth] at e3
  subst e3
  refine lv_iload hx hb dL_law_165 (lv_at hl 1 rfl) ?_
  refine lv_icmp_eq (tgt := 172) hx hb dL_law_167 (by decide) (fun _ => ?_) (fun qw => ?_)
  rotate_left
  · exact absurd rfl qw
  refine lv_iload hx hb dL_law_172 (lv_at hl 1 rfl) ?_
  refine lv_if_ne (tgt := 189) hx hb dL_law_174 (by decide) (fun qw => ?_) (fun qw => ?_)
  · skip
    refine lv_goto (tgt := 953) hx hb dL_law_189 (by decide) ?_
    exact fin _ _ _ H locs ls hG hz (lv_sub hl [2, 3, 4, 5, 6] rfl)
  refine lv_aload_n hx hb dL_law_177 rfl (lv_at hl 3 rfl) ?_
  refine lv_iconst (v := 0) hx hb dL_law_178 (by decide) ?_
  refine sw_lald hx hb hK hz ⟨1, ho, by exact vp_in_nI (n := 0) (by decide) (by decide)⟩ dL_law_179 ?_
  refine lv_iload hx hb dL_law_180 (lv_at hl 0 rfl) ?_
  refine lv_i2l hx hb dL_law_182 rfl ?_
  refine W.lcmp hx hb dL_law_183 ?_
  refine lv_if_eq (tgt := 189) hx hb dL_law_184 (by decide) (fun _ => ?_) (fun qz => ?_)
  rotate_left
  · exact absurd ((lg_cmp_eq _ _).mpr (by rw [ix0]; exact hout qw)) qz
  refine lv_goto (tgt := 953) hx hb dL_law_189 (by decide) ?_
  exact fin _ _ _ H locs ls hG hz (lv_sub hl [2, 3, 4, 5, 6] rfl)

set_option maxHeartbeats 1000000 in
set_option maxRecDepth 100000 in
theorem law_get {p : Program} {K : Cx} {e : Env} {s : State} {m : MethodId} {below : List Frame} {meth : Method} {c : Code} (hst : (cxl K).stackTraces = false) (hK : CxOk K) {sb b N : Nat} {xs : Nat → Int32} (C0 : lw_At p s m meth c sb N xs) (hbs : cxb K = s.heap.size) (hx0 : cxS K b = shX6 b) (hm0 : cxS K (b + 124) = shX7 (b + 124)) (ho : cxS K (b + 133) = .inr (1, 1)) {I : TI} {L : TL} {A : TA} {H : Heap} {locs : List Loc} {ls : Array Slot} {i n1 n2 : Nat} (hi : i + 6 ≤ N) (hN : N ≤ 3072) (hn1 : n1 ≤ 600000) (hn2 : n2 ≤ 7000000) (hz : SS K s I L A H locs) {G : TI → TL → TA → Prop} (hj : ∀ a1 a2 : Int32, JT K b (oS a1 ∧ oK a2) yX6_get wsX6_get 2 60 yX7_get wsX7_get 1 22 [.int a1, .int a2] I L A G) (hl : lv_has ls 7 [(4, .int (nI i)), (3, .ref (b + 133)), (2, .ref (b + 124)), (1, .ref b), (0, .ref sb)])
    (fin : ∀ (I : TI) (L : TL) (A : TA) (H : Heap) (locs : List Loc) (ls : Array Slot), G I L A → SS K s I L A H locs → lv_has ls 7 [(4, .int (nI i)), (3, .ref (b + 133)), (2, .ref (b + 124)), (1, .ref b), (0, .ref sb)] → W p (cxl K) e room_1 s m #[Value.ref sb] below meth c H locs (n1 + 1) (n2 + 6) (lw_Z below #[Value.ref sb] s) (F0 m 953 ls [])) : W p (cxl K) e room_1 s m #[Value.ref sb] below meth c H locs n1 n2 (lw_Z below #[Value.ref sb] s) (F0 m 192 ls []) := by
  obtain ⟨hx, hb, -, hml, hown, hts0, hX, hbl, hlocks, hgv⟩ := C0
  have hts : ∀ w ∈ wsL_law, w.before #[Value.ref sb] s = true := fun w h => hts0 w (wsL_law_in w h)
  have hbA : ¬ PA (cxb K) sb := by show ¬ cxb K ≤ sb; omega
  have hin : ∀ k, k < 6 → vp_in (nI i + nI k) N := fun k hk => by rw [nI_add]; exact vp_in_nI (by omega) (by omega)
  obtain ⟨a1, ha1⟩ : ∃ z, z = (xs (Int32.toNatClampNeg (nI i + 1))) := ⟨_, rfl⟩
  obtain ⟨a2, ha2⟩ : ∃ z, z = (xs (Int32.toNatClampNeg (nI i + 2))) := ⟨_, rfl⟩
  obtain ⟨S, hS, hj⟩ := hj a1 a2
  refine lv_aload_n hx hb dL_law_192 rfl (lv_at hl 3 rfl) ?_
  refine lv_aload_n hx hb dL_law_193 rfl (lv_at hl 4 rfl) ?_
  refine lv_iload hx hb dL_law_194 (lv_at hl 0 rfl) ?_
  refine lv_iconst (v := 1) hx hb dL_law_196 (by decide) ?_
  refine lv_iadd hx hb dL_law_197 ?_
  refine va_sld hx hb hX hbl hbA hz.2.1 (hin 1 (by decide)) dL_law_198 ?_
  rw [← ha1]
  refine lv_aload_n hx hb dL_law_199 rfl (lv_at hl 4 rfl) ?_
  refine lv_iload hx hb dL_law_200 (lv_at hl 0 rfl) ?_
  refine lv_iconst (v := 2) hx hb dL_law_202 (by decide) ?_
  refine lv_iadd hx hb dL_law_203 ?_
  refine va_sld hx hb hX hbl hbA hz.2.1 (hin 2 (by decide)) dL_law_204 ?_
  rw [← ha2]
  refine lv_aload_n hx hb dL_law_205 rfl (lv_at hl 1 rfl) ?_
  refine pw_callim hz (vx_runSW (As := [.ref b, .int a1, .int a2, .ref (b + 133)]) (rest := []) ⟨hx, hb, hml, hown, hts⟩ (h_get hst hx0 ho hS hK _) (vx_cwSW 4 hts gL_law_L_get rfl rfl rfl (by decide +kernel) ⟨Nat.le_of_ble_eq_true rfl, Nat.le_of_ble_eq_true rfl⟩) hz.preS rfl rfl hl.1 rfl (lv_room (Nat.le_of_ble_eq_true rfl)) dL_law_206 ⟨by show n1 + 1 ≤ 601024; omega, by show n2 + 6 ≤ 7293034; omega⟩) (fun r1 E1 H locs hp hz => ?_)
  obtain ⟨I1, L1, A1, rfl, hp⟩ := hp
  have hz : SS K s I1 L1 A1 H locs := hz
  obtain ⟨Q2, hQ2, hj⟩ := hj _ _ _ _ hp
  refine lv_istore (lv' := [(5, .int r1), (4, .int (nI i)), (3, .ref (b + 133)), (2, .ref (b + 124)), (1, .ref b), (0, .ref sb)]) hx hb dL_law_209 hl (by decide) rfl (fun ls hl => ?_)
  refine lv_aload_n hx hb dL_law_211 rfl (lv_at hl 3 rfl) ?_
  refine lv_aload_n hx hb dL_law_212 rfl (lv_at hl 5 rfl) ?_
  refine lv_iload hx hb dL_law_213 (lv_at hl 1 rfl) ?_
  refine lv_iconst (v := 1) hx hb dL_law_215 (by decide) ?_
  refine lv_iadd hx hb dL_law_216 ?_
  refine va_sld hx hb hX hbl hbA hz.2.1 (hin 1 (by decide)) dL_law_217 ?_
  rw [← ha1]
  refine lv_aload_n hx hb dL_law_218 rfl (lv_at hl 5 rfl) ?_
  refine lv_iload hx hb dL_law_219 (lv_at hl 1 rfl) ?_
  refine lv_iconst (v := 2) hx hb dL_law_221 (by decide) ?_
  refine lv_iadd hx hb dL_law_222 ?_
  refine va_sld hx hb hX hbl hbA hz.2.1 (hin 2 (by decide)) dL_law_223 ?_
  rw [← ha2]
  refine sw_calli hz (va_runV (As := [.int a1, .int a2]) (rest := []) ⟨hx, hb, hml, hown, hts⟩ (hQ2 hK _) (cwV 2 hts gL_law_X7_get rfl rfl rfl (by decide +kernel) ⟨Nat.le_of_ble_eq_true rfl, Nat.le_of_ble_eq_true rfl⟩) (hz.preV hK hm0 rfl) rfl rfl hl.1 rfl (lv_room (Nat.le_of_ble_eq_true rfl)) dL_law_224 ⟨by show n1 + 1 + 0 ≤ 601024; omega, by show n2 + 6 + 0 ≤ 7293034; omega⟩) (fun r2 I2 L2 A2 H locs hp hz => ?_)
  obtain ⟨hG, hth, hout⟩ := hj _ _ _ _ hp
  refine lv_istore (lv' := [(6, .int r2), (5, .int r1), (4, .int (nI i)), (3, .ref (b + 133)), (2, .ref (b + 124)), (1, .ref b), (0, .ref sb)]) hx hb dL_law_227 hl (by decide) rfl (fun ls hl => ?_)
  refine lv_aload_n hx hb dL_law_229 rfl (lv_at hl 4 rfl) ?_
  refine sw_calli hz (va_runV (As := []) (rest := []) ⟨hx, hb, hml, hown, hts⟩ (m_thrown hm0 hK _) (cwV 0 hts gL_law_X7_thrown rfl rfl rfl (by decide +kernel) ⟨Nat.le_of_ble_eq_true rfl, Nat.le_of_ble_eq_true rfl⟩) (hz.preV hK hm0 rfl) rfl rfl hl.1 rfl (lv_room (Nat.le_of_ble_eq_true rfl)) dL_law_230 ⟨by show n1 + 1 + 0 ≤ 601024; omega, by show n2 + 6 + 0 ≤ 7293034; omega⟩) (fun r3 I3 L3 A3 H locs hp hz => ?_)
  have hz9 := hz
  obtain ⟨e3, rfl, rfl, rfl⟩ := hp
  clear hz
  have hz := hz9
  rw [hth] at e3
  subst e3
  refine lv_iload hx hb dL_law_233 (lv_at hl 1 rfl) ?_
  refine lv_icmp_eq (tgt := 240) hx hb dL_law_235 (by decide) (fun _ => ?_) (fun qw => ?_)
  rotate_left
  · exact absurd rfl qw
  refine lv_iload hx hb dL_law_240 (lv_at hl 1 rfl) ?_
  refine lv_if_ne (tgt := 257) hx hb dL_law_242 (by decide) (fun qw => ?_) (fun qw => ?_)
  · skip
    refine lv_goto (tgt := 953) hx hb dL_law_257 (by decide) ?_
    exact fin _ _ _ H locs ls hG hz (lv_sub hl [2, 3, 4, 5, 6] rfl)
  refine lv_aload_n hx hb dL_law_245 rfl (lv_at hl 3 rfl) ?_
  refine lv_iconst (v := 0) hx hb dL_law_246 (by decide) ?_
  refine sw_lald hx hb hK hz ⟨1, ho, by exact vp_in_nI (n := 0) (by decide) (by decide)⟩ dL_law_247 ?_
  refine lv_iload hx hb dL_law_248 (lv_at hl 0 rfl) ?_
  refine lv_i2l hx hb dL_law_250 rfl ?_
  refine W.lcmp hx hb dL_law_251 ?_
  refine lv_if_eq (tgt := 257) hx hb dL_law_252 (by decide) (fun _ => ?_) (fun qz => ?_)
  rotate_left
  · exact absurd ((lg_cmp_eq _ _).mpr (by rw [ix0]; exact hout qw)) qz
  refine lv_goto (tgt := 953) hx hb dL_law_257 (by decide) ?_
  exact fin _ _ _ H locs ls hG hz (lv_sub hl [2, 3, 4, 5, 6] rfl)

set_option maxHeartbeats 1000000 in
set_option maxRecDepth 100000 in
theorem law_add {p : Program} {K : Cx} {e : Env} {s : State} {m : MethodId} {below : List Frame} {meth : Method} {c : Code} (hst : (cxl K).stackTraces = false) (hK : CxOk K) {sb b N : Nat} {xs : Nat → Int32} (C0 : lw_At p s m meth c sb N xs) (hbs : cxb K = s.heap.size) (hx0 : cxS K b = shX6 b) (hm0 : cxS K (b + 124) = shX7 (b + 124)) (ho : cxS K (b + 133) = .inr (1, 1)) {I : TI} {L : TL} {A : TA} {H : Heap} {locs : List Loc} {ls : Array Slot} {i n1 n2 : Nat} (hi : i + 6 ≤ N) (hN : N ≤ 3072) (hn1 : n1 ≤ 600000) (hn2 : n2 ≤ 7000000) (hz : SS K s I L A H locs) {G : TI → TL → TA → Prop} (hj : ∀ a1 a2 a3 a4 a5 : Int32, JT K b (o3 a1 a2 a3 ∧ oW a4 10 ∧ oW a5 10) yX6_add wsX6_add 3 82 yX7_add wsX7_add 2 46 [.int a1, .int a2, .int a3, .int a4, .int a5] I L A G) (hl : lv_has ls 7 [(4, .int (nI i)), (3, .ref (b + 133)), (2, .ref (b + 124)), (1, .ref b), (0, .ref sb)])
    (fin : ∀ (I : TI) (L : TL) (A : TA) (H : Heap) (locs : List Loc) (ls : Array Slot), G I L A → SS K s I L A H locs → lv_has ls 7 [(4, .int (nI i)), (3, .ref (b + 133)), (2, .ref (b + 124)), (1, .ref b), (0, .ref sb)] → W p (cxl K) e room_1 s m #[Value.ref sb] below meth c H locs (n1 + 1) (n2 + 6) (lw_Z below #[Value.ref sb] s) (F0 m 953 ls [])) : W p (cxl K) e room_1 s m #[Value.ref sb] below meth c H locs n1 n2 (lw_Z below #[Value.ref sb] s) (F0 m 260 ls []) := by
  obtain ⟨hx, hb, -, hml, hown, hts0, hX, hbl, hlocks, hgv⟩ := C0
  have hts : ∀ w ∈ wsL_law, w.before #[Value.ref sb] s = true := fun w h => hts0 w (wsL_law_in w h)
  have hbA : ¬ PA (cxb K) sb := by show ¬ cxb K ≤ sb; omega
  have hin : ∀ k, k < 6 → vp_in (nI i + nI k) N := fun k hk => by rw [nI_add]; exact vp_in_nI (by omega) (by omega)
  obtain ⟨a1, ha1⟩ : ∃ z, z = (xs (Int32.toNatClampNeg (nI i + 1))) := ⟨_, rfl⟩
  obtain ⟨a2, ha2⟩ : ∃ z, z = (xs (Int32.toNatClampNeg (nI i + 2))) := ⟨_, rfl⟩
  obtain ⟨a3, ha3⟩ : ∃ z, z = (xs (Int32.toNatClampNeg (nI i + 3))) := ⟨_, rfl⟩
  obtain ⟨a4, ha4⟩ : ∃ z, z = (xs (Int32.toNatClampNeg (nI i + 4))) := ⟨_, rfl⟩
  obtain ⟨a5, ha5⟩ : ∃ z, z = (xs (Int32.toNatClampNeg (nI i + 5))) := ⟨_, rfl⟩
  obtain ⟨S, hS, hj⟩ := hj a1 a2 a3 a4 a5
  refine lv_aload_n hx hb dL_law_260 rfl (lv_at hl 3 rfl) ?_
  refine lv_aload_n hx hb dL_law_261 rfl (lv_at hl 4 rfl) ?_
  refine lv_iload hx hb dL_law_262 (lv_at hl 0 rfl) ?_
  refine lv_iconst (v := 1) hx hb dL_law_264 (by decide) ?_
  refine lv_iadd hx hb dL_law_265 ?_
  refine va_sld hx hb hX hbl hbA hz.2.1 (hin 1 (by decide)) dL_law_266 ?_
  rw [← ha1]
  refine lv_aload_n hx hb dL_law_267 rfl (lv_at hl 4 rfl) ?_
  refine lv_iload hx hb dL_law_268 (lv_at hl 0 rfl) ?_
  refine lv_iconst (v := 2) hx hb dL_law_270 (by decide) ?_
  refine lv_iadd hx hb dL_law_271 ?_
  refine va_sld hx hb hX hbl hbA hz.2.1 (hin 2 (by decide)) dL_law_272 ?_
  rw [← ha2]
  refine lv_aload_n hx hb dL_law_273 rfl (lv_at hl 4 rfl) ?_
  refine lv_iload hx hb dL_law_274 (lv_at hl 0 rfl) ?_
  refine lv_iconst (v := 3) hx hb dL_law_276 (by decide) ?_
  refine lv_iadd hx hb dL_law_277 ?_
  refine va_sld hx hb hX hbl hbA hz.2.1 (hin 3 (by decide)) dL_law_278 ?_
  rw [← ha3]
  refine lv_aload_n hx hb dL_law_279 rfl (lv_at hl 4 rfl) ?_
  refine lv_iload hx hb dL_law_280 (lv_at hl 0 rfl) ?_
  refine lv_iconst (v := 4) hx hb dL_law_282 (by decide) ?_
  refine lv_iadd hx hb dL_law_283 ?_
  refine va_sld hx hb hX hbl hbA hz.2.1 (hin 4 (by decide)) dL_law_284 ?_
  rw [← ha4]
  refine lv_aload_n hx hb dL_law_285 rfl (lv_at hl 4 rfl) ?_
  refine lv_iload hx hb dL_law_286 (lv_at hl 0 rfl) ?_
  refine lv_iconst (v := 5) hx hb dL_law_288 (by decide) ?_
  refine lv_iadd hx hb dL_law_289 ?_
  refine va_sld hx hb hX hbl hbA hz.2.1 (hin 5 (by decide)) dL_law_290 ?_
  rw [← ha5]
  refine lv_aload_n hx hb dL_law_291 rfl (lv_at hl 1 rfl) ?_
  refine pw_callim hz (vx_runSW (As := [.ref b, .int a1, .int a2, .int a3, .int a4, .int a5, .ref (b + 133)]) (rest := []) ⟨hx, hb, hml, hown, hts⟩ (h_add hst hx0 ho hS hK _) (vx_cwSW 7 hts gL_law_L_add rfl rfl rfl (by decide +kernel) ⟨Nat.le_of_ble_eq_true rfl, Nat.le_of_ble_eq_true rfl⟩) hz.preS rfl rfl hl.1 rfl (lv_room (Nat.le_of_ble_eq_true rfl)) dL_law_292 ⟨by show n1 + 1 ≤ 601024; omega, by show n2 + 6 ≤ 7293034; omega⟩) (fun r1 E1 H locs hp hz => ?_)
  obtain ⟨I1, L1, A1, rfl, hp⟩ := hp
  have hz : SS K s I1 L1 A1 H locs := hz
  obtain ⟨Q2, hQ2, hj⟩ := hj _ _ _ _ hp
  refine lv_istore (lv' := [(5, .int r1), (4, .int (nI i)), (3, .ref (b + 133)), (2, .ref (b + 124)), (1, .ref b), (0, .ref sb)]) hx hb dL_law_295 hl (by decide) rfl (fun ls hl => ?_)
  refine lv_aload_n hx hb dL_law_297 rfl (lv_at hl 3 rfl) ?_
  refine lv_aload_n hx hb dL_law_298 rfl (lv_at hl 5 rfl) ?_
  refine lv_iload hx hb dL_law_299 (lv_at hl 1 rfl) ?_
  refine lv_iconst (v := 1) hx hb dL_law_301 (by decide) ?_
  refine lv_iadd hx hb dL_law_302 ?_
  refine va_sld hx hb hX hbl hbA hz.2.1 (hin 1 (by decide)) dL_law_303 ?_
  rw [← ha1]
  refine lv_aload_n hx hb dL_law_304 rfl (lv_at hl 5 rfl) ?_
  refine lv_iload hx hb dL_law_305 (lv_at hl 1 rfl) ?_
  refine lv_iconst (v := 2) hx hb dL_law_307 (by decide) ?_
  refine lv_iadd hx hb dL_law_308 ?_
  refine va_sld hx hb hX hbl hbA hz.2.1 (hin 2 (by decide)) dL_law_309 ?_
  rw [← ha2]
  refine lv_aload_n hx hb dL_law_310 rfl (lv_at hl 5 rfl) ?_
  refine lv_iload hx hb dL_law_311 (lv_at hl 1 rfl) ?_
  refine lv_iconst (v := 3) hx hb dL_law_313 (by decide) ?_
  refine lv_iadd hx hb dL_law_314 ?_
  refine va_sld hx hb hX hbl hbA hz.2.1 (hin 3 (by decide)) dL_law_315 ?_
  rw [← ha3]
  refine lv_aload_n hx hb dL_law_316 rfl (lv_at hl 5 rfl) ?_
  refine lv_iload hx hb dL_law_317 (lv_at hl 1 rfl) ?_
  refine lv_iconst (v := 4) hx hb dL_law_319 (by decide) ?_
  refine lv_iadd hx hb dL_law_320 ?_
  refine va_sld hx hb hX hbl hbA hz.2.1 (hin 4 (by decide)) dL_law_321 ?_
  rw [← ha4]
  refine lv_aload_n hx hb dL_law_322 rfl (lv_at hl 5 rfl) ?_
  refine lv_iload hx hb dL_law_323 (lv_at hl 1 rfl) ?_
  refine lv_iconst (v := 5) hx hb dL_law_325 (by decide) ?_
  refine lv_iadd hx hb dL_law_326 ?_
  refine va_sld hx hb hX hbl hbA hz.2.1 (hin 5 (by decide)) dL_law_327 ?_
  rw [← ha5]
  refine sw_calli hz (va_runV (As := [.int a1, .int a2, .int a3, .int a4, .int a5]) (rest := []) ⟨hx, hb, hml, hown, hts⟩ (hQ2 hK _) (cwV 5 hts gL_law_X7_add rfl rfl rfl (by decide +kernel) ⟨Nat.le_of_ble_eq_true rfl, Nat.le_of_ble_eq_true rfl⟩) (hz.preV hK hm0 rfl) rfl rfl hl.1 rfl (lv_room (Nat.le_of_ble_eq_true rfl)) dL_law_328 ⟨by show n1 + 1 + 0 ≤ 601024; omega, by show n2 + 6 + 0 ≤ 7293034; omega⟩) (fun r2 I2 L2 A2 H locs hp hz => ?_)
  obtain ⟨hG, hth, hout⟩ := hj _ _ _ _ hp
  refine lv_istore (lv' := [(6, .int r2), (5, .int r1), (4, .int (nI i)), (3, .ref (b + 133)), (2, .ref (b + 124)), (1, .ref b), (0, .ref sb)]) hx hb dL_law_331 hl (by decide) rfl (fun ls hl => ?_)
  refine lv_aload_n hx hb dL_law_333 rfl (lv_at hl 4 rfl) ?_
  refine sw_calli hz (va_runV (As := []) (rest := []) ⟨hx, hb, hml, hown, hts⟩ (m_thrown hm0 hK _) (cwV 0 hts gL_law_X7_thrown rfl rfl rfl (by decide +kernel) ⟨Nat.le_of_ble_eq_true rfl, Nat.le_of_ble_eq_true rfl⟩) (hz.preV hK hm0 rfl) rfl rfl hl.1 rfl (lv_room (Nat.le_of_ble_eq_true rfl)) dL_law_334 ⟨by show n1 + 1 + 0 ≤ 601024; omega, by show n2 + 6 + 0 ≤ 7293034; omega⟩) (fun r3 I3 L3 A3 H locs hp hz => ?_)
  have hz9 := hz
  obtain ⟨e3, rfl, rfl, rfl⟩ := hp
  clear hz
  have hz := hz9
  rw [hth] at e3
  subst e3
  refine lv_iload hx hb dL_law_337 (lv_at hl 1 rfl) ?_
  refine lv_icmp_eq (tgt := 344) hx hb dL_law_339 (by decide) (fun _ => ?_) (fun qw => ?_)
  rotate_left
  · exact absurd rfl qw
  refine lv_iload hx hb dL_law_344 (lv_at hl 1 rfl) ?_
  refine lv_if_ne (tgt := 361) hx hb dL_law_346 (by decide) (fun qw => ?_) (fun qw => ?_)
  · skip
    refine lv_goto (tgt := 953) hx hb dL_law_361 (by decide) ?_
    exact fin _ _ _ H locs ls hG hz (lv_sub hl [2, 3, 4, 5, 6] rfl)
  refine lv_aload_n hx hb dL_law_349 rfl (lv_at hl 3 rfl) ?_
  refine lv_iconst (v := 0) hx hb dL_law_350 (by decide) ?_
  refine sw_lald hx hb hK hz ⟨1, ho, by exact vp_in_nI (n := 0) (by decide) (by decide)⟩ dL_law_351 ?_
  refine lv_iload hx hb dL_law_352 (lv_at hl 0 rfl) ?_
  refine lv_i2l hx hb dL_law_354 rfl ?_
  refine W.lcmp hx hb dL_law_355 ?_
  refine lv_if_eq (tgt := 361) hx hb dL_law_356 (by decide) (fun _ => ?_) (fun qz => ?_)
  rotate_left
  · exact absurd ((lg_cmp_eq _ _).mpr (by rw [ix0]; exact hout qw)) qz
  refine lv_goto (tgt := 953) hx hb dL_law_361 (by decide) ?_
  exact fin _ _ _ H locs ls hG hz (lv_sub hl [2, 3, 4, 5, 6] rfl)

set_option maxHeartbeats 1000000 in
set_option maxRecDepth 100000 in
theorem law_multiply {p : Program} {K : Cx} {e : Env} {s : State} {m : MethodId} {below : List Frame} {meth : Method} {c : Code} (hst : (cxl K).stackTraces = false) (hK : CxOk K) {sb b N : Nat} {xs : Nat → Int32} (C0 : lw_At p s m meth c sb N xs) (hbs : cxb K = s.heap.size) (hx0 : cxS K b = shX6 b) (hm0 : cxS K (b + 124) = shX7 (b + 124)) (ho : cxS K (b + 133) = .inr (1, 1)) {I : TI} {L : TL} {A : TA} {H : Heap} {locs : List Loc} {ls : Array Slot} {i n1 n2 : Nat} (hi : i + 6 ≤ N) (hN : N ≤ 3072) (hn1 : n1 ≤ 600000) (hn2 : n2 ≤ 7000000) (hz : SS K s I L A H locs) {G : TI → TL → TA → Prop} (hj : ∀ a1 a2 a3 : Int32, JT K b (o3 a1 a2 a3) yX6_multiply wsX6_multiply 3 82 yX7_multiply wsX7_multiply 2 46 [.int a1, .int a2, .int a3] I L A G) (hl : lv_has ls 7 [(4, .int (nI i)), (3, .ref (b + 133)), (2, .ref (b + 124)), (1, .ref b), (0, .ref sb)])
    (fin : ∀ (I : TI) (L : TL) (A : TA) (H : Heap) (locs : List Loc) (ls : Array Slot), G I L A → SS K s I L A H locs → lv_has ls 7 [(4, .int (nI i)), (3, .ref (b + 133)), (2, .ref (b + 124)), (1, .ref b), (0, .ref sb)] → W p (cxl K) e room_1 s m #[Value.ref sb] below meth c H locs (n1 + 1) (n2 + 6) (lw_Z below #[Value.ref sb] s) (F0 m 953 ls [])) : W p (cxl K) e room_1 s m #[Value.ref sb] below meth c H locs n1 n2 (lw_Z below #[Value.ref sb] s) (F0 m 364 ls []) := by
  obtain ⟨hx, hb, -, hml, hown, hts0, hX, hbl, hlocks, hgv⟩ := C0
  have hts : ∀ w ∈ wsL_law, w.before #[Value.ref sb] s = true := fun w h => hts0 w (wsL_law_in w h)
  have hbA : ¬ PA (cxb K) sb := by show ¬ cxb K ≤ sb; omega
  have hin : ∀ k, k < 6 → vp_in (nI i + nI k) N := fun k hk => by rw [nI_add]; exact vp_in_nI (by omega) (by omega)
  obtain ⟨a1, ha1⟩ : ∃ z, z = (xs (Int32.toNatClampNeg (nI i + 1))) := ⟨_, rfl⟩
  obtain ⟨a2, ha2⟩ : ∃ z, z = (xs (Int32.toNatClampNeg (nI i + 2))) := ⟨_, rfl⟩
  obtain ⟨a3, ha3⟩ : ∃ z, z = (xs (Int32.toNatClampNeg (nI i + 3))) := ⟨_, rfl⟩
  obtain ⟨S, hS, hj⟩ := hj a1 a2 a3
  refine lv_aload_n hx hb dL_law_364 rfl (lv_at hl 3 rfl) ?_
  refine lv_aload_n hx hb dL_law_365 rfl (lv_at hl 4 rfl) ?_
  refine lv_iload hx hb dL_law_366 (lv_at hl 0 rfl) ?_
  refine lv_iconst (v := 1) hx hb dL_law_368 (by decide) ?_
  refine lv_iadd hx hb dL_law_369 ?_
  refine va_sld hx hb hX hbl hbA hz.2.1 (hin 1 (by decide)) dL_law_370 ?_
  rw [← ha1]
  refine lv_aload_n hx hb dL_law_371 rfl (lv_at hl 4 rfl) ?_
  refine lv_iload hx hb dL_law_372 (lv_at hl 0 rfl) ?_
  refine lv_iconst (v := 2) hx hb dL_law_374 (by decide) ?_
  refine lv_iadd hx hb dL_law_375 ?_
  refine va_sld hx hb hX hbl hbA hz.2.1 (hin 2 (by decide)) dL_law_376 ?_
  rw [← ha2]
  refine lv_aload_n hx hb dL_law_377 rfl (lv_at hl 4 rfl) ?_
  refine lv_iload hx hb dL_law_378 (lv_at hl 0 rfl) ?_
  refine lv_iconst (v := 3) hx hb dL_law_380 (by decide) ?_
  refine lv_iadd hx hb dL_law_381 ?_
  refine va_sld hx hb hX hbl hbA hz.2.1 (hin 3 (by decide)) dL_law_382 ?_
  rw [← ha3]
  refine lv_aload_n hx hb dL_law_383 rfl (lv_at hl 1 rfl) ?_
  refine pw_callim hz (vx_runSW (As := [.ref b, .int a1, .int a2, .int a3, .ref (b + 133)]) (rest := []) ⟨hx, hb, hml, hown, hts⟩ (h_multiply hst hx0 ho hS hK _) (vx_cwSW 5 hts gL_law_L_multiply rfl rfl rfl (by decide +kernel) ⟨Nat.le_of_ble_eq_true rfl, Nat.le_of_ble_eq_true rfl⟩) hz.preS rfl rfl hl.1 rfl (lv_room (Nat.le_of_ble_eq_true rfl)) dL_law_384 ⟨by show n1 + 1 ≤ 601024; omega, by show n2 + 6 ≤ 7293034; omega⟩) (fun r1 E1 H locs hp hz => ?_)
  obtain ⟨I1, L1, A1, rfl, hp⟩ := hp
  have hz : SS K s I1 L1 A1 H locs := hz
  obtain ⟨Q2, hQ2, hj⟩ := hj _ _ _ _ hp
  refine lv_istore (lv' := [(5, .int r1), (4, .int (nI i)), (3, .ref (b + 133)), (2, .ref (b + 124)), (1, .ref b), (0, .ref sb)]) hx hb dL_law_387 hl (by decide) rfl (fun ls hl => ?_)
  refine lv_aload_n hx hb dL_law_389 rfl (lv_at hl 3 rfl) ?_
  refine lv_aload_n hx hb dL_law_390 rfl (lv_at hl 5 rfl) ?_
  refine lv_iload hx hb dL_law_391 (lv_at hl 1 rfl) ?_
  refine lv_iconst (v := 1) hx hb dL_law_393 (by decide) ?_
  refine lv_iadd hx hb dL_law_394 ?_
  refine va_sld hx hb hX hbl hbA hz.2.1 (hin 1 (by decide)) dL_law_395 ?_
  rw [← ha1]
  refine lv_aload_n hx hb dL_law_396 rfl (lv_at hl 5 rfl) ?_
  refine lv_iload hx hb dL_law_397 (lv_at hl 1 rfl) ?_
  refine lv_iconst (v := 2) hx hb dL_law_399 (by decide) ?_
  refine lv_iadd hx hb dL_law_400 ?_
  refine va_sld hx hb hX hbl hbA hz.2.1 (hin 2 (by decide)) dL_law_401 ?_
  rw [← ha2]
  refine lv_aload_n hx hb dL_law_402 rfl (lv_at hl 5 rfl) ?_
  refine lv_iload hx hb dL_law_403 (lv_at hl 1 rfl) ?_
  refine lv_iconst (v := 3) hx hb dL_law_405 (by decide) ?_
  refine lv_iadd hx hb dL_law_406 ?_
  refine va_sld hx hb hX hbl hbA hz.2.1 (hin 3 (by decide)) dL_law_407 ?_
  rw [← ha3]
  refine sw_calli hz (va_runV (As := [.int a1, .int a2, .int a3]) (rest := []) ⟨hx, hb, hml, hown, hts⟩ (hQ2 hK _) (cwV 3 hts gL_law_X7_multiply rfl rfl rfl (by decide +kernel) ⟨Nat.le_of_ble_eq_true rfl, Nat.le_of_ble_eq_true rfl⟩) (hz.preV hK hm0 rfl) rfl rfl hl.1 rfl (lv_room (Nat.le_of_ble_eq_true rfl)) dL_law_408 ⟨by show n1 + 1 + 0 ≤ 601024; omega, by show n2 + 6 + 0 ≤ 7293034; omega⟩) (fun r2 I2 L2 A2 H locs hp hz => ?_)
  obtain ⟨hG, hth, hout⟩ := hj _ _ _ _ hp
  refine lv_istore (lv' := [(6, .int r2), (5, .int r1), (4, .int (nI i)), (3, .ref (b + 133)), (2, .ref (b + 124)), (1, .ref b), (0, .ref sb)]) hx hb dL_law_411 hl (by decide) rfl (fun ls hl => ?_)
  refine lv_aload_n hx hb dL_law_413 rfl (lv_at hl 4 rfl) ?_
  refine sw_calli hz (va_runV (As := []) (rest := []) ⟨hx, hb, hml, hown, hts⟩ (m_thrown hm0 hK _) (cwV 0 hts gL_law_X7_thrown rfl rfl rfl (by decide +kernel) ⟨Nat.le_of_ble_eq_true rfl, Nat.le_of_ble_eq_true rfl⟩) (hz.preV hK hm0 rfl) rfl rfl hl.1 rfl (lv_room (Nat.le_of_ble_eq_true rfl)) dL_law_414 ⟨by show n1 + 1 + 0 ≤ 601024; omega, by show n2 + 6 + 0 ≤ 7293034; omega⟩) (fun r3 I3 L3 A3 H locs hp hz => ?_)
  have hz9 := hz
  obtain ⟨e3, rfl, rfl, rfl⟩ := hp
  clear hz
  have hz := hz9
  rw [hth] at e3
  subst e3
  refine lv_iload hx hb dL_law_417 (lv_at hl 1 rfl) ?_
  refine lv_icmp_eq (tgt := 424) hx hb dL_law_419 (by decide) (fun _ => ?_) (fun qw => ?_)
  rotate_left
  · exact absurd rfl qw
  refine lv_iload hx hb dL_law_424 (lv_at hl 1 rfl) ?_
  refine lv_if_ne (tgt := 441) hx hb dL_law_426 (by decide) (fun qw => ?_) (fun qw => ?_)
  · skip
    refine lv_goto (tgt := 953) hx hb dL_law_441 (by decide) ?_
    exact fin _ _ _ H locs ls hG hz (lv_sub hl [2, 3, 4, 5, 6] rfl)
  refine lv_aload_n hx hb dL_law_429 rfl (lv_at hl 3 rfl) ?_
  refine lv_iconst (v := 0) hx hb dL_law_430 (by decide) ?_
  refine sw_lald hx hb hK hz ⟨1, ho, by exact vp_in_nI (n := 0) (by decide) (by decide)⟩ dL_law_431 ?_
  refine lv_iload hx hb dL_law_432 (lv_at hl 0 rfl) ?_
  refine lv_i2l hx hb dL_law_434 rfl ?_
  refine W.lcmp hx hb dL_law_435 ?_
  refine lv_if_eq (tgt := 441) hx hb dL_law_436 (by decide) (fun _ => ?_) (fun qz => ?_)
  rotate_left
  · exact absurd ((lg_cmp_eq _ _).mpr (by rw [ix0]; exact hout qw)) qz
  refine lv_goto (tgt := 953) hx hb dL_law_441 (by decide) ?_
  exact fin _ _ _ H locs ls hG hz (lv_sub hl [2, 3, 4, 5, 6] rfl)

set_option maxHeartbeats 1000000 in
set_option maxRecDepth 100000 in
theorem law_divide {p : Program} {K : Cx} {e : Env} {s : State} {m : MethodId} {below : List Frame} {meth : Method} {c : Code} (hst : (cxl K).stackTraces = false) (hK : CxOk K) {sb b N : Nat} {xs : Nat → Int32} (C0 : lw_At p s m meth c sb N xs) (hbs : cxb K = s.heap.size) (hx0 : cxS K b = shX6 b) (hm0 : cxS K (b + 124) = shX7 (b + 124)) (ho : cxS K (b + 133) = .inr (1, 1)) {I : TI} {L : TL} {A : TA} {H : Heap} {locs : List Loc} {ls : Array Slot} {i n1 n2 : Nat} (hi : i + 6 ≤ N) (hN : N ≤ 3072) (hn1 : n1 ≤ 600000) (hn2 : n2 ≤ 7000000) (hz : SS K s I L A H locs) {G : TI → TL → TA → Prop} (hj : ∀ a1 a2 a3 : Int32, JT K b (o3 a1 a2 a3) yX6_divide wsX6_divide 3 92 yX7_divide wsX7_divide 3 74 [.int a1, .int a2, .int a3] I L A G) (hl : lv_has ls 7 [(4, .int (nI i)), (3, .ref (b + 133)), (2, .ref (b + 124)), (1, .ref b), (0, .ref sb)])
    (fin : ∀ (I : TI) (L : TL) (A : TA) (H : Heap) (locs : List Loc) (ls : Array Slot), G I L A → SS K s I L A H locs → lv_has ls 7 [(4, .int (nI i)), (3, .ref (b + 133)), (2, .ref (b + 124)), (1, .ref b), (0, .ref sb)] → W p (cxl K) e room_1 s m #[Value.ref sb] below meth c H locs (n1 + 1) (n2 + 6) (lw_Z below #[Value.ref sb] s) (F0 m 953 ls [])) : W p (cxl K) e room_1 s m #[Value.ref sb] below meth c H locs n1 n2 (lw_Z below #[Value.ref sb] s) (F0 m 512 ls []) := by
  obtain ⟨hx, hb, -, hml, hown, hts0, hX, hbl, hlocks, hgv⟩ := C0
  have hts : ∀ w ∈ wsL_law, w.before #[Value.ref sb] s = true := fun w h => hts0 w (wsL_law_in w h)
  have hbA : ¬ PA (cxb K) sb := by show ¬ cxb K ≤ sb; omega
  have hin : ∀ k, k < 6 → vp_in (nI i + nI k) N := fun k hk => by rw [nI_add]; exact vp_in_nI (by omega) (by omega)
  obtain ⟨a1, ha1⟩ : ∃ z, z = (xs (Int32.toNatClampNeg (nI i + 1))) := ⟨_, rfl⟩
  obtain ⟨a2, ha2⟩ : ∃ z, z = (xs (Int32.toNatClampNeg (nI i + 2))) := ⟨_, rfl⟩
  obtain ⟨a3, ha3⟩ : ∃ z, z = (xs (Int32.toNatClampNeg (nI i + 3))) := ⟨_, rfl⟩
  obtain ⟨S, hS, hj⟩ := hj a1 a2 a3
  refine lv_aload_n hx hb dL_law_512 rfl (lv_at hl 3 rfl) ?_
  refine lv_aload_n hx hb dL_law_513 rfl (lv_at hl 4 rfl) ?_
  refine lv_iload hx hb dL_law_514 (lv_at hl 0 rfl) ?_
  refine lv_iconst (v := 1) hx hb dL_law_516 (by decide) ?_
  refine lv_iadd hx hb dL_law_517 ?_
  refine va_sld hx hb hX hbl hbA hz.2.1 (hin 1 (by decide)) dL_law_518 ?_
  rw [← ha1]
  refine lv_aload_n hx hb dL_law_519 rfl (lv_at hl 4 rfl) ?_
  refine lv_iload hx hb dL_law_520 (lv_at hl 0 rfl) ?_
  refine lv_iconst (v := 2) hx hb dL_law_522 (by decide) ?_
  refine lv_iadd hx hb dL_law_523 ?_
  refine va_sld hx hb hX hbl hbA hz.2.1 (hin 2 (by decide)) dL_law_524 ?_
  rw [← ha2]
  refine lv_aload_n hx hb dL_law_525 rfl (lv_at hl 4 rfl) ?_
  refine lv_iload hx hb dL_law_526 (lv_at hl 0 rfl) ?_
  refine lv_iconst (v := 3) hx hb dL_law_528 (by decide) ?_
  refine lv_iadd hx hb dL_law_529 ?_
  refine va_sld hx hb hX hbl hbA hz.2.1 (hin 3 (by decide)) dL_law_530 ?_
  rw [← ha3]
  refine lv_aload_n hx hb dL_law_531 rfl (lv_at hl 1 rfl) ?_
  refine pw_callim hz (vx_runSW (As := [.ref b, .int a1, .int a2, .int a3, .ref (b + 133)]) (rest := []) ⟨hx, hb, hml, hown, hts⟩ (h_divide hst hx0 ho hS hK _) (vx_cwSW 5 hts gL_law_L_divide rfl rfl rfl (by decide +kernel) ⟨Nat.le_of_ble_eq_true rfl, Nat.le_of_ble_eq_true rfl⟩) hz.preS rfl rfl hl.1 rfl (lv_room (Nat.le_of_ble_eq_true rfl)) dL_law_532 ⟨by show n1 + 1 ≤ 601024; omega, by show n2 + 6 ≤ 7293034; omega⟩) (fun r1 E1 H locs hp hz => ?_)
  obtain ⟨I1, L1, A1, rfl, hp⟩ := hp
  have hz : SS K s I1 L1 A1 H locs := hz
  obtain ⟨Q2, hQ2, hj⟩ := hj _ _ _ _ hp
  refine lv_istore (lv' := [(5, .int r1), (4, .int (nI i)), (3, .ref (b + 133)), (2, .ref (b + 124)), (1, .ref b), (0, .ref sb)]) hx hb dL_law_535 hl (by decide) rfl (fun ls hl => ?_)
  refine lv_aload_n hx hb dL_law_537 rfl (lv_at hl 3 rfl) ?_
  refine lv_aload_n hx hb dL_law_538 rfl (lv_at hl 5 rfl) ?_
  refine lv_iload hx hb dL_law_539 (lv_at hl 1 rfl) ?_
  refine lv_iconst (v := 1) hx hb dL_law_541 (by decide) ?_
  refine lv_iadd hx hb dL_law_542 ?_
  refine va_sld hx hb hX hbl hbA hz.2.1 (hin 1 (by decide)) dL_law_543 ?_
  rw [← ha1]
  refine lv_aload_n hx hb dL_law_544 rfl (lv_at hl 5 rfl) ?_
  refine lv_iload hx hb dL_law_545 (lv_at hl 1 rfl) ?_
  refine lv_iconst (v := 2) hx hb dL_law_547 (by decide) ?_
  refine lv_iadd hx hb dL_law_548 ?_
  refine va_sld hx hb hX hbl hbA hz.2.1 (hin 2 (by decide)) dL_law_549 ?_
  rw [← ha2]
  refine lv_aload_n hx hb dL_law_550 rfl (lv_at hl 5 rfl) ?_
  refine lv_iload hx hb dL_law_551 (lv_at hl 1 rfl) ?_
  refine lv_iconst (v := 3) hx hb dL_law_553 (by decide) ?_
  refine lv_iadd hx hb dL_law_554 ?_
  refine va_sld hx hb hX hbl hbA hz.2.1 (hin 3 (by decide)) dL_law_555 ?_
  rw [← ha3]
  refine sw_calli hz (va_runV (As := [.int a1, .int a2, .int a3]) (rest := []) ⟨hx, hb, hml, hown, hts⟩ (hQ2 hK _) (cwV 3 hts gL_law_X7_divide rfl rfl rfl (by decide +kernel) ⟨Nat.le_of_ble_eq_true rfl, Nat.le_of_ble_eq_true rfl⟩) (hz.preV hK hm0 rfl) rfl rfl hl.1 rfl (lv_room (Nat.le_of_ble_eq_true rfl)) dL_law_556 ⟨by show n1 + 1 + 0 ≤ 601024; omega, by show n2 + 6 + 0 ≤ 7293034; omega⟩) (fun r2 I2 L2 A2 H locs hp hz => ?_)
  obtain ⟨hG, hth, hout⟩ := hj _ _ _ _ hp
  refine lv_istore (lv' := [(6, .int r2), (5, .int r1), (4, .int (nI i)), (3, .ref (b + 133)), (2, .ref (b + 124)), (1, .ref b), (0, .ref sb)]) hx hb dL_law_559 hl (by decide) rfl (fun ls hl => ?_)
  refine lv_aload_n hx hb dL_law_561 rfl (lv_at hl 4 rfl) ?_
  refine sw_calli hz (va_runV (As := []) (rest := []) ⟨hx, hb, hml, hown, hts⟩ (m_thrown hm0 hK _) (cwV 0 hts gL_law_X7_thrown rfl rfl rfl (by decide +kernel) ⟨Nat.le_of_ble_eq_true rfl, Nat.le_of_ble_eq_true rfl⟩) (hz.preV hK hm0 rfl) rfl rfl hl.1 rfl (lv_room (Nat.le_of_ble_eq_true rfl)) dL_law_562 ⟨by show n1 + 1 + 0 ≤ 601024; omega, by show n2 + 6 + 0 ≤ 7293034; omega⟩) (fun r3 I3 L3 A3 H locs hp hz => ?_)
  have hz9 := hz
  obtain ⟨e3, rfl, rfl, rfl⟩ := hp
  clear hz
  have hz := hz9
  rw [hth] at e3
  subst e3
  refine lv_iload hx hb dL_law_565 (lv_at hl 1 rfl) ?_
  refine lv_icmp_eq (tgt := 572) hx hb dL_law_567 (by decide) (fun _ => ?_) (fun qw => ?_)
  rotate_left
  · exact absurd rfl qw
  refine lv_iload hx hb dL_law_572 (lv_at hl 1 rfl) ?_
  refine lv_if_ne (tgt := 589) hx hb dL_law_574 (by decide) (fun qw => ?_) (fun qw => ?_)
  · skip
    refine lv_goto (tgt := 953) hx hb dL_law_589 (by decide) ?_
    exact fin _ _ _ H locs ls hG hz (lv_sub hl [2, 3, 4, 5, 6] rfl)
  refine lv_aload_n hx hb dL_law_577 rfl (lv_at hl 3 rfl) ?_
  refine lv_iconst (v := 0) hx hb dL_law_578 (by decide) ?_
  refine sw_lald hx hb hK hz ⟨1, ho, by exact vp_in_nI (n := 0) (by decide) (by decide)⟩ dL_law_579 ?_
  refine lv_iload hx hb dL_law_580 (lv_at hl 0 rfl) ?_
  refine lv_i2l hx hb dL_law_582 rfl ?_
  refine W.lcmp hx hb dL_law_583 ?_
  refine lv_if_eq (tgt := 589) hx hb dL_law_584 (by decide) (fun _ => ?_) (fun qz => ?_)
  rotate_left
  · exact absurd ((lg_cmp_eq _ _).mpr (by rw [ix0]; exact hout qw)) qz
  refine lv_goto (tgt := 953) hx hb dL_law_589 (by decide) ?_
  exact fin _ _ _ H locs ls hG hz (lv_sub hl [2, 3, 4, 5, 6] rfl)

set_option maxHeartbeats 1000000 in
set_option maxRecDepth 100000 in
theorem law_common {p : Program} {K : Cx} {e : Env} {s : State} {m : MethodId} {below : List Frame} {meth : Method} {c : Code} (hst : (cxl K).stackTraces = false) (hK : CxOk K) {sb b N : Nat} {xs : Nat → Int32} (C0 : lw_At p s m meth c sb N xs) (hbs : cxb K = s.heap.size) (hx0 : cxS K b = shX6 b) (hm0 : cxS K (b + 124) = shX7 (b + 124)) (ho : cxS K (b + 133) = .inr (1, 1)) {I : TI} {L : TL} {A : TA} {H : Heap} {locs : List Loc} {ls : Array Slot} {i n1 n2 : Nat} (hi : i + 6 ≤ N) (hN : N ≤ 3072) (hn1 : n1 ≤ 600000) (hn2 : n2 ≤ 7000000) (hz : SS K s I L A H locs) {G : TI → TL → TA → Prop} (hj : ∀ a1 a2 a3 : Int32, JT K b (o3 a1 a2 a3) yX6_common wsX6_common 5 146 yX7_common wsX7_common 7 170 [.int a1, .int a2, .int a3] I L A G) (hl : lv_has ls 7 [(4, .int (nI i)), (3, .ref (b + 133)), (2, .ref (b + 124)), (1, .ref b), (0, .ref sb)])
    (fin : ∀ (I : TI) (L : TL) (A : TA) (H : Heap) (locs : List Loc) (ls : Array Slot), G I L A → SS K s I L A H locs → lv_has ls 7 [(4, .int (nI i)), (3, .ref (b + 133)), (2, .ref (b + 124)), (1, .ref b), (0, .ref sb)] → W p (cxl K) e room_1 s m #[Value.ref sb] below meth c H locs (n1 + 1) (n2 + 6) (lw_Z below #[Value.ref sb] s) (F0 m 953 ls [])) : W p (cxl K) e room_1 s m #[Value.ref sb] below meth c H locs n1 n2 (lw_Z below #[Value.ref sb] s) (F0 m 592 ls []) := by
  obtain ⟨hx, hb, -, hml, hown, hts0, hX, hbl, hlocks, hgv⟩ := C0
  have hts : ∀ w ∈ wsL_law, w.before #[Value.ref sb] s = true := fun w h => hts0 w (wsL_law_in w h)
  have hbA : ¬ PA (cxb K) sb := by show ¬ cxb K ≤ sb; omega
  have hin : ∀ k, k < 6 → vp_in (nI i + nI k) N := fun k hk => by rw [nI_add]; exact vp_in_nI (by omega) (by omega)
  obtain ⟨a1, ha1⟩ : ∃ z, z = (xs (Int32.toNatClampNeg (nI i + 1))) := ⟨_, rfl⟩
  obtain ⟨a2, ha2⟩ : ∃ z, z = (xs (Int32.toNatClampNeg (nI i + 2))) := ⟨_, rfl⟩
  obtain ⟨a3, ha3⟩ : ∃ z, z = (xs (Int32.toNatClampNeg (nI i + 3))) := ⟨_, rfl⟩
  obtain ⟨S, hS, hj⟩ := hj a1 a2 a3
  refine lv_aload_n hx hb dL_law_592 rfl (lv_at hl 3 rfl) ?_
  refine lv_aload_n hx hb dL_law_593 rfl (lv_at hl 4 rfl) ?_
  refine lv_iload hx hb dL_law_594 (lv_at hl 0 rfl) ?_
  refine lv_iconst (v := 1) hx hb dL_law_596 (by decide) ?_
  refine lv_iadd hx hb dL_law_597 ?_
  refine va_sld hx hb hX hbl hbA hz.2.1 (hin 1 (by decide)) dL_law_598 ?_
  rw [← ha1]
  refine lv_aload_n hx hb dL_law_599 rfl (lv_at hl 4 rfl) ?_
  refine lv_iload hx hb dL_law_600 (lv_at hl 0 rfl) ?_
  refine lv_iconst (v := 2) hx hb dL_law_602 (by decide) ?_
  refine lv_iadd hx hb dL_law_603 ?_
  refine va_sld hx hb hX hbl hbA hz.2.1 (hin 2 (by decide)) dL_law_604 ?_
  rw [← ha2]
  refine lv_aload_n hx hb dL_law_605 rfl (lv_at hl 4 rfl) ?_
  refine lv_iload hx hb dL_law_606 (lv_at hl 0 rfl) ?_
  refine lv_iconst (v := 3) hx hb dL_law_608 (by decide) ?_
  refine lv_iadd hx hb dL_law_609 ?_
  refine va_sld hx hb hX hbl hbA hz.2.1 (hin 3 (by decide)) dL_law_610 ?_
  rw [← ha3]
  refine lv_aload_n hx hb dL_law_611 rfl (lv_at hl 1 rfl) ?_
  refine pw_callim hz (vx_runSW (As := [.ref b, .int a1, .int a2, .int a3, .ref (b + 133)]) (rest := []) ⟨hx, hb, hml, hown, hts⟩ (h_common hst hx0 ho hS hK _) (vx_cwSW 5 hts gL_law_L_common rfl rfl rfl (by decide +kernel) ⟨Nat.le_of_ble_eq_true rfl, Nat.le_of_ble_eq_true rfl⟩) hz.preS rfl rfl hl.1 rfl (lv_room (Nat.le_of_ble_eq_true rfl)) dL_law_612 ⟨by show n1 + 1 ≤ 601024; omega, by show n2 + 6 ≤ 7293034; omega⟩) (fun r1 E1 H locs hp hz => ?_)
  obtain ⟨I1, L1, A1, rfl, hp⟩ := hp
  have hz : SS K s I1 L1 A1 H locs := hz
  obtain ⟨Q2, hQ2, hj⟩ := hj _ _ _ _ hp
  refine lv_istore (lv' := [(5, .int r1), (4, .int (nI i)), (3, .ref (b + 133)), (2, .ref (b + 124)), (1, .ref b), (0, .ref sb)]) hx hb dL_law_615 hl (by decide) rfl (fun ls hl => ?_)
  refine lv_aload_n hx hb dL_law_617 rfl (lv_at hl 3 rfl) ?_
  refine lv_aload_n hx hb dL_law_618 rfl (lv_at hl 5 rfl) ?_
  refine lv_iload hx hb dL_law_619 (lv_at hl 1 rfl) ?_
  refine lv_iconst (v := 1) hx hb dL_law_621 (by decide) ?_
  refine lv_iadd hx hb dL_law_622 ?_
  refine va_sld hx hb hX hbl hbA hz.2.1 (hin 1 (by decide)) dL_law_623 ?_
  rw [← ha1]
  refine lv_aload_n hx hb dL_law_624 rfl (lv_at hl 5 rfl) ?_
  refine lv_iload hx hb dL_law_625 (lv_at hl 1 rfl) ?_
  refine lv_iconst (v := 2) hx hb dL_law_627 (by decide) ?_
  refine lv_iadd hx hb dL_law_628 ?_
  refine va_sld hx hb hX hbl hbA hz.2.1 (hin 2 (by decide)) dL_law_629 ?_
  rw [← ha2]
  refine lv_aload_n hx hb dL_law_630 rfl (lv_at hl 5 rfl) ?_
  refine lv_iload hx hb dL_law_631 (lv_at hl 1 rfl) ?_
  refine lv_iconst (v := 3) hx hb dL_law_633 (by decide) ?_
  refine lv_iadd hx hb dL_law_634 ?_
  refine va_sld hx hb hX hbl hbA hz.2.1 (hin 3 (by decide)) dL_law_635 ?_
  rw [← ha3]
  refine sw_calli hz (va_runV (As := [.int a1, .int a2, .int a3]) (rest := []) ⟨hx, hb, hml, hown, hts⟩ (hQ2 hK _) (cwV 3 hts gL_law_X7_common rfl rfl rfl (by decide +kernel) ⟨Nat.le_of_ble_eq_true rfl, Nat.le_of_ble_eq_true rfl⟩) (hz.preV hK hm0 rfl) rfl rfl hl.1 rfl (lv_room (Nat.le_of_ble_eq_true rfl)) dL_law_636 ⟨by show n1 + 1 + 0 ≤ 601024; omega, by show n2 + 6 + 0 ≤ 7293034; omega⟩) (fun r2 I2 L2 A2 H locs hp hz => ?_)
  obtain ⟨hG, hth, hout⟩ := hj _ _ _ _ hp
  refine lv_istore (lv' := [(6, .int r2), (5, .int r1), (4, .int (nI i)), (3, .ref (b + 133)), (2, .ref (b + 124)), (1, .ref b), (0, .ref sb)]) hx hb dL_law_639 hl (by decide) rfl (fun ls hl => ?_)
  refine lv_aload_n hx hb dL_law_641 rfl (lv_at hl 4 rfl) ?_
  refine sw_calli hz (va_runV (As := []) (rest := []) ⟨hx, hb, hml, hown, hts⟩ (m_thrown hm0 hK _) (cwV 0 hts gL_law_X7_thrown rfl rfl rfl (by decide +kernel) ⟨Nat.le_of_ble_eq_true rfl, Nat.le_of_ble_eq_true rfl⟩) (hz.preV hK hm0 rfl) rfl rfl hl.1 rfl (lv_room (Nat.le_of_ble_eq_true rfl)) dL_law_642 ⟨by show n1 + 1 + 0 ≤ 601024; omega, by show n2 + 6 + 0 ≤ 7293034; omega⟩) (fun r3 I3 L3 A3 H locs hp hz => ?_)
  have hz9 := hz
  obtain ⟨e3, rfl, rfl, rfl⟩ := hp
  clear hz
  have hz := hz9
  rw [hth] at e3
  subst e3
  refine lv_iload hx hb dL_law_645 (lv_at hl 1 rfl) ?_
  refine lv_icmp_eq (tgt := 652) hx hb dL_law_647 (by decide) (fun _ => ?_) (fun qw => ?_)
  rotate_left
  · exact absurd rfl qw
  refine lv_iload hx hb dL_law_652 (lv_at hl 1 rfl) ?_
  refine lv_if_ne (tgt := 669) hx hb dL_law_654 (by decide) (fun qw => ?_) (fun qw => ?_)
  · skip
    refine lv_goto (tgt := 953) hx hb dL_law_669 (by decide) ?_
    exact fin _ _ _ H locs ls hG hz (lv_sub hl [2, 3, 4, 5, 6] rfl)
  refine lv_aload_n hx hb dL_law_657 rfl (lv_at hl 3 rfl) ?_
  refine lv_iconst (v := 0) hx hb dL_law_658 (by decide) ?_
  refine sw_lald hx hb hK hz ⟨1, ho, by exact vp_in_nI (n := 0) (by decide) (by decide)⟩ dL_law_659 ?_
  refine lv_iload hx hb dL_law_660 (lv_at hl 0 rfl) ?_
  refine lv_i2l hx hb dL_law_662 rfl ?_
  refine W.lcmp hx hb dL_law_663 ?_
  refine lv_if_eq (tgt := 669) hx hb dL_law_664 (by decide) (fun _ => ?_) (fun qz => ?_)
  rotate_left
  · exact absurd ((lg_cmp_eq _ _).mpr (by rw [ix0]; exact hout qw)) qz
  refine lv_goto (tgt := 953) hx hb dL_law_669 (by decide) ?_
  exact fin _ _ _ H locs ls hG hz (lv_sub hl [2, 3, 4, 5, 6] rfl)

set_option maxHeartbeats 1000000 in
set_option maxRecDepth 100000 in
theorem law_derive {p : Program} {K : Cx} {e : Env} {s : State} {m : MethodId} {below : List Frame} {meth : Method} {c : Code} (hst : (cxl K).stackTraces = false) (hK : CxOk K) {sb b N : Nat} {xs : Nat → Int32} (C0 : lw_At p s m meth c sb N xs) (hbs : cxb K = s.heap.size) (hx0 : cxS K b = shX6 b) (hm0 : cxS K (b + 124) = shX7 (b + 124)) (ho : cxS K (b + 133) = .inr (1, 1)) {I : TI} {L : TL} {A : TA} {H : Heap} {locs : List Loc} {ls : Array Slot} {i n1 n2 : Nat} (hi : i + 6 ≤ N) (hN : N ≤ 3072) (hn1 : n1 ≤ 600000) (hn2 : n2 ≤ 7000000) (hz : SS K s I L A H locs) {G : TI → TL → TA → Prop} (hj : ∀ a1 a2 : Int32, JT K b (oS a1 ∧ oS a2) yX6_derive wsX6_derive 3 82 yX7_derive wsX7_derive 2 46 [.int a1, .int a2] I L A G) (hl : lv_has ls 7 [(4, .int (nI i)), (3, .ref (b + 133)), (2, .ref (b + 124)), (1, .ref b), (0, .ref sb)])
    (fin : ∀ (I : TI) (L : TL) (A : TA) (H : Heap) (locs : List Loc) (ls : Array Slot), G I L A → SS K s I L A H locs → lv_has ls 7 [(4, .int (nI i)), (3, .ref (b + 133)), (2, .ref (b + 124)), (1, .ref b), (0, .ref sb)] → W p (cxl K) e room_1 s m #[Value.ref sb] below meth c H locs (n1 + 1) (n2 + 6) (lw_Z below #[Value.ref sb] s) (F0 m 953 ls [])) : W p (cxl K) e room_1 s m #[Value.ref sb] below meth c H locs n1 n2 (lw_Z below #[Value.ref sb] s) (F0 m 444 ls []) := by
  obtain ⟨hx, hb, -, hml, hown, hts0, hX, hbl, hlocks, hgv⟩ := C0
  have hts : ∀ w ∈ wsL_law, w.before #[Value.ref sb] s = true := fun w h => hts0 w (wsL_law_in w h)
  have hbA : ¬ PA (cxb K) sb := by show ¬ cxb K ≤ sb; omega
  have hin : ∀ k, k < 6 → vp_in (nI i + nI k) N := fun k hk => by rw [nI_add]; exact vp_in_nI (by omega) (by omega)
  obtain ⟨a1, ha1⟩ : ∃ z, z = (xs (Int32.toNatClampNeg (nI i + 1))) := ⟨_, rfl⟩
  obtain ⟨a2, ha2⟩ : ∃ z, z = (xs (Int32.toNatClampNeg (nI i + 2))) := ⟨_, rfl⟩
  obtain ⟨S, hS, hj⟩ := hj a1 a2
  refine lv_aload_n hx hb dL_law_444 rfl (lv_at hl 3 rfl) ?_
  refine lv_aload_n hx hb dL_law_445 rfl (lv_at hl 4 rfl) ?_
  refine lv_iload hx hb dL_law_446 (lv_at hl 0 rfl) ?_
  refine lv_iconst (v := 1) hx hb dL_law_448 (by decide) ?_
  refine lv_iadd hx hb dL_law_449 ?_
  refine va_sld hx hb hX hbl hbA hz.2.1 (hin 1 (by decide)) dL_law_450 ?_
  rw [← ha1]
  refine lv_aload_n hx hb dL_law_451 rfl (lv_at hl 4 rfl) ?_
  refine lv_iload hx hb dL_law_452 (lv_at hl 0 rfl) ?_
  refine lv_iconst (v := 2) hx hb dL_law_454 (by decide) ?_
  refine lv_iadd hx hb dL_law_455 ?_
  refine va_sld hx hb hX hbl hbA hz.2.1 (hin 2 (by decide)) dL_law_456 ?_
  rw [← ha2]
  refine lv_aload_n hx hb dL_law_457 rfl (lv_at hl 1 rfl) ?_
  refine pw_callim hz (vx_runSW (As := [.ref b, .int a1, .int a2, .ref (b + 133)]) (rest := []) ⟨hx, hb, hml, hown, hts⟩ (h_derive hst hx0 ho hS hK _) (vx_cwSW 4 hts gL_law_L_derive rfl rfl rfl (by decide +kernel) ⟨Nat.le_of_ble_eq_true rfl, Nat.le_of_ble_eq_true rfl⟩) hz.preS rfl rfl hl.1 rfl (lv_room (Nat.le_of_ble_eq_true rfl)) dL_law_458 ⟨by show n1 + 1 ≤ 601024; omega, by show n2 + 6 ≤ 7293034; omega⟩) (fun r1 E1 H locs hp hz => ?_)
  obtain ⟨I1, L1, A1, rfl, hp⟩ := hp
  have hz : SS K s I1 L1 A1 H locs := hz
  obtain ⟨Q2, hQ2, hj⟩ := hj _ _ _ _ hp
  refine lv_istore (lv' := [(5, .int r1), (4, .int (nI i)), (3, .ref (b + 133)), (2, .ref (b + 124)), (1, .ref b), (0, .ref sb)]) hx hb dL_law_461 hl (by decide) rfl (fun ls hl => ?_)
  refine lv_aload_n hx hb dL_law_463 rfl (lv_at hl 3 rfl) ?_
  refine lv_aload_n hx hb dL_law_464 rfl (lv_at hl 5 rfl) ?_
  refine lv_iload hx hb dL_law_465 (lv_at hl 1 rfl) ?_
  refine lv_iconst (v := 1) hx hb dL_law_467 (by decide) ?_
  refine lv_iadd hx hb dL_law_468 ?_
  refine va_sld hx hb hX hbl hbA hz.2.1 (hin 1 (by decide)) dL_law_469 ?_
  rw [← ha1]
  refine lv_aload_n hx hb dL_law_470 rfl (lv_at hl 5 rfl) ?_
  refine lv_iload hx hb dL_law_471 (lv_at hl 1 rfl) ?_
  refine lv_iconst (v := 2) hx hb dL_law_473 (by decide) ?_
  refine lv_iadd hx hb dL_law_474 ?_
  refine va_sld hx hb hX hbl hbA hz.2.1 (hin 2 (by decide)) dL_law_475 ?_
  rw [← ha2]
  refine sw_calli hz (va_runV (As := [.int a1, .int a2]) (rest := []) ⟨hx, hb, hml, hown, hts⟩ (hQ2 hK _) (cwV 2 hts gL_law_X7_derive rfl rfl rfl (by decide +kernel) ⟨Nat.le_of_ble_eq_true rfl, Nat.le_of_ble_eq_true rfl⟩) (hz.preV hK hm0 rfl) rfl rfl hl.1 rfl (lv_room (Nat.le_of_ble_eq_true rfl)) dL_law_476 ⟨by show n1 + 1 + 0 ≤ 601024; omega, by show n2 + 6 + 0 ≤ 7293034; omega⟩) (fun r2 I2 L2 A2 H locs hp hz => ?_)
  obtain ⟨hG, hth, hout⟩ := hj _ _ _ _ hp
  refine lv_istore (lv' := [(6, .int r2), (5, .int r1), (4, .int (nI i)), (3, .ref (b + 133)), (2, .ref (b + 124)), (1, .ref b), (0, .ref sb)]) hx hb dL_law_479 hl (by decide) rfl (fun ls hl => ?_)
  refine lv_aload_n hx hb dL_law_481 rfl (lv_at hl 4 rfl) ?_
  refine sw_calli hz (va_runV (As := []) (rest := []) ⟨hx, hb, hml, hown, hts⟩ (m_thrown hm0 hK _) (cwV 0 hts gL_law_X7_thrown rfl rfl rfl (by decide +kernel) ⟨Nat.le_of_ble_eq_true rfl, Nat.le_of_ble_eq_true rfl⟩) (hz.preV hK hm0 rfl) rfl rfl hl.1 rfl (lv_room (Nat.le_of_ble_eq_true rfl)) dL_law_482 ⟨by show n1 + 1 + 0 ≤ 601024; omega, by show n2 + 6 + 0 ≤ 7293034; omega⟩) (fun r3 I3 L3 A3 H locs hp hz => ?_)
  have hz9 := hz
  obtain ⟨e3, rfl, rfl, rfl⟩ := hp
  clear hz
  have hz := hz9
  rw [hth] at e3
  subst e3
  refine lv_iload hx hb dL_law_485 (lv_at hl 1 rfl) ?_
  refine lv_icmp_eq (tgt := 492) hx hb dL_law_487 (by decide) (fun _ => ?_) (fun qw => ?_)
  rotate_left
  · exact absurd rfl qw
  refine lv_iload hx hb dL_law_492 (lv_at hl 1 rfl) ?_
  refine lv_if_ne (tgt := 509) hx hb dL_law_494 (by decide) (fun qw => ?_) (fun qw => ?_)
  · skip
    refine lv_goto (tgt := 953) hx hb dL_law_509 (by decide) ?_
    exact fin _ _ _ H locs ls hG hz (lv_sub hl [2, 3, 4, 5, 6] rfl)
  refine lv_aload_n hx hb dL_law_497 rfl (lv_at hl 3 rfl) ?_
  refine lv_iconst (v := 0) hx hb dL_law_498 (by decide) ?_
  refine sw_lald hx hb hK hz ⟨1, ho, by exact vp_in_nI (n := 0) (by decide) (by decide)⟩ dL_law_499 ?_
  refine lv_iload hx hb dL_law_500 (lv_at hl 0 rfl) ?_
  refine lv_i2l hx hb dL_law_502 rfl ?_
  refine W.lcmp hx hb dL_law_503 ?_
  refine lv_if_eq (tgt := 509) hx hb dL_law_504 (by decide) (fun _ => ?_) (fun qz => ?_)
  rotate_left
  · exact absurd ((lg_cmp_eq _ _).mpr (by rw [ix0]; exact hout qw)) qz
  refine lv_goto (tgt := 953) hx hb dL_law_509 (by decide) ?_
  exact fin _ _ _ H locs ls hG hz (lv_sub hl [2, 3, 4, 5, 6] rfl)

set_option maxHeartbeats 1000000 in
set_option maxRecDepth 100000 in
theorem law_parts {p : Program} {K : Cx} {e : Env} {s : State} {m : MethodId} {below : List Frame} {meth : Method} {c : Code} (hst : (cxl K).stackTraces = false) (hK : CxOk K) {sb b N : Nat} {xs : Nat → Int32} (C0 : lw_At p s m meth c sb N xs) (hbs : cxb K = s.heap.size) (hx0 : cxS K b = shX6 b) (hm0 : cxS K (b + 124) = shX7 (b + 124)) (ho : cxS K (b + 133) = .inr (1, 1)) {I : TI} {L : TL} {A : TA} {H : Heap} {locs : List Loc} {ls : Array Slot} {i n1 n2 : Nat} (hi : i + 6 ≤ N) (hN : N ≤ 3072) (hn1 : n1 ≤ 600000) (hn2 : n2 ≤ 7000000) (hz : SS K s I L A H locs) {G : TI → TL → TA → Prop} (hj : ∀ a1 : Int32, JT K b (oS a1) yX6_parts wsX6_parts 7 182 yX7_parts wsX7_parts 7 170 [.int a1] I L A G) (hl : lv_has ls 7 [(4, .int (nI i)), (3, .ref (b + 133)), (2, .ref (b + 124)), (1, .ref b), (0, .ref sb)])
    (fin : ∀ (I : TI) (L : TL) (A : TA) (H : Heap) (locs : List Loc) (ls : Array Slot), G I L A → SS K s I L A H locs → lv_has ls 7 [(4, .int (nI i)), (3, .ref (b + 133)), (2, .ref (b + 124)), (1, .ref b), (0, .ref sb)] → W p (cxl K) e room_1 s m #[Value.ref sb] below meth c H locs (n1 + 1) (n2 + 6) (lw_Z below #[Value.ref sb] s) (F0 m 953 ls [])) : W p (cxl K) e room_1 s m #[Value.ref sb] below meth c H locs n1 n2 (lw_Z below #[Value.ref sb] s) (F0 m 672 ls []) := by
  obtain ⟨hx, hb, -, hml, hown, hts0, hX, hbl, hlocks, hgv⟩ := C0
  have hts : ∀ w ∈ wsL_law, w.before #[Value.ref sb] s = true := fun w h => hts0 w (wsL_law_in w h)
  have hbA : ¬ PA (cxb K) sb := by show ¬ cxb K ≤ sb; omega
  have hin : ∀ k, k < 6 → vp_in (nI i + nI k) N := fun k hk => by rw [nI_add]; exact vp_in_nI (by omega) (by omega)
  obtain ⟨a1, ha1⟩ : ∃ z, z = (xs (Int32.toNatClampNeg (nI i + 1))) := ⟨_, rfl⟩
  obtain ⟨S, hS, hj⟩ := hj a1
  refine lv_aload_n hx hb dL_law_672 rfl (lv_at hl 3 rfl) ?_
  refine lv_aload_n hx hb dL_law_673 rfl (lv_at hl 4 rfl) ?_
  refine lv_iload hx hb dL_law_674 (lv_at hl 0 rfl) ?_
  refine lv_iconst (v := 1) hx hb dL_law_676 (by decide) ?_
  refine lv_iadd hx hb dL_law_677 ?_
  refine va_sld hx hb hX hbl hbA hz.2.1 (hin 1 (by decide)) dL_law_678 ?_
  rw [← ha1]
  refine lv_aload_n hx hb dL_law_679 rfl (lv_at hl 1 rfl) ?_
  refine pw_callim hz (vx_runSW (As := [.ref b, .int a1, .ref (b + 133)]) (rest := []) ⟨hx, hb, hml, hown, hts⟩ (h_parts hst hx0 ho hS hK _) (vx_cwSW 3 hts gL_law_L_parts rfl rfl rfl (by decide +kernel) ⟨Nat.le_of_ble_eq_true rfl, Nat.le_of_ble_eq_true rfl⟩) hz.preS rfl rfl hl.1 rfl (lv_room (Nat.le_of_ble_eq_true rfl)) dL_law_680 ⟨by show n1 + 1 ≤ 601024; omega, by show n2 + 6 ≤ 7293034; omega⟩) (fun r1 E1 H locs hp hz => ?_)
  obtain ⟨I1, L1, A1, rfl, hp⟩ := hp
  have hz : SS K s I1 L1 A1 H locs := hz
  obtain ⟨Q2, hQ2, hj⟩ := hj _ _ _ _ hp
  refine lv_istore (lv' := [(5, .int r1), (4, .int (nI i)), (3, .ref (b + 133)), (2, .ref (b + 124)), (1, .ref b), (0, .ref sb)]) hx hb dL_law_683 hl (by decide) rfl (fun ls hl => ?_)
  refine lv_aload_n hx hb dL_law_685 rfl (lv_at hl 3 rfl) ?_
  refine lv_aload_n hx hb dL_law_686 rfl (lv_at hl 5 rfl) ?_
  refine lv_iload hx hb dL_law_687 (lv_at hl 1 rfl) ?_
  refine lv_iconst (v := 1) hx hb dL_law_689 (by decide) ?_
  refine lv_iadd hx hb dL_law_690 ?_
  refine va_sld hx hb hX hbl hbA hz.2.1 (hin 1 (by decide)) dL_law_691 ?_
  rw [← ha1]
  refine sw_calli hz (va_runV (As := [.int a1]) (rest := []) ⟨hx, hb, hml, hown, hts⟩ (hQ2 hK _) (cwV 1 hts gL_law_X7_parts rfl rfl rfl (by decide +kernel) ⟨Nat.le_of_ble_eq_true rfl, Nat.le_of_ble_eq_true rfl⟩) (hz.preV hK hm0 rfl) rfl rfl hl.1 rfl (lv_room (Nat.le_of_ble_eq_true rfl)) dL_law_692 ⟨by show n1 + 1 + 0 ≤ 601024; omega, by show n2 + 6 + 0 ≤ 7293034; omega⟩) (fun r2 I2 L2 A2 H locs hp hz => ?_)
  obtain ⟨hG, hth, hout⟩ := hj _ _ _ _ hp
  refine lv_istore (lv' := [(6, .int r2), (5, .int r1), (4, .int (nI i)), (3, .ref (b + 133)), (2, .ref (b + 124)), (1, .ref b), (0, .ref sb)]) hx hb dL_law_695 hl (by decide) rfl (fun ls hl => ?_)
  refine lv_aload_n hx hb dL_law_697 rfl (lv_at hl 4 rfl) ?_
  refine sw_calli hz (va_runV (As := []) (rest := []) ⟨hx, hb, hml, hown, hts⟩ (m_thrown hm0 hK _) (cwV 0 hts gL_law_X7_thrown rfl rfl rfl (by decide +kernel) ⟨Nat.le_of_ble_eq_true rfl, Nat.le_of_ble_eq_true rfl⟩) (hz.preV hK hm0 rfl) rfl rfl hl.1 rfl (lv_room (Nat.le_of_ble_eq_true rfl)) dL_law_698 ⟨by show n1 + 1 + 0 ≤ 601024; omega, by show n2 + 6 + 0 ≤ 7293034; omega⟩) (fun r3 I3 L3 A3 H locs hp hz => ?_)
  have hz9 := hz
  obtain ⟨e3, rfl, rfl, rfl⟩ := hp
  clear hz
  have hz := hz9
  rw [hth] at e3
  subst e3
  refine lv_iload hx hb dL_law_701 (lv_at hl 1 rfl) ?_
  refine lv_icmp_eq (tgt := 708) hx hb dL_law_703 (by decide) (fun _ => ?_) (fun qw => ?_)
  rotate_left
  · exact absurd rfl qw
  refine lv_iload hx hb dL_law_708 (lv_at hl 1 rfl) ?_
  refine lv_if_ne (tgt := 725) hx hb dL_law_710 (by decide) (fun qw => ?_) (fun qw => ?_)
  · skip
    refine lv_goto (tgt := 953) hx hb dL_law_725 (by decide) ?_
    exact fin _ _ _ H locs ls hG hz (lv_sub hl [2, 3, 4, 5, 6] rfl)
  refine lv_aload_n hx hb dL_law_713 rfl (lv_at hl 3 rfl) ?_
  refine lv_iconst (v := 0) hx hb dL_law_714 (by decide) ?_
  refine sw_lald hx hb hK hz ⟨1, ho, by exact vp_in_nI (n := 0) (by decide) (by decide)⟩ dL_law_715 ?_
  refine lv_iload hx hb dL_law_716 (lv_at hl 0 rfl) ?_
  refine lv_i2l hx hb dL_law_718 rfl ?_
  refine W.lcmp hx hb dL_law_719 ?_
  refine lv_if_eq (tgt := 725) hx hb dL_law_720 (by decide) (fun _ => ?_) (fun qz => ?_)
  rotate_left
  · exact absurd ((lg_cmp_eq _ _).mpr (by rw [ix0]; exact hout qw)) qz
  refine lv_goto (tgt := 953) hx hb dL_law_725 (by decide) ?_
  exact fin _ _ _ H locs ls hG hz (lv_sub hl [2, 3, 4, 5, 6] rfl)

set_option maxHeartbeats 1000000 in
set_option maxRecDepth 100000 in
theorem law_galois {p : Program} {K : Cx} {e : Env} {s : State} {m : MethodId} {below : List Frame} {meth : Method} {c : Code} (hst : (cxl K).stackTraces = false) (hK : CxOk K) {sb b N : Nat} {xs : Nat → Int32} (C0 : lw_At p s m meth c sb N xs) (hbs : cxb K = s.heap.size) (hx0 : cxS K b = shX6 b) (hm0 : cxS K (b + 124) = shX7 (b + 124)) (ho : cxS K (b + 133) = .inr (1, 1)) {I : TI} {L : TL} {A : TA} {H : Heap} {locs : List Loc} {ls : Array Slot} {i n1 n2 : Nat} (hi : i + 6 ≤ N) (hN : N ≤ 3072) (hn1 : n1 ≤ 600000) (hn2 : n2 ≤ 7000000) (hz : SS K s I L A H locs) {G : TI → TL → TA → Prop} (hj : ∀ a1 : Int32, JT K b (oS a1) yX6_galois wsX6_galois 7 182 yX7_galois wsX7_galois 7 170 [.int a1] I L A G) (hl : lv_has ls 7 [(4, .int (nI i)), (3, .ref (b + 133)), (2, .ref (b + 124)), (1, .ref b), (0, .ref sb)])
    (fin : ∀ (I : TI) (L : TL) (A : TA) (H : Heap) (locs : List Loc) (ls : Array Slot), G I L A → SS K s I L A H locs → lv_has ls 7 [(4, .int (nI i)), (3, .ref (b + 133)), (2, .ref (b + 124)), (1, .ref b), (0, .ref sb)] → W p (cxl K) e room_1 s m #[Value.ref sb] below meth c H locs (n1 + 1) (n2 + 6) (lw_Z below #[Value.ref sb] s) (F0 m 953 ls [])) : W p (cxl K) e room_1 s m #[Value.ref sb] below meth c H locs n1 n2 (lw_Z below #[Value.ref sb] s) (F0 m 897 ls []) := by
  obtain ⟨hx, hb, -, hml, hown, hts0, hX, hbl, hlocks, hgv⟩ := C0
  have hts : ∀ w ∈ wsL_law, w.before #[Value.ref sb] s = true := fun w h => hts0 w (wsL_law_in w h)
  have hbA : ¬ PA (cxb K) sb := by show ¬ cxb K ≤ sb; omega
  have hin : ∀ k, k < 6 → vp_in (nI i + nI k) N := fun k hk => by rw [nI_add]; exact vp_in_nI (by omega) (by omega)
  obtain ⟨a1, ha1⟩ : ∃ z, z = (xs (Int32.toNatClampNeg (nI i + 1))) := ⟨_, rfl⟩
  obtain ⟨S, hS, hj⟩ := hj a1
  refine lv_aload_n hx hb dL_law_897 rfl (lv_at hl 3 rfl) ?_
  refine lv_aload_n hx hb dL_law_898 rfl (lv_at hl 4 rfl) ?_
  refine lv_iload hx hb dL_law_899 (lv_at hl 0 rfl) ?_
  refine lv_iconst (v := 1) hx hb dL_law_901 (by decide) ?_
  refine lv_iadd hx hb dL_law_902 ?_
  refine va_sld hx hb hX hbl hbA hz.2.1 (hin 1 (by decide)) dL_law_903 ?_
  rw [← ha1]
  refine lv_aload_n hx hb dL_law_904 rfl (lv_at hl 1 rfl) ?_
  refine pw_callim hz (vx_runSW (As := [.ref b, .int a1, .ref (b + 133)]) (rest := []) ⟨hx, hb, hml, hown, hts⟩ (h_galois hst hx0 ho hS hK _) (vx_cwSW 3 hts gL_law_L_galois rfl rfl rfl (by decide +kernel) ⟨Nat.le_of_ble_eq_true rfl, Nat.le_of_ble_eq_true rfl⟩) hz.preS rfl rfl hl.1 rfl (lv_room (Nat.le_of_ble_eq_true rfl)) dL_law_905 ⟨by show n1 + 1 ≤ 601024; omega, by show n2 + 6 ≤ 7293034; omega⟩) (fun r1 E1 H locs hp hz => ?_)
  obtain ⟨I1, L1, A1, rfl, hp⟩ := hp
  have hz : SS K s I1 L1 A1 H locs := hz
  obtain ⟨Q2, hQ2, hj⟩ := hj _ _ _ _ hp
  refine lv_istore (lv' := [(5, .int r1), (4, .int (nI i)), (3, .ref (b + 133)), (2, .ref (b + 124)), (1, .ref b), (0, .ref sb)]) hx hb dL_law_908 hl (by decide) rfl (fun ls hl => ?_)
  refine lv_aload_n hx hb dL_law_910 rfl (lv_at hl 3 rfl) ?_
  refine lv_aload_n hx hb dL_law_911 rfl (lv_at hl 5 rfl) ?_
  refine lv_iload hx hb dL_law_912 (lv_at hl 1 rfl) ?_
  refine lv_iconst (v := 1) hx hb dL_law_914 (by decide) ?_
  refine lv_iadd hx hb dL_law_915 ?_
  refine va_sld hx hb hX hbl hbA hz.2.1 (hin 1 (by decide)) dL_law_916 ?_
  rw [← ha1]
  refine sw_calli hz (va_runV (As := [.int a1]) (rest := []) ⟨hx, hb, hml, hown, hts⟩ (hQ2 hK _) (cwV 1 hts gL_law_X7_galois rfl rfl rfl (by decide +kernel) ⟨Nat.le_of_ble_eq_true rfl, Nat.le_of_ble_eq_true rfl⟩) (hz.preV hK hm0 rfl) rfl rfl hl.1 rfl (lv_room (Nat.le_of_ble_eq_true rfl)) dL_law_917 ⟨by show n1 + 1 + 0 ≤ 601024; omega, by show n2 + 6 + 0 ≤ 7293034; omega⟩) (fun r2 I2 L2 A2 H locs hp hz => ?_)
  obtain ⟨hG, hth, hout⟩ := hj _ _ _ _ hp
  refine lv_istore (lv' := [(6, .int r2), (5, .int r1), (4, .int (nI i)), (3, .ref (b + 133)), (2, .ref (b + 124)), (1, .ref b), (0, .ref sb)]) hx hb dL_law_920 hl (by decide) rfl (fun ls hl => ?_)
  refine lv_aload_n hx hb dL_law_922 rfl (lv_at hl 4 rfl) ?_
  refine sw_calli hz (va_runV (As := []) (rest := []) ⟨hx, hb, hml, hown, hts⟩ (m_thrown hm0 hK _) (cwV 0 hts gL_law_X7_thrown rfl rfl rfl (by decide +kernel) ⟨Nat.le_of_ble_eq_true rfl, Nat.le_of_ble_eq_true rfl⟩) (hz.preV hK hm0 rfl) rfl rfl hl.1 rfl (lv_room (Nat.le_of_ble_eq_true rfl)) dL_law_923 ⟨by show n1 + 1 + 0 ≤ 601024; omega, by show n2 + 6 + 0 ≤ 7293034; omega⟩) (fun r3 I3 L3 A3 H locs hp hz => ?_)
  have hz9 := hz
  obtain ⟨e3, rfl, rfl, rfl⟩ := hp
  clear hz
  have hz := hz9
  rw [hth] at e3
  subst e3
  refine lv_iload hx hb dL_law_926 (lv_at hl 1 rfl) ?_
  refine lv_icmp_eq (tgt := 933) hx hb dL_law_928 (by decide) (fun _ => ?_) (fun qw => ?_)
  rotate_left
  · exact absurd rfl qw
  refine lv_iload hx hb dL_law_933 (lv_at hl 1 rfl) ?_
  refine lv_if_ne (tgt := 950) hx hb dL_law_935 (by decide) (fun qw => ?_) (fun qw => ?_)
  · skip
    refine lv_goto (tgt := 953) hx hb dL_law_950 (by decide) ?_
    exact fin _ _ _ H locs ls hG hz (lv_sub hl [2, 3, 4, 5, 6] rfl)
  refine lv_aload_n hx hb dL_law_938 rfl (lv_at hl 3 rfl) ?_
  refine lv_iconst (v := 0) hx hb dL_law_939 (by decide) ?_
  refine sw_lald hx hb hK hz ⟨1, ho, by exact vp_in_nI (n := 0) (by decide) (by decide)⟩ dL_law_940 ?_
  refine lv_iload hx hb dL_law_941 (lv_at hl 0 rfl) ?_
  refine lv_i2l hx hb dL_law_943 rfl ?_
  refine W.lcmp hx hb dL_law_944 ?_
  refine lv_if_eq (tgt := 950) hx hb dL_law_945 (by decide) (fun _ => ?_) (fun qz => ?_)
  rotate_left
  · exact absurd ((lg_cmp_eq _ _).mpr (by rw [ix0]; exact hout qw)) qz
  refine lv_goto (tgt := 953) hx hb dL_law_950 (by decide) ?_
  exact fin _ _ _ H locs ls hG hz (lv_sub hl [2, 3, 4, 5, 6] rfl)

set_option maxHeartbeats 1000000 in
set_option maxRecDepth 100000 in
theorem law_pattern {p : Program} {K : Cx} {e : Env} {s : State} {m : MethodId} {below : List Frame} {meth : Method} {c : Code} (hst : (cxl K).stackTraces = false) (hK : CxOk K) {sb b N : Nat} {xs : Nat → Int32} (C0 : lw_At p s m meth c sb N xs) (hbs : cxb K = s.heap.size) (hx0 : cxS K b = shX6 b) (hm0 : cxS K (b + 124) = shX7 (b + 124)) (ho : cxS K (b + 133) = .inr (1, 1)) {I : TI} {L : TL} {A : TA} {H : Heap} {locs : List Loc} {ls : Array Slot} {i n1 n2 : Nat} (hi : i + 6 ≤ N) (hN : N ≤ 3072) (hn1 : n1 ≤ 600000) (hn2 : n2 ≤ 7000000) (hz : SS K s I L A H locs) {G : TI → TL → TA → Prop} (hj : ∀ a1 a2 : Int32, JT K b (oS a1 ∧ oP a2) yX6_pattern wsX6_pattern 5 139 yX7_pattern wsX7_pattern 4 97 [.int a1, .int a2] I L A G) (hl : lv_has ls 7 [(4, .int (nI i)), (3, .ref (b + 133)), (2, .ref (b + 124)), (1, .ref b), (0, .ref sb)])
    (fin : ∀ (I : TI) (L : TL) (A : TA) (H : Heap) (locs : List Loc) (ls : Array Slot), G I L A → SS K s I L A H locs → lv_has ls 7 [(4, .int (nI i)), (3, .ref (b + 133)), (2, .ref (b + 124)), (1, .ref b), (0, .ref sb)] → W p (cxl K) e room_1 s m #[Value.ref sb] below meth c H locs (n1 + 1) (n2 + 6) (lw_Z below #[Value.ref sb] s) (F0 m 953 ls [])) : W p (cxl K) e room_1 s m #[Value.ref sb] below meth c H locs n1 n2 (lw_Z below #[Value.ref sb] s) (F0 m 804 ls []) := by
  obtain ⟨hx, hb, -, hml, hown, hts0, hX, hbl, hlocks, hgv⟩ := C0
  have hts : ∀ w ∈ wsL_law, w.before #[Value.ref sb] s = true := fun w h => hts0 w (wsL_law_in w h)
  have hbA : ¬ PA (cxb K) sb := by show ¬ cxb K ≤ sb; omega
  have hin : ∀ k, k < 6 → vp_in (nI i + nI k) N := fun k hk => by rw [nI_add]; exact vp_in_nI (by omega) (by omega)
  obtain ⟨a1, ha1⟩ : ∃ z, z = (xs (Int32.toNatClampNeg (nI i + 1))) := ⟨_, rfl⟩
  obtain ⟨a2, ha2⟩ : ∃ z, z = (xs (Int32.toNatClampNeg (nI i + 2))) := ⟨_, rfl⟩
  obtain ⟨S, hS, hj⟩ := hj a1 a2
  refine lv_aload_n hx hb dL_law_804 rfl (lv_at hl 3 rfl) ?_
  refine lv_aload_n hx hb dL_law_805 rfl (lv_at hl 4 rfl) ?_
  refine lv_iload hx hb dL_law_806 (lv_at hl 0 rfl) ?_
  refine lv_iconst (v := 1) hx hb dL_law_808 (by decide) ?_
  refine lv_iadd hx hb dL_law_809 ?_
  refine va_sld hx hb hX hbl hbA hz.2.1 (hin 1 (by decide)) dL_law_810 ?_
  rw [← ha1]
  refine lv_aload_n hx hb dL_law_811 rfl (lv_at hl 4 rfl) ?_
  refine lv_iload hx hb dL_law_812 (lv_at hl 0 rfl) ?_
  refine lv_iconst (v := 2) hx hb dL_law_814 (by decide) ?_
  refine lv_iadd hx hb dL_law_815 ?_
  refine va_sld hx hb hX hbl hbA hz.2.1 (hin 2 (by decide)) dL_law_816 ?_
  rw [← ha2]
  refine lv_aload_n hx hb dL_law_817 rfl (lv_at hl 1 rfl) ?_
  refine pw_callim hz (vx_runSW (As := [.ref b, .int a1, .int a2, .ref (b + 133)]) (rest := []) ⟨hx, hb, hml, hown, hts⟩ (h_pattern hst hx0 ho hS hK _) (vx_cwSW 4 hts gL_law_L_pattern rfl rfl rfl (by decide +kernel) ⟨Nat.le_of_ble_eq_true rfl, Nat.le_of_ble_eq_true rfl⟩) hz.preS rfl rfl hl.1 rfl (lv_room (Nat.le_of_ble_eq_true rfl)) dL_law_818 ⟨by show n1 + 1 ≤ 601024; omega, by show n2 + 6 ≤ 7293034; omega⟩) (fun r1 E1 H locs hp hz => ?_)
  obtain ⟨I1, L1, A1, rfl, hp⟩ := hp
  have hz : SS K s I1 L1 A1 H locs := hz
  obtain ⟨Q2, hQ2, hj⟩ := hj _ _ _ _ hp
  refine lv_istore (lv' := [(5, .int r1), (4, .int (nI i)), (3, .ref (b + 133)), (2, .ref (b + 124)), (1, .ref b), (0, .ref sb)]) hx hb dL_law_821 hl (by decide) rfl (fun ls hl => ?_)
  refine lv_aload_n hx hb dL_law_823 rfl (lv_at hl 3 rfl) ?_
  refine lv_aload_n hx hb dL_law_824 rfl (lv_at hl 5 rfl) ?_
  refine lv_iload hx hb dL_law_825 (lv_at hl 1 rfl) ?_
  refine lv_iconst (v := 1) hx hb dL_law_827 (by decide) ?_
  refine lv_iadd hx hb dL_law_828 ?_
  refine va_sld hx hb hX hbl hbA hz.2.1 (hin 1 (by decide)) dL_law_829 ?_
  rw [← ha1]
  refine lv_aload_n hx hb dL_law_830 rfl (lv_at hl 5 rfl) ?_
  refine lv_iload hx hb dL_law_831 (lv_at hl 1 rfl) ?_
  refine lv_iconst (v := 2) hx hb dL_law_833 (by decide) ?_
  refine lv_iadd hx hb dL_law_834 ?_
  refine va_sld hx hb hX hbl hbA hz.2.1 (hin 2 (by decide)) dL_law_835 ?_
  rw [← ha2]
  refine sw_calli hz (va_runV (As := [.int a1, .int a2]) (rest := []) ⟨hx, hb, hml, hown, hts⟩ (hQ2 hK _) (cwV 2 hts gL_law_X7_pattern rfl rfl rfl (by decide +kernel) ⟨Nat.le_of_ble_eq_true rfl, Nat.le_of_ble_eq_true rfl⟩) (hz.preV hK hm0 rfl) rfl rfl hl.1 rfl (lv_room (Nat.le_of_ble_eq_true rfl)) dL_law_836 ⟨by show n1 + 1 + 0 ≤ 601024; omega, by show n2 + 6 + 0 ≤ 7293034; omega⟩) (fun r2 I2 L2 A2 H locs hp hz => ?_)
  obtain ⟨hG, hth, hout⟩ := hj _ _ _ _ hp
  refine lv_istore (lv' := [(6, .int r2), (5, .int r1), (4, .int (nI i)), (3, .ref (b + 133)), (2, .ref (b + 124)), (1, .ref b), (0, .ref sb)]) hx hb dL_law_839 hl (by decide) rfl (fun ls hl => ?_)
  refine lv_aload_n hx hb dL_law_841 rfl (lv_at hl 4 rfl) ?_
  refine sw_calli hz (va_runV (As := []) (rest := []) ⟨hx, hb, hml, hown, hts⟩ (m_thrown hm0 hK _) (cwV 0 hts gL_law_X7_thrown rfl rfl rfl (by decide +kernel) ⟨Nat.le_of_ble_eq_true rfl, Nat.le_of_ble_eq_true rfl⟩) (hz.preV hK hm0 rfl) rfl rfl hl.1 rfl (lv_room (Nat.le_of_ble_eq_true rfl)) dL_law_842 ⟨by show n1 + 1 + 0 ≤ 601024; omega, by show n2 + 6 + 0 ≤ 7293034; omega⟩) (fun r3 I3 L3 A3 H locs hp hz => ?_)
  have hz9 := hz
  obtain ⟨e3, rfl, rfl, rfl⟩ := hp
  clear hz
  have hz := hz9
  rw [hth] at e3
  subst e3
  refine lv_iload hx hb dL_law_845 (lv_at hl 1 rfl) ?_
  refine lv_icmp_eq (tgt := 852) hx hb dL_law_847 (by decide) (fun _ => ?_) (fun qw => ?_)
  rotate_left
  · exact absurd rfl qw
  refine lv_iload hx hb dL_law_852 (lv_at hl 1 rfl) ?_
  refine lv_if_ne (tgt := 869) hx hb dL_law_854 (by decide) (fun qw => ?_) (fun qw => ?_)
  · skip
    refine lv_goto (tgt := 953) hx hb dL_law_869 (by decide) ?_
    exact fin _ _ _ H locs ls hG hz (lv_sub hl [2, 3, 4, 5, 6] rfl)
  refine lv_aload_n hx hb dL_law_857 rfl (lv_at hl 3 rfl) ?_
  refine lv_iconst (v := 0) hx hb dL_law_858 (by decide) ?_
  refine sw_lald hx hb hK hz ⟨1, ho, by exact vp_in_nI (n := 0) (by decide) (by decide)⟩ dL_law_859 ?_
  refine lv_iload hx hb dL_law_860 (lv_at hl 0 rfl) ?_
  refine lv_i2l hx hb dL_law_862 rfl ?_
  refine W.lcmp hx hb dL_law_863 ?_
  refine lv_if_eq (tgt := 869) hx hb dL_law_864 (by decide) (fun _ => ?_) (fun qz => ?_)
  rotate_left
  · exact absurd ((lg_cmp_eq _ _).mpr (by rw [ix0]; exact hout qw)) qz
  refine lv_goto (tgt := 953) hx hb dL_law_869 (by decide) ?_
  exact fin _ _ _ H locs ls hG hz (lv_sub hl [2, 3, 4, 5, 6] rfl)

set_option maxHeartbeats 1000000 in
set_option maxRecDepth 100000 in
theorem law_part {p : Program} {K : Cx} {e : Env} {s : State} {m : MethodId} {below : List Frame} {meth : Method} {c : Code} (hst : (cxl K).stackTraces = false) (hK : CxOk K) {sb b N : Nat} {xs : Nat → Int32} (C0 : lw_At p s m meth c sb N xs) (hbs : cxb K = s.heap.size) (hx0 : cxS K b = shX6 b) (hm0 : cxS K (b + 124) = shX7 (b + 124)) (ho : cxS K (b + 133) = .inr (1, 1)) {I : TI} {L : TL} {A : TA} {H : Heap} {locs : List Loc} {ls : Array Slot} {i n1 n2 : Nat} (hi : i + 6 ≤ N) (hN : N ≤ 3072) (hn1 : n1 ≤ 600000) (hn2 : n2 ≤ 7000000) (hz : SS K s I L A H locs) {G : TI → TL → TA → Prop} (hj : ∀ a1 a2 : Int32, JPl K b yX6_part wsX6_part 1 21 yX7_part wsX7_part 1 22 [.int a1, .int a2] I L A G) (hl : lv_has ls 7 [(4, .int (nI i)), (3, .ref (b + 133)), (2, .ref (b + 124)), (1, .ref b), (0, .ref sb)])
    (fin : ∀ (I : TI) (L : TL) (A : TA) (H : Heap) (locs : List Loc) (ls : Array Slot), G I L A → SS K s I L A H locs → lv_has ls 7 [(4, .int (nI i)), (3, .ref (b + 133)), (2, .ref (b + 124)), (1, .ref b), (0, .ref sb)] → W p (cxl K) e room_1 s m #[Value.ref sb] below meth c H locs (n1 + 1) (n2 + 6) (lw_Z below #[Value.ref sb] s) (F0 m 953 ls [])) : W p (cxl K) e room_1 s m #[Value.ref sb] below meth c H locs n1 n2 (lw_Z below #[Value.ref sb] s) (F0 m 728 ls []) := by
  obtain ⟨hx, hb, -, hml, hown, hts0, hX, hbl, hlocks, hgv⟩ := C0
  have hts : ∀ w ∈ wsL_law, w.before #[Value.ref sb] s = true := fun w h => hts0 w (wsL_law_in w h)
  have hbA : ¬ PA (cxb K) sb := by show ¬ cxb K ≤ sb; omega
  have hin : ∀ k, k < 6 → vp_in (nI i + nI k) N := fun k hk => by rw [nI_add]; exact vp_in_nI (by omega) (by omega)
  obtain ⟨a1, ha1⟩ : ∃ z, z = (xs (Int32.toNatClampNeg (nI i + 1))) := ⟨_, rfl⟩
  obtain ⟨a2, ha2⟩ : ∃ z, z = (xs (Int32.toNatClampNeg (nI i + 2))) := ⟨_, rfl⟩
  obtain ⟨S, hS, hj⟩ := hj a1 a2
  refine lv_aload_n hx hb dL_law_728 rfl (lv_at hl 3 rfl) ?_
  refine lv_aload_n hx hb dL_law_729 rfl (lv_at hl 4 rfl) ?_
  refine lv_iload hx hb dL_law_730 (lv_at hl 0 rfl) ?_
  refine lv_iconst (v := 1) hx hb dL_law_732 (by decide) ?_
  refine lv_iadd hx hb dL_law_733 ?_
  refine va_sld hx hb hX hbl hbA hz.2.1 (hin 1 (by decide)) dL_law_734 ?_
  rw [← ha1]
  refine lv_aload_n hx hb dL_law_735 rfl (lv_at hl 4 rfl) ?_
  refine lv_iload hx hb dL_law_736 (lv_at hl 0 rfl) ?_
  refine lv_iconst (v := 2) hx hb dL_law_738 (by decide) ?_
  refine lv_iadd hx hb dL_law_739 ?_
  refine va_sld hx hb hX hbl hbA hz.2.1 (hin 2 (by decide)) dL_law_740 ?_
  rw [← ha2]
  refine sw_calll hz (va_runV (As := [.int a1, .int a2]) (rest := []) ⟨hx, hb, hml, hown, hts⟩ (hS hK _) (cwV 2 hts gL_law_X6_part rfl rfl rfl (by decide +kernel) ⟨Nat.le_of_ble_eq_true rfl, Nat.le_of_ble_eq_true rfl⟩) (hz.preV hK hx0 rfl) rfl rfl hl.1 rfl (lv_room (Nat.le_of_ble_eq_true rfl)) dL_law_741 ⟨by show n1 + 0 ≤ 601024; omega, by show n2 + 0 ≤ 7293034; omega⟩) (fun r1 I1 L1 A1 H locs hp hz => ?_)
  obtain ⟨Q2, hQ2, hj⟩ := hj _ _ _ _ hp
  refine lv_aload_n hx hb dL_law_744 rfl (lv_at hl 2 rfl) ?_
  refine lv_aload_n hx hb dL_law_745 rfl (lv_at hl 4 rfl) ?_
  refine lv_iload hx hb dL_law_746 (lv_at hl 0 rfl) ?_
  refine lv_iconst (v := 1) hx hb dL_law_748 (by decide) ?_
  refine lv_iadd hx hb dL_law_749 ?_
  refine va_sld hx hb hX hbl hbA hz.2.1 (hin 1 (by decide)) dL_law_750 ?_
  rw [← ha1]
  refine lv_aload_n hx hb dL_law_751 rfl (lv_at hl 4 rfl) ?_
  refine lv_iload hx hb dL_law_752 (lv_at hl 0 rfl) ?_
  refine lv_iconst (v := 2) hx hb dL_law_754 (by decide) ?_
  refine lv_iadd hx hb dL_law_755 ?_
  refine va_sld hx hb hX hbl hbA hz.2.1 (hin 2 (by decide)) dL_law_756 ?_
  rw [← ha2]
  refine sw_calll hz (va_runV (As := [.int a1, .int a2]) (rest := [.long r1]) ⟨hx, hb, hml, hown, hts⟩ (hQ2 hK _) (cwV 2 hts gL_law_X7_part rfl rfl rfl (by decide +kernel) ⟨Nat.le_of_ble_eq_true rfl, Nat.le_of_ble_eq_true rfl⟩) (hz.preV hK hm0 rfl) rfl rfl hl.1 rfl (lv_room (Nat.le_of_ble_eq_true rfl)) dL_law_757 ⟨by show n1 + 0 ≤ 601024; omega, by show n2 + 0 ≤ 7293034; omega⟩) (fun r2 I2 L2 A2 H locs hp hz => ?_)
  obtain ⟨hG, er⟩ := hj _ _ _ _ hp
  subst er
  refine W.lcmp hx hb dL_law_760 ?_
  refine lv_if_eq (tgt := 953) hx hb dL_law_761 (by decide) (fun _ => ?_) (fun qw => ?_)
  rotate_left
  · exact absurd ((lg_cmp_eq _ _).mpr rfl) qw
  refine W.widen (k := n1 + 1) (n := n2 + 6) (by omega) (by omega) ?_
  exact fin _ _ _ H locs ls hG hz (lv_sub hl [0, 1, 2, 3, 4] rfl)

set_option maxHeartbeats 1000000 in
set_option maxRecDepth 100000 in
theorem law_times {p : Program} {K : Cx} {e : Env} {s : State} {m : MethodId} {below : List Frame} {meth : Method} {c : Code} (hst : (cxl K).stackTraces = false) (hK : CxOk K) {sb b N : Nat} {xs : Nat → Int32} (C0 : lw_At p s m meth c sb N xs) (hbs : cxb K = s.heap.size) (hx0 : cxS K b = shX6 b) (hm0 : cxS K (b + 124) = shX7 (b + 124)) (ho : cxS K (b + 133) = .inr (1, 1)) {I : TI} {L : TL} {A : TA} {H : Heap} {locs : List Loc} {ls : Array Slot} {i n1 n2 : Nat} (hi : i + 6 ≤ N) (hN : N ≤ 3072) (hn1 : n1 ≤ 600000) (hn2 : n2 ≤ 7000000) (hz : SS K s I L A H locs) {G : TI → TL → TA → Prop} (hj : ∀ a1 : Int32, JPi K b yX6_times wsX6_times 1 21 yX7_times wsX7_times 1 22 [.int a1] I L A G) (hl : lv_has ls 7 [(4, .int (nI i)), (3, .ref (b + 133)), (2, .ref (b + 124)), (1, .ref b), (0, .ref sb)])
    (fin : ∀ (I : TI) (L : TL) (A : TA) (H : Heap) (locs : List Loc) (ls : Array Slot), G I L A → SS K s I L A H locs → lv_has ls 7 [(4, .int (nI i)), (3, .ref (b + 133)), (2, .ref (b + 124)), (1, .ref b), (0, .ref sb)] → W p (cxl K) e room_1 s m #[Value.ref sb] below meth c H locs (n1 + 1) (n2 + 6) (lw_Z below #[Value.ref sb] s) (F0 m 953 ls [])) : W p (cxl K) e room_1 s m #[Value.ref sb] below meth c H locs n1 n2 (lw_Z below #[Value.ref sb] s) (F0 m 766 ls []) := by
  obtain ⟨hx, hb, -, hml, hown, hts0, hX, hbl, hlocks, hgv⟩ := C0
  have hts : ∀ w ∈ wsL_law, w.before #[Value.ref sb] s = true := fun w h => hts0 w (wsL_law_in w h)
  have hbA : ¬ PA (cxb K) sb := by show ¬ cxb K ≤ sb; omega
  have hin : ∀ k, k < 6 → vp_in (nI i + nI k) N := fun k hk => by rw [nI_add]; exact vp_in_nI (by omega) (by omega)
  obtain ⟨a1, ha1⟩ : ∃ z, z = (xs (Int32.toNatClampNeg (nI i + 1))) := ⟨_, rfl⟩
  obtain ⟨S, hS, hj⟩ := hj a1
  refine lv_aload_n hx hb dL_law_766 rfl (lv_at hl 3 rfl) ?_
  refine lv_aload_n hx hb dL_law_767 rfl (lv_at hl 4 rfl) ?_
  refine lv_iload hx hb dL_law_768 (lv_at hl 0 rfl) ?_
  refine lv_iconst (v := 1) hx hb dL_law_770 (by decide) ?_
  refine lv_iadd hx hb dL_law_771 ?_
  refine va_sld hx hb hX hbl hbA hz.2.1 (hin 1 (by decide)) dL_law_772 ?_
  rw [← ha1]
  refine sw_calli hz (va_runV (As := [.int a1]) (rest := []) ⟨hx, hb, hml, hown, hts⟩ (hS hK _) (cwV 1 hts gL_law_X6_times rfl rfl rfl (by decide +kernel) ⟨Nat.le_of_ble_eq_true rfl, Nat.le_of_ble_eq_true rfl⟩) (hz.preV hK hx0 rfl) rfl rfl hl.1 rfl (lv_room (Nat.le_of_ble_eq_true rfl)) dL_law_773 ⟨by show n1 + 0 ≤ 601024; omega, by show n2 + 0 ≤ 7293034; omega⟩) (fun r1 I1 L1 A1 H locs hp hz => ?_)
  obtain ⟨Q2, hQ2, hj⟩ := hj _ _ _ _ hp
  refine lv_aload_n hx hb dL_law_776 rfl (lv_at hl 2 rfl) ?_
  refine lv_aload_n hx hb dL_law_777 rfl (lv_at hl 4 rfl) ?_
  refine lv_iload hx hb dL_law_778 (lv_at hl 0 rfl) ?_
  refine lv_iconst (v := 1) hx hb dL_law_780 (by decide) ?_
  refine lv_iadd hx hb dL_law_781 ?_
  refine va_sld hx hb hX hbl hbA hz.2.1 (hin 1 (by decide)) dL_law_782 ?_
  rw [← ha1]
  refine sw_calli hz (va_runV (As := [.int a1]) (rest := [.int r1]) ⟨hx, hb, hml, hown, hts⟩ (hQ2 hK _) (cwV 1 hts gL_law_X7_times rfl rfl rfl (by decide +kernel) ⟨Nat.le_of_ble_eq_true rfl, Nat.le_of_ble_eq_true rfl⟩) (hz.preV hK hm0 rfl) rfl rfl hl.1 rfl (lv_room (Nat.le_of_ble_eq_true rfl)) dL_law_783 ⟨by show n1 + 0 ≤ 601024; omega, by show n2 + 0 ≤ 7293034; omega⟩) (fun r2 I2 L2 A2 H locs hp hz => ?_)
  obtain ⟨hG, er⟩ := hj _ _ _ _ hp
  subst er
  refine lv_icmp_eq (tgt := 953) hx hb dL_law_786 (by decide) (fun _ => ?_) (fun qw => ?_)
  rotate_left
  · exact absurd (rfl) qw
  refine W.widen (k := n1 + 1) (n := n2 + 6) (by omega) (by omega) ?_
  exact fin _ _ _ H locs ls hG hz (lv_sub hl [0, 1, 2, 3, 4] rfl)

set_option maxHeartbeats 1000000 in
set_option maxRecDepth 100000 in
theorem law_content {p : Program} {K : Cx} {e : Env} {s : State} {m : MethodId} {below : List Frame} {meth : Method} {c : Code} (hst : (cxl K).stackTraces = false) (hK : CxOk K) {sb b N : Nat} {xs : Nat → Int32} (C0 : lw_At p s m meth c sb N xs) (hbs : cxb K = s.heap.size) (hx0 : cxS K b = shX6 b) (hm0 : cxS K (b + 124) = shX7 (b + 124)) (ho : cxS K (b + 133) = .inr (1, 1)) {I : TI} {L : TL} {A : TA} {H : Heap} {locs : List Loc} {ls : Array Slot} {i n1 n2 : Nat} (hi : i + 6 ≤ N) (hN : N ≤ 3072) (hn1 : n1 ≤ 600000) (hn2 : n2 ≤ 7000000) (hz : SS K s I L A H locs) {G : TI → TL → TA → Prop} (hj : JPi K b yX6_content wsX6_content 0 0 yX7_content wsX7_content 0 0 [] I L A G) (hl : lv_has ls 7 [(4, .int (nI i)), (3, .ref (b + 133)), (2, .ref (b + 124)), (1, .ref b), (0, .ref sb)])
    (fin : ∀ (I : TI) (L : TL) (A : TA) (H : Heap) (locs : List Loc) (ls : Array Slot), G I L A → SS K s I L A H locs → lv_has ls 7 [(4, .int (nI i)), (3, .ref (b + 133)), (2, .ref (b + 124)), (1, .ref b), (0, .ref sb)] → W p (cxl K) e room_1 s m #[Value.ref sb] below meth c H locs (n1 + 1) (n2 + 6) (lw_Z below #[Value.ref sb] s) (F0 m 953 ls [])) : W p (cxl K) e room_1 s m #[Value.ref sb] below meth c H locs n1 n2 (lw_Z below #[Value.ref sb] s) (F0 m 791 ls []) := by
  obtain ⟨hx, hb, -, hml, hown, hts0, hX, hbl, hlocks, hgv⟩ := C0
  have hts : ∀ w ∈ wsL_law, w.before #[Value.ref sb] s = true := fun w h => hts0 w (wsL_law_in w h)
  have hbA : ¬ PA (cxb K) sb := by show ¬ cxb K ≤ sb; omega
  have hin : ∀ k, k < 6 → vp_in (nI i + nI k) N := fun k hk => by rw [nI_add]; exact vp_in_nI (by omega) (by omega)
  obtain ⟨S, hS, hj⟩ := hj 
  refine lv_aload_n hx hb dL_law_791 rfl (lv_at hl 3 rfl) ?_
  refine sw_calli hz (va_runV (As := []) (rest := []) ⟨hx, hb, hml, hown, hts⟩ (hS hK _) (cwV 0 hts gL_law_X6_content rfl rfl rfl (by decide +kernel) ⟨Nat.le_of_ble_eq_true rfl, Nat.le_of_ble_eq_true rfl⟩) (hz.preV hK hx0 rfl) rfl rfl hl.1 rfl (lv_room (Nat.le_of_ble_eq_true rfl)) dL_law_792 ⟨by show n1 + 0 ≤ 601024; omega, by show n2 + 0 ≤ 7293034; omega⟩) (fun r1 I1 L1 A1 H locs hp hz => ?_)
  obtain ⟨Q2, hQ2, hj⟩ := hj _ _ _ _ hp
  refine lv_aload_n hx hb dL_law_795 rfl (lv_at hl 2 rfl) ?_
  refine sw_calli hz (va_runV (As := []) (rest := [.int r1]) ⟨hx, hb, hml, hown, hts⟩ (hQ2 hK _) (cwV 0 hts gL_law_X7_content rfl rfl rfl (by decide +kernel) ⟨Nat.le_of_ble_eq_true rfl, Nat.le_of_ble_eq_true rfl⟩) (hz.preV hK hm0 rfl) rfl rfl hl.1 rfl (lv_room (Nat.le_of_ble_eq_true rfl)) dL_law_796 ⟨by show n1 + 0 ≤ 601024; omega, by show n2 + 0 ≤ 7293034; omega⟩) (fun r2 I2 L2 A2 H locs hp hz => ?_)
  obtain ⟨hG, er⟩ := hj _ _ _ _ hp
  subst er
  refine lv_icmp_eq (tgt := 953) hx hb dL_law_799 (by decide) (fun _ => ?_) (fun qw => ?_)
  rotate_left
  · exact absurd (rfl) qw
  refine W.widen (k := n1 + 1) (n := n2 + 6) (by omega) (by omega) ?_
  exact fin _ _ _ H locs ls hG hz (lv_sub hl [0, 1, 2, 3, 4] rfl)

set_option maxHeartbeats 1000000 in
set_option maxRecDepth 100000 in
theorem law_degree {p : Program} {K : Cx} {e : Env} {s : State} {m : MethodId} {below : List Frame} {meth : Method} {c : Code} (hst : (cxl K).stackTraces = false) (hK : CxOk K) {sb b N : Nat} {xs : Nat → Int32} (C0 : lw_At p s m meth c sb N xs) (hbs : cxb K = s.heap.size) (hx0 : cxS K b = shX6 b) (hm0 : cxS K (b + 124) = shX7 (b + 124)) (ho : cxS K (b + 133) = .inr (1, 1)) {I : TI} {L : TL} {A : TA} {H : Heap} {locs : List Loc} {ls : Array Slot} {i n1 n2 : Nat} (hi : i + 6 ≤ N) (hN : N ≤ 3072) (hn1 : n1 ≤ 600000) (hn2 : n2 ≤ 7000000) (hz : SS K s I L A H locs) {G : TI → TL → TA → Prop} (hj : ∀ a1 : Int32, JPi K b yX6_degree wsX6_degree 0 0 yX7_degree wsX7_degree 1 22 [.int a1] I L A G) (hl : lv_has ls 7 [(4, .int (nI i)), (3, .ref (b + 133)), (2, .ref (b + 124)), (1, .ref b), (0, .ref sb)])
    (fin : ∀ (I : TI) (L : TL) (A : TA) (H : Heap) (locs : List Loc) (ls : Array Slot), G I L A → SS K s I L A H locs → lv_has ls 7 [(4, .int (nI i)), (3, .ref (b + 133)), (2, .ref (b + 124)), (1, .ref b), (0, .ref sb)] → W p (cxl K) e room_1 s m #[Value.ref sb] below meth c H locs (n1 + 1) (n2 + 6) (lw_Z below #[Value.ref sb] s) (F0 m 953 ls [])) : W p (cxl K) e room_1 s m #[Value.ref sb] below meth c H locs n1 n2 (lw_Z below #[Value.ref sb] s) (F0 m 872 ls []) := by
  obtain ⟨hx, hb, -, hml, hown, hts0, hX, hbl, hlocks, hgv⟩ := C0
  have hts : ∀ w ∈ wsL_law, w.before #[Value.ref sb] s = true := fun w h => hts0 w (wsL_law_in w h)
  have hbA : ¬ PA (cxb K) sb := by show ¬ cxb K ≤ sb; omega
  have hin : ∀ k, k < 6 → vp_in (nI i + nI k) N := fun k hk => by rw [nI_add]; exact vp_in_nI (by omega) (by omega)
  obtain ⟨a1, ha1⟩ : ∃ z, z = (xs (Int32.toNatClampNeg (nI i + 1))) := ⟨_, rfl⟩
  obtain ⟨S, hS, hj⟩ := hj a1
  refine lv_aload_n hx hb dL_law_872 rfl (lv_at hl 3 rfl) ?_
  refine lv_aload_n hx hb dL_law_873 rfl (lv_at hl 4 rfl) ?_
  refine lv_iload hx hb dL_law_874 (lv_at hl 0 rfl) ?_
  refine lv_iconst (v := 1) hx hb dL_law_876 (by decide) ?_
  refine lv_iadd hx hb dL_law_877 ?_
  refine va_sld hx hb hX hbl hbA hz.2.1 (hin 1 (by decide)) dL_law_878 ?_
  rw [← ha1]
  refine sw_calli hz (va_runV (As := [.int a1]) (rest := []) ⟨hx, hb, hml, hown, hts⟩ (hS hK _) (cwV 1 hts gL_law_X6_degree rfl rfl rfl (by decide +kernel) ⟨Nat.le_of_ble_eq_true rfl, Nat.le_of_ble_eq_true rfl⟩) (hz.preV hK hx0 rfl) rfl rfl hl.1 rfl (lv_room (Nat.le_of_ble_eq_true rfl)) dL_law_879 ⟨by show n1 + 0 ≤ 601024; omega, by show n2 + 0 ≤ 7293034; omega⟩) (fun r1 I1 L1 A1 H locs hp hz => ?_)
  obtain ⟨Q2, hQ2, hj⟩ := hj _ _ _ _ hp
  refine lv_aload_n hx hb dL_law_882 rfl (lv_at hl 2 rfl) ?_
  refine lv_aload_n hx hb dL_law_883 rfl (lv_at hl 4 rfl) ?_
  refine lv_iload hx hb dL_law_884 (lv_at hl 0 rfl) ?_
  refine lv_iconst (v := 1) hx hb dL_law_886 (by decide) ?_
  refine lv_iadd hx hb dL_law_887 ?_
  refine va_sld hx hb hX hbl hbA hz.2.1 (hin 1 (by decide)) dL_law_888 ?_
  rw [← ha1]
  refine sw_calli hz (va_runV (As := [.int a1]) (rest := [.int r1]) ⟨hx, hb, hml, hown, hts⟩ (hQ2 hK _) (cwV 1 hts gL_law_X7_degree rfl rfl rfl (by decide +kernel) ⟨Nat.le_of_ble_eq_true rfl, Nat.le_of_ble_eq_true rfl⟩) (hz.preV hK hm0 rfl) rfl rfl hl.1 rfl (lv_room (Nat.le_of_ble_eq_true rfl)) dL_law_889 ⟨by show n1 + 0 ≤ 601024; omega, by show n2 + 0 ≤ 7293034; omega⟩) (fun r2 I2 L2 A2 H locs hp hz => ?_)
  obtain ⟨hG, er⟩ := hj _ _ _ _ hp
  subst er
  refine lv_icmp_eq (tgt := 953) hx hb dL_law_892 (by decide) (fun _ => ?_) (fun qw => ?_)
  rotate_left
  · exact absurd (rfl) qw
  refine W.widen (k := n1 + 1) (n := n2 + 6) (by omega) (by omega) ?_
  exact fin _ _ _ H locs ls hG hz (lv_sub hl [0, 1, 2, 3, 4] rfl)
