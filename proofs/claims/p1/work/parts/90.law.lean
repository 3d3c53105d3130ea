/-! THE LAW, on scripts of at most six ints: one call on a fresh desk, beside one on a fresh reference. -/
theorem okK_in {a : Int32} : okK a ↔ inI a 0 6 := ⟨fun h => ⟨h.1, Int32.not_lt.mpr h.2⟩, fun h => ⟨h.1, Int32.not_lt.mp h.2⟩⟩
theorem okW_in {a y : Int32} : okW a y ↔ inI a (-y) y := ⟨fun h => ⟨h.1, Int32.not_lt.mpr h.2⟩, fun h => ⟨h.1, Int32.not_lt.mp h.2⟩⟩
theorem dg_hi {f : Nat → Int64} (m : Nat) (h : ∀ k, m ≤ k → f k = 0) : ∀ d, dg f (m + d) = dg f m
  | 0 => rfl
  | d + 1 => by
    show (if f (m + d) = 0 then dg f (m + d) else nI (m + d)) = _
    rw [if_pos (h _ (by omega)), dg_hi m h d]
theorem set_same (j i : Nat) (hi : i < 7) (c : Int64) : dg (vp_updL (fun _ => 0) i c) 13 = dg (fun k => vp_updL (fun _ => 0) (8 * j + i) c (8 * j + k)) 8 := by
  have e : (fun k => vp_updL (fun _ => 0) (8 * j + i) c (8 * j + k)) = vp_updL (fun _ => 0) i c := by
    funext k
    unfold vp_updL
    by_cases h : k = i
    · rw [if_pos h, if_pos (by omega)]
    · rw [if_neg h, if_neg (by omega)]
  rw [e]
  exact dg_hi 8 (fun k hk => if_neg (by omega)) 5
section
variable {p : Program} {l : Launch} {e : Env} {R : Room} {s : State} {m : MethodId} {args : Array Value} {below : List Frame} {meth : Method} {c : Code} {H : Heap} {locs : List Loc} {cells slots : Nat} {Q : State → Prop}
variable {pc : Nat} {ls : Array Slot} {rest : List Value} {D : va_G} {cl : List vw_C} {tys : List (ClassId × FieldType)} {b n : Nat} {E : Nat → va_E}
theorem pw_callim {post : Int32 → (Nat → va_E) → Prop} {st0 : List Value} {av : Array Value} {mc ms : Nat} (hz : PS D cl tys b n s E H locs) (hr : va_Run p l e R s m args below meth c H locs cells slots mc ms (F0 m pc ls st0) rest (cQi D cl tys b n post av) (PA b))
    (kk : ∀ (r : Int32) (E' : Nat → va_E) (H1 : Heap) (locs1 : List Loc), post r E' → PS D cl tys b n s E' H1 locs1 → W p l e R s m args below meth c H1 locs1 (cells + mc) (slots + ms) Q (F0 m (pc + 3) ls (.int r :: rest))) : W p l e R s m args below meth c H locs cells slots Q (F0 m pc ls st0) :=
  va_calli hr hz.2.1 (fun _ _ h => h) (fun _ h => h) (fun r u t H1 locs1 ht _ hp hB _ _ hS => kk r u H1 locs1 hp (hz.call (by rw [← ht]; exact hB.1) hS))
end

set_option maxHeartbeats 1000000 in
set_option maxRecDepth 100000 in
theorem law_set {p : Program} {l : Launch} {e : Env} {s : State} {m : MethodId} {below : List Frame} {meth : Method} {c : Code} (hst : l.stackTraces = false) {D : va_G} {cJ cI cR : ClassId} {sb b : Nat} {xs : Nat → Int32} (C0 : lw_At p s m meth c sb 6 xs) (hbs : b = s.heap.size) {E : Nat → va_E} {H : Heap} {locs : List Loc} {ls : Array Slot} (hz : PS D vwCl (tys3 cJ cI cR) b 134 s E H locs) (hF : deskAt cJ cI cR b E) (hM : modelAt cJ cI (b + 124) E) (hO : E (b + 133) = outA cJ (fun _ => 0)) (hl : lv_has ls 7 [(4, .int 0), (3, .ref (b + 133)), (2, .ref (b + 124)), (1, .ref b), (0, .ref sb)])
    (fin : ∀ (E' : Nat → va_E) (H : Heap) (locs : List Loc) (ls : Array Slot), PS D vwCl (tys3 cJ cI cR) b 134 s E' H locs → lv_has ls 7 [(4, .int 0), (0, .ref sb)] → W p l e room_1 s m #[Value.ref sb] below meth c H locs 201 3006 (lw_Z below #[Value.ref sb] s) (F0 m 953 ls [])) : W p l e room_1 s m #[Value.ref sb] below meth c H locs 200 3000 (lw_Z below #[Value.ref sb] s) (F0 m 112 ls []) := by
  obtain ⟨hx, hb, -, hml, hown, hts0, hX, hbl, hlocks, hgv⟩ := C0
  have hts : ∀ w ∈ wsL_law, w.before #[Value.ref sb] s = true := fun w h => hts0 w (wsL_law_in w h)
  have hbA : ¬ PA b sb := by show ¬ b ≤ sb; omega
  obtain ⟨a1, ha1⟩ : ∃ z, z = (xs (Int32.toNatClampNeg (0 + 1))) := ⟨_, rfl⟩
  obtain ⟨a2, ha2⟩ : ∃ z, z = (xs (Int32.toNatClampNeg (0 + 2))) := ⟨_, rfl⟩
  obtain ⟨a3, ha3⟩ : ∃ z, z = (xs (Int32.toNatClampNeg (0 + 3))) := ⟨_, rfl⟩
  by_cases hv : okS a1 ∧ okK a2 ∧ okW a3 300
  · skip
    obtain ⟨v1, v2, v3⟩ := hv
    obtain ⟨j, hj, rfl⟩ := okS_nI v1
    obtain ⟨i, hi, rfl⟩ := okK_nI v2
    refine lv_aload_n hx hb dL_law_112 rfl (lv_at hl 3 rfl) ?_
    refine lv_aload_n hx hb dL_law_113 rfl (lv_at hl 4 rfl) ?_
    refine lv_iload hx hb dL_law_114 (lv_at hl 0 rfl) ?_
    refine lv_iconst (v := 1) hx hb dL_law_116 (by decide) ?_
    refine lv_iadd hx hb dL_law_117 ?_
    refine va_sld hx hb hX hbl hbA hz.2.1 (by unfold vp_in; decide +kernel) dL_law_118 ?_
    rw [← ha1]
    refine lv_aload_n hx hb dL_law_119 rfl (lv_at hl 4 rfl) ?_
    refine lv_iload hx hb dL_law_120 (lv_at hl 0 rfl) ?_
    refine lv_iconst (v := 2) hx hb dL_law_122 (by decide) ?_
    refine lv_iadd hx hb dL_law_123 ?_
    refine va_sld hx hb hX hbl hbA hz.2.1 (by unfold vp_in; decide +kernel) dL_law_124 ?_
    rw [← ha2]
    refine lv_aload_n hx hb dL_law_125 rfl (lv_at hl 4 rfl) ?_
    refine lv_iload hx hb dL_law_126 (lv_at hl 0 rfl) ?_
    refine lv_iconst (v := 3) hx hb dL_law_128 (by decide) ?_
    refine lv_iadd hx hb dL_law_129 ?_
    refine va_sld hx hb hX hbl hbA hz.2.1 (by unfold vp_in; decide +kernel) dL_law_130 ?_
    rw [← ha3]
    refine lv_aload_n hx hb dL_law_131 rfl (lv_at hl 1 rfl) ?_
    refine pw_calli hz (vx_runSW (As := [.ref b, .int (nI j), .int (nI i), .int a3, .ref (b + 133)]) (rest := []) ⟨hx, hb, hml, hown, hts⟩ (c_Lset_ok l hst D cJ cI cR b 134 _ _ b (by omega) (b + 133) (by omega) (fun _ => 0) hO hF j hj i hi a3 v3) (vx_cwSW 5 hts gL_law_L_set rfl rfl rfl (by decide +kernel) ⟨Nat.le_of_ble_eq_true rfl, Nat.le_of_ble_eq_true rfl⟩) hz.preS rfl rfl hl.1 rfl (lv_room (Nat.le_of_ble_eq_true rfl)) dL_law_132 ⟨Nat.le_of_ble_eq_true rfl, Nat.le_of_ble_eq_true rfl⟩) (fun r1 E1 H locs hp hz => ?_)
    obtain ⟨rfl, hp1, hp2⟩ := hp
    refine lv_istore (lv' := [(5, .int 0), (4, .int 0), (3, .ref (b + 133)), (2, .ref (b + 124)), (1, .ref b), (0, .ref sb)]) hx hb dL_law_135 hl (by decide) rfl (fun ls hl => ?_)
    have hm1 : E1 (b + 124) = modO (b + 124) 0 := (hp2 _ (by omega) (by omega)).trans hM.1
    have hw1 : E1 (b + 124 + 1) = rowM cJ (fun _ => 0) := (hp2 _ (by omega) (by omega)).trans hM.2.1
    refine lv_aload_n hx hb dL_law_137 rfl (lv_at hl 3 rfl) ?_
    refine lv_aload_n hx hb dL_law_138 rfl (lv_at hl 5 rfl) ?_
    refine lv_iload hx hb dL_law_139 (lv_at hl 1 rfl) ?_
    refine lv_iconst (v := 1) hx hb dL_law_141 (by decide) ?_
    refine lv_iadd hx hb dL_law_142 ?_
    refine va_sld hx hb hX hbl hbA hz.2.1 (by unfold vp_in; decide +kernel) dL_law_143 ?_
    rw [← ha1]
    refine lv_aload_n hx hb dL_law_144 rfl (lv_at hl 5 rfl) ?_
    refine lv_iload hx hb dL_law_145 (lv_at hl 1 rfl) ?_
    refine lv_iconst (v := 2) hx hb dL_law_147 (by decide) ?_
    refine lv_iadd hx hb dL_law_148 ?_
    refine va_sld hx hb hX hbl hbA hz.2.1 (by unfold vp_in; decide +kernel) dL_law_149 ?_
    rw [← ha2]
    refine lv_aload_n hx hb dL_law_150 rfl (lv_at hl 5 rfl) ?_
    refine lv_iload hx hb dL_law_151 (lv_at hl 1 rfl) ?_
    refine lv_iconst (v := 3) hx hb dL_law_153 (by decide) ?_
    refine lv_iadd hx hb dL_law_154 ?_
    refine va_sld hx hb hX hbl hbA hz.2.1 (by unfold vp_in; decide +kernel) dL_law_155 ?_
    rw [← ha3]
    refine pw_calli hz (va_runV (As := [.int (nI j), .int (nI i), .int a3]) (rest := []) ⟨hx, hb, hml, hown, hts⟩ (c_mset_ok l D cJ cI cR b 134 _ _ (b + 124) 0 (by omega) hm1 hw1 j hj i hi (okK_in.mp v2) a3 (okW_in.mp v3)) (cwV 3 hts gL_law_X7_set rfl rfl rfl (by decide +kernel) ⟨Nat.le_of_ble_eq_true rfl, Nat.le_of_ble_eq_true rfl⟩) (hz.preV (by omega) hm1 rfl) rfl rfl hl.1 rfl (lv_room (Nat.le_of_ble_eq_true rfl)) dL_law_156 ⟨Nat.le_of_ble_eq_true rfl, Nat.le_of_ble_eq_true rfl⟩) (fun r2 E2 H locs hp hz => ?_)
    obtain ⟨hr2, ⟨fs, hfs⟩, hf2⟩ := hp
    refine lv_istore (lv' := [(6, .int r2), (5, .int 0), (4, .int 0), (3, .ref (b + 133)), (2, .ref (b + 124)), (1, .ref b), (0, .ref sb)]) hx hb dL_law_159 hl (by decide) rfl (fun ls hl => ?_)
    refine lv_aload_n hx hb dL_law_161 rfl (lv_at hl 4 rfl) ?_
    refine pw_calli hz (va_runV (As := []) (rest := []) ⟨hx, hb, hml, hown, hts⟩ (c_thrown l D cJ cI cR b 134 _ _ (b + 124) 0 fs (by omega) hfs) (cwV 0 hts gL_law_X7_thrown rfl rfl rfl (by decide +kernel) ⟨Nat.le_of_ble_eq_true rfl, Nat.le_of_ble_eq_true rfl⟩) (hz.preV (by omega) hfs rfl) rfl rfl hl.1 rfl (lv_room (Nat.le_of_ble_eq_true rfl)) dL_law_162 ⟨Nat.le_of_ble_eq_true rfl, Nat.le_of_ble_eq_true rfl⟩) (fun r3 E3 H locs hp hz => ?_)
    obtain ⟨rfl, hp⟩ := hp
    rw [hp] at hz
    refine lv_iload hx hb dL_law_165 (lv_at hl 1 rfl) ?_
    refine lv_icmp_eq (tgt := 172) hx hb dL_law_167 (by decide) (fun _ => ?_) (fun qw => ?_)
    rotate_left
    · exact absurd rfl qw
    refine lv_iload hx hb dL_law_172 (lv_at hl 1 rfl) ?_
    refine lv_if_ne (tgt := 189) hx hb dL_law_174 (by decide) (fun qw => ?_) (fun _ => ?_)
    · exact absurd rfl qw
    refine lv_aload_n hx hb dL_law_177 rfl (lv_at hl 3 rfl) ?_
    refine lv_iconst (v := 0) hx hb dL_law_178 (by decide) ?_
    refine pw_lald hx hb hz (by omega) ((hf2 _ (by omega)).trans hp1) 0 rfl (by exact vp_in_nI (n := 0) (by decide) (by decide)) dL_law_179 ?_
    refine lv_iload hx hb dL_law_180 (lv_at hl 0 rfl) ?_
    refine lv_i2l hx hb dL_law_182 rfl ?_
    refine W.lcmp hx hb dL_law_183 ?_
    refine lv_if_eq (tgt := 189) hx hb dL_law_184 (by decide) (fun _ => ?_) (fun qw => ?_)
    rotate_left
    · exact absurd ((lg_cmp_eq _ _).mpr (by rw [cl_0, pk_uLs, hr2, set_same j i hi])) qw
    refine lv_goto (tgt := 953) hx hb dL_law_189 (by decide) ?_
    refine W.widen (k := 201) (n := 3006) (by decide) (by decide) ?_
    exact fin E2 H locs ls hz (lv_sub hl [2, 6] rfl)
  · skip
    refine lv_aload_n hx hb dL_law_112 rfl (lv_at hl 3 rfl) ?_
    refine lv_aload_n hx hb dL_law_113 rfl (lv_at hl 4 rfl) ?_
    refine lv_iload hx hb dL_law_114 (lv_at hl 0 rfl) ?_
    refine lv_iconst (v := 1) hx hb dL_law_116 (by decide) ?_
    refine lv_iadd hx hb dL_law_117 ?_
    refine va_sld hx hb hX hbl hbA hz.2.1 (by unfold vp_in; decide +kernel) dL_law_118 ?_
    rw [← ha1]
    refine lv_aload_n hx hb dL_law_119 rfl (lv_at hl 4 rfl) ?_
    refine lv_iload hx hb dL_law_120 (lv_at hl 0 rfl) ?_
    refine lv_iconst (v := 2) hx hb dL_law_122 (by decide) ?_
    refine lv_iadd hx hb dL_law_123 ?_
    refine va_sld hx hb hX hbl hbA hz.2.1 (by unfold vp_in; decide +kernel) dL_law_124 ?_
    rw [← ha2]
    refine lv_aload_n hx hb dL_law_125 rfl (lv_at hl 4 rfl) ?_
    refine lv_iload hx hb dL_law_126 (lv_at hl 0 rfl) ?_
    refine lv_iconst (v := 3) hx hb dL_law_128 (by decide) ?_
    refine lv_iadd hx hb dL_law_129 ?_
    refine va_sld hx hb hX hbl hbA hz.2.1 (by unfold vp_in; decide +kernel) dL_law_130 ?_
    rw [← ha3]
    refine lv_aload_n hx hb dL_law_131 rfl (lv_at hl 1 rfl) ?_
    refine pw_callim hz (vx_runSW (As := [.ref b, .int a1, .int a2, .int a3, .ref (b + 133)]) (rest := []) ⟨hx, hb, hml, hown, hts⟩ (c_Lset_no l hst D cJ cI cR b 134 _ _ b (by omega) (b + 133) (by omega) (fun _ => 0) hO hF a1 a2 a3 hv) (vx_cwSW 5 hts gL_law_L_set rfl rfl rfl (by decide +kernel) ⟨Nat.le_of_ble_eq_true rfl, Nat.le_of_ble_eq_true rfl⟩) hz.preS rfl rfl hl.1 rfl (lv_room (Nat.le_of_ble_eq_true rfl)) dL_law_132 ⟨Nat.le_of_ble_eq_true rfl, Nat.le_of_ble_eq_true rfl⟩) (fun r1 E1 H locs hp hz => ?_)
    obtain ⟨rfl, hp1⟩ := hp
    refine lv_istore (lv' := [(5, .int 1), (4, .int 0), (3, .ref (b + 133)), (2, .ref (b + 124)), (1, .ref b), (0, .ref sb)]) hx hb dL_law_135 hl (by decide) rfl (fun ls hl => ?_)
    have hm1 : E1 (b + 124) = modO (b + 124) 0 := (hp1 _ (by omega)).trans hM.1
    have hw1 : E1 (b + 124 + 1) = rowM cJ (fun _ => 0) := (hp1 _ (by omega)).trans hM.2.1
    refine lv_aload_n hx hb dL_law_137 rfl (lv_at hl 3 rfl) ?_
    refine lv_aload_n hx hb dL_law_138 rfl (lv_at hl 5 rfl) ?_
    refine lv_iload hx hb dL_law_139 (lv_at hl 1 rfl) ?_
    refine lv_iconst (v := 1) hx hb dL_law_141 (by decide) ?_
    refine lv_iadd hx hb dL_law_142 ?_
    refine va_sld hx hb hX hbl hbA hz.2.1 (by unfold vp_in; decide +kernel) dL_law_143 ?_
    rw [← ha1]
    refine lv_aload_n hx hb dL_law_144 rfl (lv_at hl 5 rfl) ?_
    refine lv_iload hx hb dL_law_145 (lv_at hl 1 rfl) ?_
    refine lv_iconst (v := 2) hx hb dL_law_147 (by decide) ?_
    refine lv_iadd hx hb dL_law_148 ?_
    refine va_sld hx hb hX hbl hbA hz.2.1 (by unfold vp_in; decide +kernel) dL_law_149 ?_
    rw [← ha2]
    refine lv_aload_n hx hb dL_law_150 rfl (lv_at hl 5 rfl) ?_
    refine lv_iload hx hb dL_law_151 (lv_at hl 1 rfl) ?_
    refine lv_iconst (v := 3) hx hb dL_law_153 (by decide) ?_
    refine lv_iadd hx hb dL_law_154 ?_
    refine va_sld hx hb hX hbl hbA hz.2.1 (by unfold vp_in; decide +kernel) dL_law_155 ?_
    rw [← ha3]
    refine pw_calli hz (va_runV (As := [.int a1, .int a2, .int a3]) (rest := []) ⟨hx, hb, hml, hown, hts⟩ (c_mset_no l D cJ cI cR b 134 _ _ (b + 124) 0 (by omega) hm1 a1 a2 a3 (fun h => hv ⟨h.1, okK_in.mpr h.2.1, okW_in.mpr h.2.2⟩)) (cwV 3 hts gL_law_X7_set rfl rfl rfl (by decide +kernel) ⟨Nat.le_of_ble_eq_true rfl, Nat.le_of_ble_eq_true rfl⟩) (hz.preV (by omega) hm1 rfl) rfl rfl hl.1 rfl (lv_room (Nat.le_of_ble_eq_true rfl)) dL_law_156 ⟨Nat.le_of_ble_eq_true rfl, Nat.le_of_ble_eq_true rfl⟩) (fun r2 E2 H locs hp hz => ?_)
    obtain ⟨⟨fs, hfs⟩, hf2⟩ := hp
    refine lv_istore (lv' := [(6, .int r2), (5, .int 1), (4, .int 0), (3, .ref (b + 133)), (2, .ref (b + 124)), (1, .ref b), (0, .ref sb)]) hx hb dL_law_159 hl (by decide) rfl (fun ls hl => ?_)
    refine lv_aload_n hx hb dL_law_161 rfl (lv_at hl 4 rfl) ?_
    refine pw_calli hz (va_runV (As := []) (rest := []) ⟨hx, hb, hml, hown, hts⟩ (c_thrown l D cJ cI cR b 134 _ _ (b + 124) 1 fs (by omega) hfs) (cwV 0 hts gL_law_X7_thrown rfl rfl rfl (by decide +kernel) ⟨Nat.le_of_ble_eq_true rfl, Nat.le_of_ble_eq_true rfl⟩) (hz.preV (by omega) hfs rfl) rfl rfl hl.1 rfl (lv_room (Nat.le_of_ble_eq_true rfl)) dL_law_162 ⟨Nat.le_of_ble_eq_true rfl, Nat.le_of_ble_eq_true rfl⟩) (fun r3 E3 H locs hp hz => ?_)
    obtain ⟨rfl, hp⟩ := hp
    rw [hp] at hz
    refine lv_iload hx hb dL_law_165 (lv_at hl 1 rfl) ?_
    refine lv_icmp_eq (tgt := 172) hx hb dL_law_167 (by decide) (fun _ => ?_) (fun qw => ?_)
    rotate_left
    · exact absurd rfl qw
    refine lv_iload hx hb dL_law_172 (lv_at hl 1 rfl) ?_
    refine lv_if_ne (tgt := 189) hx hb dL_law_174 (by decide) (fun _ => ?_) (fun qw => ?_)
    rotate_left
    · exact absurd qw (by decide)
    refine lv_goto (tgt := 953) hx hb dL_law_189 (by decide) ?_
    exact fin E2 H locs ls hz (lv_sub hl [2, 6] rfl)

set_option maxHeartbeats 1000000 in
set_option maxRecDepth 100000 in
theorem law_get {p : Program} {l : Launch} {e : Env} {s : State} {m : MethodId} {below : List Frame} {meth : Method} {c : Code} (hst : l.stackTraces = false) {D : va_G} {cJ cI cR : ClassId} {sb b : Nat} {xs : Nat → Int32} (C0 : lw_At p s m meth c sb 6 xs) (hbs : b = s.heap.size) {E : Nat → va_E} {H : Heap} {locs : List Loc} {ls : Array Slot} (hz : PS D vwCl (tys3 cJ cI cR) b 134 s E H locs) (hF : deskAt cJ cI cR b E) (hM : modelAt cJ cI (b + 124) E) (hO : E (b + 133) = outA cJ (fun _ => 0)) (hl : lv_has ls 7 [(4, .int 0), (3, .ref (b + 133)), (2, .ref (b + 124)), (1, .ref b), (0, .ref sb)])
    (fin : ∀ (E' : Nat → va_E) (H : Heap) (locs : List Loc) (ls : Array Slot), PS D vwCl (tys3 cJ cI cR) b 134 s E' H locs → lv_has ls 7 [(4, .int 0), (0, .ref sb)] → W p l e room_1 s m #[Value.ref sb] below meth c H locs 201 3006 (lw_Z below #[Value.ref sb] s) (F0 m 953 ls [])) : W p l e room_1 s m #[Value.ref sb] below meth c H locs 200 3000 (lw_Z below #[Value.ref sb] s) (F0 m 192 ls []) := by
  obtain ⟨hx, hb, -, hml, hown, hts0, hX, hbl, hlocks, hgv⟩ := C0
  have hts : ∀ w ∈ wsL_law, w.before #[Value.ref sb] s = true := fun w h => hts0 w (wsL_law_in w h)
  have hbA : ¬ PA b sb := by show ¬ b ≤ sb; omega
  obtain ⟨a1, ha1⟩ : ∃ z, z = (xs (Int32.toNatClampNeg (0 + 1))) := ⟨_, rfl⟩
  obtain ⟨a2, ha2⟩ : ∃ z, z = (xs (Int32.toNatClampNeg (0 + 2))) := ⟨_, rfl⟩
  by_cases hv : okS a1 ∧ okK a2
  · skip
    obtain ⟨v1, v2⟩ := hv
    obtain ⟨j, hj, rfl⟩ := okS_nI v1
    obtain ⟨i, hi, rfl⟩ := okK_nI v2
    refine lv_aload_n hx hb dL_law_192 rfl (lv_at hl 3 rfl) ?_
    refine lv_aload_n hx hb dL_law_193 rfl (lv_at hl 4 rfl) ?_
    refine lv_iload hx hb dL_law_194 (lv_at hl 0 rfl) ?_
    refine lv_iconst (v := 1) hx hb dL_law_196 (by decide) ?_
    refine lv_iadd hx hb dL_law_197 ?_
    refine va_sld hx hb hX hbl hbA hz.2.1 (by unfold vp_in; decide +kernel) dL_law_198 ?_
    rw [← ha1]
    refine lv_aload_n hx hb dL_law_199 rfl (lv_at hl 4 rfl) ?_
    refine lv_iload hx hb dL_law_200 (lv_at hl 0 rfl) ?_
    refine lv_iconst (v := 2) hx hb dL_law_202 (by decide) ?_
    refine lv_iadd hx hb dL_law_203 ?_
    refine va_sld hx hb hX hbl hbA hz.2.1 (by unfold vp_in; decide +kernel) dL_law_204 ?_
    rw [← ha2]
    refine lv_aload_n hx hb dL_law_205 rfl (lv_at hl 1 rfl) ?_
    refine pw_calli hz (vx_runSW (As := [.ref b, .int (nI j), .int (nI i), .ref (b + 133)]) (rest := []) ⟨hx, hb, hml, hown, hts⟩ (c_Lget_ok l hst D cJ cI cR b 134 _ _ b (by omega) (b + 133) (by omega) (fun _ => 0) hO hF j hj i hi) (vx_cwSW 4 hts gL_law_L_get rfl rfl rfl (by decide +kernel) ⟨Nat.le_of_ble_eq_true rfl, Nat.le_of_ble_eq_true rfl⟩) hz.preS rfl rfl hl.1 rfl (lv_room (Nat.le_of_ble_eq_true rfl)) dL_law_206 ⟨Nat.le_of_ble_eq_true rfl, Nat.le_of_ble_eq_true rfl⟩) (fun r1 E1 H locs hp hz => ?_)
    obtain ⟨rfl, hp1, hp2⟩ := hp
    refine lv_istore (lv' := [(5, .int 0), (4, .int 0), (3, .ref (b + 133)), (2, .ref (b + 124)), (1, .ref b), (0, .ref sb)]) hx hb dL_law_209 hl (by decide) rfl (fun ls hl => ?_)
    have hm1 : E1 (b + 124) = modO (b + 124) 0 := (hp2 _ (by omega) (by omega)).trans hM.1
    have hw1 : E1 (b + 124 + 1) = rowM cJ (fun _ => 0) := (hp2 _ (by omega) (by omega)).trans hM.2.1
    refine lv_aload_n hx hb dL_law_211 rfl (lv_at hl 3 rfl) ?_
    refine lv_aload_n hx hb dL_law_212 rfl (lv_at hl 5 rfl) ?_
    refine lv_iload hx hb dL_law_213 (lv_at hl 1 rfl) ?_
    refine lv_iconst (v := 1) hx hb dL_law_215 (by decide) ?_
    refine lv_iadd hx hb dL_law_216 ?_
    refine va_sld hx hb hX hbl hbA hz.2.1 (by unfold vp_in; decide +kernel) dL_law_217 ?_
    rw [← ha1]
    refine lv_aload_n hx hb dL_law_218 rfl (lv_at hl 5 rfl) ?_
    refine lv_iload hx hb dL_law_219 (lv_at hl 1 rfl) ?_
    refine lv_iconst (v := 2) hx hb dL_law_221 (by decide) ?_
    refine lv_iadd hx hb dL_law_222 ?_
    refine va_sld hx hb hX hbl hbA hz.2.1 (by unfold vp_in; decide +kernel) dL_law_223 ?_
    rw [← ha2]
    refine pw_calli hz (va_runV (As := [.int (nI j), .int (nI i)]) (rest := []) ⟨hx, hb, hml, hown, hts⟩ (c_mget_ok l D cJ cI cR b 134 _ _ (b + 124) 0 (by omega) hm1 hw1 j hj i hi (okK_in.mp v2)) (cwV 2 hts gL_law_X7_get rfl rfl rfl (by decide +kernel) ⟨Nat.le_of_ble_eq_true rfl, Nat.le_of_ble_eq_true rfl⟩) (hz.preV (by omega) hm1 rfl) rfl rfl hl.1 rfl (lv_room (Nat.le_of_ble_eq_true rfl)) dL_law_224 ⟨Nat.le_of_ble_eq_true rfl, Nat.le_of_ble_eq_true rfl⟩) (fun r2 E2 H locs hp hz => ?_)
    obtain ⟨hr2, ⟨fs, hfs⟩, hf2⟩ := hp
    refine lv_istore (lv' := [(6, .int r2), (5, .int 0), (4, .int 0), (3, .ref (b + 133)), (2, .ref (b + 124)), (1, .ref b), (0, .ref sb)]) hx hb dL_law_227 hl (by decide) rfl (fun ls hl => ?_)
    refine lv_aload_n hx hb dL_law_229 rfl (lv_at hl 4 rfl) ?_
    refine pw_calli hz (va_runV (As := []) (rest := []) ⟨hx, hb, hml, hown, hts⟩ (c_thrown l D cJ cI cR b 134 _ _ (b + 124) 0 fs (by omega) hfs) (cwV 0 hts gL_law_X7_thrown rfl rfl rfl (by decide +kernel) ⟨Nat.le_of_ble_eq_true rfl, Nat.le_of_ble_eq_true rfl⟩) (hz.preV (by omega) hfs rfl) rfl rfl hl.1 rfl (lv_room (Nat.le_of_ble_eq_true rfl)) dL_law_230 ⟨Nat.le_of_ble_eq_true rfl, Nat.le_of_ble_eq_true rfl⟩) (fun r3 E3 H locs hp hz => ?_)
    obtain ⟨rfl, hp⟩ := hp
    rw [hp] at hz
    refine lv_iload hx hb dL_law_233 (lv_at hl 1 rfl) ?_
    refine lv_icmp_eq (tgt := 240) hx hb dL_law_235 (by decide) (fun _ => ?_) (fun qw => ?_)
    rotate_left
    · exact absurd rfl qw
    refine lv_iload hx hb dL_law_240 (lv_at hl 1 rfl) ?_
    refine lv_if_ne (tgt := 257) hx hb dL_law_242 (by decide) (fun qw => ?_) (fun _ => ?_)
    · exact absurd rfl qw
    refine lv_aload_n hx hb dL_law_245 rfl (lv_at hl 3 rfl) ?_
    refine lv_iconst (v := 0) hx hb dL_law_246 (by decide) ?_
    refine pw_lald hx hb hz (by omega) ((hf2 _ (by omega)).trans hp1) 0 rfl (by exact vp_in_nI (n := 0) (by decide) (by decide)) dL_law_247 ?_
    refine lv_iload hx hb dL_law_248 (lv_at hl 0 rfl) ?_
    refine lv_i2l hx hb dL_law_250 rfl ?_
    refine W.lcmp hx hb dL_law_251 ?_
    refine lv_if_eq (tgt := 257) hx hb dL_law_252 (by decide) (fun _ => ?_) (fun qw => ?_)
    rotate_left
    · exact absurd ((lg_cmp_eq _ _).mpr (by rw [cl_0, pk_uLs, hr2])) qw
    refine lv_goto (tgt := 953) hx hb dL_law_257 (by decide) ?_
    refine W.widen (k := 201) (n := 3006) (by decide) (by decide) ?_
    exact fin E2 H locs ls hz (lv_sub hl [2, 6] rfl)
  · skip
    refine lv_aload_n hx hb dL_law_192 rfl (lv_at hl 3 rfl) ?_
    refine lv_aload_n hx hb dL_law_193 rfl (lv_at hl 4 rfl) ?_
    refine lv_iload hx hb dL_law_194 (lv_at hl 0 rfl) ?_
    refine lv_iconst (v := 1) hx hb dL_law_196 (by decide) ?_
    refine lv_iadd hx hb dL_law_197 ?_
    refine va_sld hx hb hX hbl hbA hz.2.1 (by unfold vp_in; decide +kernel) dL_law_198 ?_
    rw [← ha1]
    refine lv_aload_n hx hb dL_law_199 rfl (lv_at hl 4 rfl) ?_
    refine lv_iload hx hb dL_law_200 (lv_at hl 0 rfl) ?_
    refine lv_iconst (v := 2) hx hb dL_law_202 (by decide) ?_
    refine lv_iadd hx hb dL_law_203 ?_
    refine va_sld hx hb hX hbl hbA hz.2.1 (by unfold vp_in; decide +kernel) dL_law_204 ?_
    rw [← ha2]
    refine lv_aload_n hx hb dL_law_205 rfl (lv_at hl 1 rfl) ?_
    refine pw_callim hz (vx_runSW (As := [.ref b, .int a1, .int a2, .ref (b + 133)]) (rest := []) ⟨hx, hb, hml, hown, hts⟩ (c_Lget_no l hst D cJ cI cR b 134 _ _ b (by omega) (b + 133) (by omega) (fun _ => 0) hO hF a1 a2 hv) (vx_cwSW 4 hts gL_law_L_get rfl rfl rfl (by decide +kernel) ⟨Nat.le_of_ble_eq_true rfl, Nat.le_of_ble_eq_true rfl⟩) hz.preS rfl rfl hl.1 rfl (lv_room (Nat.le_of_ble_eq_true rfl)) dL_law_206 ⟨Nat.le_of_ble_eq_true rfl, Nat.le_of_ble_eq_true rfl⟩) (fun r1 E1 H locs hp hz => ?_)
    obtain ⟨rfl, hp1⟩ := hp
    refine lv_istore (lv' := [(5, .int 1), (4, .int 0), (3, .ref (b + 133)), (2, .ref (b + 124)), (1, .ref b), (0, .ref sb)]) hx hb dL_law_209 hl (by decide) rfl (fun ls hl => ?_)
    have hm1 : E1 (b + 124) = modO (b + 124) 0 := (hp1 _ (by omega)).trans hM.1
    have hw1 : E1 (b + 124 + 1) = rowM cJ (fun _ => 0) := (hp1 _ (by omega)).trans hM.2.1
    refine lv_aload_n hx hb dL_law_211 rfl (lv_at hl 3 rfl) ?_
    refine lv_aload_n hx hb dL_law_212 rfl (lv_at hl 5 rfl) ?_
    refine lv_iload hx hb dL_law_213 (lv_at hl 1 rfl) ?_
    refine lv_iconst (v := 1) hx hb dL_law_215 (by decide) ?_
    refine lv_iadd hx hb dL_law_216 ?_
    refine va_sld hx hb hX hbl hbA hz.2.1 (by unfold vp_in; decide +kernel) dL_law_217 ?_
    rw [← ha1]
    refine lv_aload_n hx hb dL_law_218 rfl (lv_at hl 5 rfl) ?_
    refine lv_iload hx hb dL_law_219 (lv_at hl 1 rfl) ?_
    refine lv_iconst (v := 2) hx hb dL_law_221 (by decide) ?_
    refine lv_iadd hx hb dL_law_222 ?_
    refine va_sld hx hb hX hbl hbA hz.2.1 (by unfold vp_in; decide +kernel) dL_law_223 ?_
    rw [← ha2]
    refine pw_calli hz (va_runV (As := [.int a1, .int a2]) (rest := []) ⟨hx, hb, hml, hown, hts⟩ (c_mget_no l D cJ cI cR b 134 _ _ (b + 124) 0 (by omega) hm1 a1 a2 (fun h => hv ⟨h.1, okK_in.mpr h.2⟩)) (cwV 2 hts gL_law_X7_get rfl rfl rfl (by decide +kernel) ⟨Nat.le_of_ble_eq_true rfl, Nat.le_of_ble_eq_true rfl⟩) (hz.preV (by omega) hm1 rfl) rfl rfl hl.1 rfl (lv_room (Nat.le_of_ble_eq_true rfl)) dL_law_224 ⟨Nat.le_of_ble_eq_true rfl, Nat.le_of_ble_eq_true rfl⟩) (fun r2 E2 H locs hp hz => ?_)
    obtain ⟨⟨fs, hfs⟩, hf2⟩ := hp
    refine lv_istore (lv' := [(6, .int r2), (5, .int 1), (4, .int 0), (3, .ref (b + 133)), (2, .ref (b + 124)), (1, .ref b), (0, .ref sb)]) hx hb dL_law_227 hl (by decide) rfl (fun ls hl => ?_)
    refine lv_aload_n hx hb dL_law_229 rfl (lv_at hl 4 rfl) ?_
    refine pw_calli hz (va_runV (As := []) (rest := []) ⟨hx, hb, hml, hown, hts⟩ (c_thrown l D cJ cI cR b 134 _ _ (b + 124) 1 fs (by omega) hfs) (cwV 0 hts gL_law_X7_thrown rfl rfl rfl (by decide +kernel) ⟨Nat.le_of_ble_eq_true rfl, Nat.le_of_ble_eq_true rfl⟩) (hz.preV (by omega) hfs rfl) rfl rfl hl.1 rfl (lv_room (Nat.le_of_ble_eq_true rfl)) dL_law_230 ⟨Nat.le_of_ble_eq_true rfl, Nat.le_of_ble_eq_true rfl⟩) (fun r3 E3 H locs hp hz => ?_)
    obtain ⟨rfl, hp⟩ := hp
    rw [hp] at hz
    refine lv_iload hx hb dL_law_233 (lv_at hl 1 rfl) ?_
    refine lv_icmp_eq (tgt := 240) hx hb dL_law_235 (by decide) (fun _ => ?_) (fun qw => ?_)
    rotate_left
    · exact absurd rfl qw
    refine lv_iload hx hb dL_law_240 (lv_at hl 1 rfl) ?_
    refine lv_if_ne (tgt := 257) hx hb dL_law_242 (by decide) (fun _ => ?_) (fun qw => ?_)
    rotate_left
    · exact absurd qw (by decide)
    refine lv_goto (tgt := 953) hx hb dL_law_257 (by decide) ?_
    exact fin E2 H locs ls hz (lv_sub hl [2, 6] rfl)

set_option maxHeartbeats 1000000 in
set_option maxRecDepth 100000 in
theorem law_add {p : Program} {l : Launch} {e : Env} {s : State} {m : MethodId} {below : List Frame} {meth : Method} {c : Code} (hst : l.stackTraces = false) {D : va_G} {cJ cI cR : ClassId} {sb b : Nat} {xs : Nat → Int32} (C0 : lw_At p s m meth c sb 6 xs) (hbs : b = s.heap.size) {E : Nat → va_E} {H : Heap} {locs : List Loc} {ls : Array Slot} (hz : PS D vwCl (tys3 cJ cI cR) b 134 s E H locs) (hF : deskAt cJ cI cR b E) (hM : modelAt cJ cI (b + 124) E) (hO : E (b + 133) = outA cJ (fun _ => 0)) (hl : lv_has ls 7 [(4, .int 0), (3, .ref (b + 133)), (2, .ref (b + 124)), (1, .ref b), (0, .ref sb)])
    (fin : ∀ (E' : Nat → va_E) (H : Heap) (locs : List Loc) (ls : Array Slot), PS D vwCl (tys3 cJ cI cR) b 134 s E' H locs → lv_has ls 7 [(4, .int 0), (0, .ref sb)] → W p l e room_1 s m #[Value.ref sb] below meth c H locs 201 3006 (lw_Z below #[Value.ref sb] s) (F0 m 953 ls [])) : W p l e room_1 s m #[Value.ref sb] below meth c H locs 200 3000 (lw_Z below #[Value.ref sb] s) (F0 m 260 ls []) := by
  obtain ⟨hx, hb, -, hml, hown, hts0, hX, hbl, hlocks, hgv⟩ := C0
  have hts : ∀ w ∈ wsL_law, w.before #[Value.ref sb] s = true := fun w h => hts0 w (wsL_law_in w h)
  have hbA : ¬ PA b sb := by show ¬ b ≤ sb; omega
  obtain ⟨a1, ha1⟩ : ∃ z, z = (xs (Int32.toNatClampNeg (0 + 1))) := ⟨_, rfl⟩
  obtain ⟨a2, ha2⟩ : ∃ z, z = (xs (Int32.toNatClampNeg (0 + 2))) := ⟨_, rfl⟩
  obtain ⟨a3, ha3⟩ : ∃ z, z = (xs (Int32.toNatClampNeg (0 + 3))) := ⟨_, rfl⟩
  obtain ⟨a4, ha4⟩ : ∃ z, z = (xs (Int32.toNatClampNeg (0 + 4))) := ⟨_, rfl⟩
  obtain ⟨a5, ha5⟩ : ∃ z, z = (xs (Int32.toNatClampNeg (0 + 5))) := ⟨_, rfl⟩
  by_cases hv : ok3 a1 a2 a3 ∧ okW a4 10 ∧ okW a5 10
  · skip
    obtain ⟨⟨v1, v2, v3⟩, hv4⟩ : ok3 a1 a2 a3 ∧ True := ⟨hv.1, trivial⟩
    obtain ⟨j, hj, rfl⟩ := okS_nI v1
    obtain ⟨u, hu, rfl⟩ := okS_nI v2
    obtain ⟨v, hvv, rfl⟩ := okS_nI v3
    refine lv_aload_n hx hb dL_law_260 rfl (lv_at hl 3 rfl) ?_
    refine lv_aload_n hx hb dL_law_261 rfl (lv_at hl 4 rfl) ?_
    refine lv_iload hx hb dL_law_262 (lv_at hl 0 rfl) ?_
    refine lv_iconst (v := 1) hx hb dL_law_264 (by decide) ?_
    refine lv_iadd hx hb dL_law_265 ?_
    refine va_sld hx hb hX hbl hbA hz.2.1 (by unfold vp_in; decide +kernel) dL_law_266 ?_
    rw [← ha1]
    refine lv_aload_n hx hb dL_law_267 rfl (lv_at hl 4 rfl) ?_
    refine lv_iload hx hb dL_law_268 (lv_at hl 0 rfl) ?_
    refine lv_iconst (v := 2) hx hb dL_law_270 (by decide) ?_
    refine lv_iadd hx hb dL_law_271 ?_
    refine va_sld hx hb hX hbl hbA hz.2.1 (by unfold vp_in; decide +kernel) dL_law_272 ?_
    rw [← ha2]
    refine lv_aload_n hx hb dL_law_273 rfl (lv_at hl 4 rfl) ?_
    refine lv_iload hx hb dL_law_274 (lv_at hl 0 rfl) ?_
    refine lv_iconst (v := 3) hx hb dL_law_276 (by decide) ?_
    refine lv_iadd hx hb dL_law_277 ?_
    refine va_sld hx hb hX hbl hbA hz.2.1 (by unfold vp_in; decide +kernel) dL_law_278 ?_
    rw [← ha3]
    refine lv_aload_n hx hb dL_law_279 rfl (lv_at hl 4 rfl) ?_
    refine lv_iload hx hb dL_law_280 (lv_at hl 0 rfl) ?_
    refine lv_iconst (v := 4) hx hb dL_law_282 (by decide) ?_
    refine lv_iadd hx hb dL_law_283 ?_
    refine va_sld hx hb hX hbl hbA hz.2.1 (by unfold vp_in; decide +kernel) dL_law_284 ?_
    rw [← ha4]
    refine lv_aload_n hx hb dL_law_285 rfl (lv_at hl 4 rfl) ?_
    refine lv_iload hx hb dL_law_286 (lv_at hl 0 rfl) ?_
    refine lv_iconst (v := 5) hx hb dL_law_288 (by decide) ?_
    refine lv_iadd hx hb dL_law_289 ?_
    refine va_sld hx hb hX hbl hbA hz.2.1 (by unfold vp_in; decide +kernel) dL_law_290 ?_
    rw [← ha5]
    refine lv_aload_n hx hb dL_law_291 rfl (lv_at hl 1 rfl) ?_
    refine pw_calli hz (vx_runSW (As := [.ref b, .int (nI j), .int (nI u), .int (nI v), .int a4, .int a5, .ref (b + 133)]) (rest := []) ⟨hx, hb, hml, hown, hts⟩ (c_Ladd_ok l hst D cJ cI cR b 134 _ _ b (by omega) (b + 133) (by omega) (fun _ => 0) hO hF j u v hj hu hvv a4 a5 hv.2.1 hv.2.2) (vx_cwSW 7 hts gL_law_L_add rfl rfl rfl (by decide +kernel) ⟨Nat.le_of_ble_eq_true rfl, Nat.le_of_ble_eq_true rfl⟩) hz.preS rfl rfl hl.1 rfl (lv_room (Nat.le_of_ble_eq_true rfl)) dL_law_292 ⟨Nat.le_of_ble_eq_true rfl, Nat.le_of_ble_eq_true rfl⟩) (fun r1 E1 H locs hp hz => ?_)
    obtain ⟨rfl, hp1, hp2⟩ := hp
    refine lv_istore (lv' := [(5, .int 0), (4, .int 0), (3, .ref (b + 133)), (2, .ref (b + 124)), (1, .ref b), (0, .ref sb)]) hx hb dL_law_295 hl (by decide) rfl (fun ls hl => ?_)
    have hm1 : E1 (b + 124) = modO (b + 124) 0 := (hp2 _ (by omega) (by omega)).trans hM.1
    have hw1 : E1 (b + 124 + 1) = rowM cJ (fun _ => 0) := (hp2 _ (by omega) (by omega)).trans hM.2.1
    refine lv_aload_n hx hb dL_law_297 rfl (lv_at hl 3 rfl) ?_
    refine lv_aload_n hx hb dL_law_298 rfl (lv_at hl 5 rfl) ?_
    refine lv_iload hx hb dL_law_299 (lv_at hl 1 rfl) ?_
    refine lv_iconst (v := 1) hx hb dL_law_301 (by decide) ?_
    refine lv_iadd hx hb dL_law_302 ?_
    refine va_sld hx hb hX hbl hbA hz.2.1 (by unfold vp_in; decide +kernel) dL_law_303 ?_
    rw [← ha1]
    refine lv_aload_n hx hb dL_law_304 rfl (lv_at hl 5 rfl) ?_
    refine lv_iload hx hb dL_law_305 (lv_at hl 1 rfl) ?_
    refine lv_iconst (v := 2) hx hb dL_law_307 (by decide) ?_
    refine lv_iadd hx hb dL_law_308 ?_
    refine va_sld hx hb hX hbl hbA hz.2.1 (by unfold vp_in; decide +kernel) dL_law_309 ?_
    rw [← ha2]
    refine lv_aload_n hx hb dL_law_310 rfl (lv_at hl 5 rfl) ?_
    refine lv_iload hx hb dL_law_311 (lv_at hl 1 rfl) ?_
    refine lv_iconst (v := 3) hx hb dL_law_313 (by decide) ?_
    refine lv_iadd hx hb dL_law_314 ?_
    refine va_sld hx hb hX hbl hbA hz.2.1 (by unfold vp_in; decide +kernel) dL_law_315 ?_
    rw [← ha3]
    refine lv_aload_n hx hb dL_law_316 rfl (lv_at hl 5 rfl) ?_
    refine lv_iload hx hb dL_law_317 (lv_at hl 1 rfl) ?_
    refine lv_iconst (v := 4) hx hb dL_law_319 (by decide) ?_
    refine lv_iadd hx hb dL_law_320 ?_
    refine va_sld hx hb hX hbl hbA hz.2.1 (by unfold vp_in; decide +kernel) dL_law_321 ?_
    rw [← ha4]
    refine lv_aload_n hx hb dL_law_322 rfl (lv_at hl 5 rfl) ?_
    refine lv_iload hx hb dL_law_323 (lv_at hl 1 rfl) ?_
    refine lv_iconst (v := 5) hx hb dL_law_325 (by decide) ?_
    refine lv_iadd hx hb dL_law_326 ?_
    refine va_sld hx hb hX hbl hbA hz.2.1 (by unfold vp_in; decide +kernel) dL_law_327 ?_
    rw [← ha5]
    refine pw_calli hz (va_runV (As := [.int (nI j), .int (nI u), .int (nI v), .int a4, .int a5]) (rest := []) ⟨hx, hb, hml, hown, hts⟩ (c_madd_ok l D cJ cI cR b 134 _ _ (b + 124) 0 (by omega) hm1 hw1 j u v hj hu hvv a4 a5 (okW_in.mp hv.2.1) (okW_in.mp hv.2.2)) (cwV 5 hts gL_law_X7_add rfl rfl rfl (by decide +kernel) ⟨Nat.le_of_ble_eq_true rfl, Nat.le_of_ble_eq_true rfl⟩) (hz.preV (by omega) hm1 rfl) rfl rfl hl.1 rfl (lv_room (Nat.le_of_ble_eq_true rfl)) dL_law_328 ⟨Nat.le_of_ble_eq_true rfl, Nat.le_of_ble_eq_true rfl⟩) (fun r2 E2 H locs hp hz => ?_)
    obtain ⟨hr2, ⟨fs, hfs⟩, hf2⟩ := hp
    refine lv_istore (lv' := [(6, .int r2), (5, .int 0), (4, .int 0), (3, .ref (b + 133)), (2, .ref (b + 124)), (1, .ref b), (0, .ref sb)]) hx hb dL_law_331 hl (by decide) rfl (fun ls hl => ?_)
    refine lv_aload_n hx hb dL_law_333 rfl (lv_at hl 4 rfl) ?_
    refine pw_calli hz (va_runV (As := []) (rest := []) ⟨hx, hb, hml, hown, hts⟩ (c_thrown l D cJ cI cR b 134 _ _ (b + 124) 0 fs (by omega) hfs) (cwV 0 hts gL_law_X7_thrown rfl rfl rfl (by decide +kernel) ⟨Nat.le_of_ble_eq_true rfl, Nat.le_of_ble_eq_true rfl⟩) (hz.preV (by omega) hfs rfl) rfl rfl hl.1 rfl (lv_room (Nat.le_of_ble_eq_true rfl)) dL_law_334 ⟨Nat.le_of_ble_eq_true rfl, Nat.le_of_ble_eq_true rfl⟩) (fun r3 E3 H locs hp hz => ?_)
    obtain ⟨rfl, hp⟩ := hp
    rw [hp] at hz
    refine lv_iload hx hb dL_law_337 (lv_at hl 1 rfl) ?_
    refine lv_icmp_eq (tgt := 344) hx hb dL_law_339 (by decide) (fun _ => ?_) (fun qw => ?_)
    rotate_left
    · exact absurd rfl qw
    refine lv_iload hx hb dL_law_344 (lv_at hl 1 rfl) ?_
    refine lv_if_ne (tgt := 361) hx hb dL_law_346 (by decide) (fun qw => ?_) (fun _ => ?_)
    · exact absurd rfl qw
    refine lv_aload_n hx hb dL_law_349 rfl (lv_at hl 3 rfl) ?_
    refine lv_iconst (v := 0) hx hb dL_law_350 (by decide) ?_
    refine pw_lald hx hb hz (by omega) ((hf2 _ (by omega)).trans hp1) 0 rfl (by exact vp_in_nI (n := 0) (by decide) (by decide)) dL_law_351 ?_
    refine lv_iload hx hb dL_law_352 (lv_at hl 0 rfl) ?_
    refine lv_i2l hx hb dL_law_354 rfl ?_
    refine W.lcmp hx hb dL_law_355 ?_
    refine lv_if_eq (tgt := 361) hx hb dL_law_356 (by decide) (fun _ => ?_) (fun qw => ?_)
    rotate_left
    · exact absurd ((lg_cmp_eq _ _).mpr (by rw [cl_0, pk_uLs, hr2])) qw
    refine lv_goto (tgt := 953) hx hb dL_law_361 (by decide) ?_
    refine W.widen (k := 201) (n := 3006) (by decide) (by decide) ?_
    exact fin E2 H locs ls hz (lv_sub hl [2, 6] rfl)
  · skip
    refine lv_aload_n hx hb dL_law_260 rfl (lv_at hl 3 rfl) ?_
    refine lv_aload_n hx hb dL_law_261 rfl (lv_at hl 4 rfl) ?_
    refine lv_iload hx hb dL_law_262 (lv_at hl 0 rfl) ?_
    refine lv_iconst (v := 1) hx hb dL_law_264 (by decide) ?_
    refine lv_iadd hx hb dL_law_265 ?_
    refine va_sld hx hb hX hbl hbA hz.2.1 (by unfold vp_in; decide +kernel) dL_law_266 ?_
    rw [← ha1]
    refine lv_aload_n hx hb dL_law_267 rfl (lv_at hl 4 rfl) ?_
    refine lv_iload hx hb dL_law_268 (lv_at hl 0 rfl) ?_
    refine lv_iconst (v := 2) hx hb dL_law_270 (by decide) ?_
    refine lv_iadd hx hb dL_law_271 ?_
    refine va_sld hx hb hX hbl hbA hz.2.1 (by unfold vp_in; decide +kernel) dL_law_272 ?_
    rw [← ha2]
    refine lv_aload_n hx hb dL_law_273 rfl (lv_at hl 4 rfl) ?_
    refine lv_iload hx hb dL_law_274 (lv_at hl 0 rfl) ?_
    refine lv_iconst (v := 3) hx hb dL_law_276 (by decide) ?_
    refine lv_iadd hx hb dL_law_277 ?_
    refine va_sld hx hb hX hbl hbA hz.2.1 (by unfold vp_in; decide +kernel) dL_law_278 ?_
    rw [← ha3]
    refine lv_aload_n hx hb dL_law_279 rfl (lv_at hl 4 rfl) ?_
    refine lv_iload hx hb dL_law_280 (lv_at hl 0 rfl) ?_
    refine lv_iconst (v := 4) hx hb dL_law_282 (by decide) ?_
    refine lv_iadd hx hb dL_law_283 ?_
    refine va_sld hx hb hX hbl hbA hz.2.1 (by unfold vp_in; decide +kernel) dL_law_284 ?_
    rw [← ha4]
    refine lv_aload_n hx hb dL_law_285 rfl (lv_at hl 4 rfl) ?_
    refine lv_iload hx hb dL_law_286 (lv_at hl 0 rfl) ?_
    refine lv_iconst (v := 5) hx hb dL_law_288 (by decide) ?_
    refine lv_iadd hx hb dL_law_289 ?_
    refine va_sld hx hb hX hbl hbA hz.2.1 (by unfold vp_in; decide +kernel) dL_law_290 ?_
    rw [← ha5]
    refine lv_aload_n hx hb dL_law_291 rfl (lv_at hl 1 rfl) ?_
    refine pw_callim hz (vx_runSW (As := [.ref b, .int a1, .int a2, .int a3, .int a4, .int a5, .ref (b + 133)]) (rest := []) ⟨hx, hb, hml, hown, hts⟩ (c_Ladd_no l hst D cJ cI cR b 134 _ _ b (by omega) (b + 133) (by omega) (fun _ => 0) hO hF a1 a2 a3 a4 a5 hv) (vx_cwSW 7 hts gL_law_L_add rfl rfl rfl (by decide +kernel) ⟨Nat.le_of_ble_eq_true rfl, Nat.le_of_ble_eq_true rfl⟩) hz.preS rfl rfl hl.1 rfl (lv_room (Nat.le_of_ble_eq_true rfl)) dL_law_292 ⟨Nat.le_of_ble_eq_true rfl, Nat.le_of_ble_eq_true rfl⟩) (fun r1 E1 H locs hp hz => ?_)
    obtain ⟨rfl, hp1⟩ := hp
    refine lv_istore (lv' := [(5, .int 1), (4, .int 0), (3, .ref (b + 133)), (2, .ref (b + 124)), (1, .ref b), (0, .ref sb)]) hx hb dL_law_295 hl (by decide) rfl (fun ls hl => ?_)
    have hm1 : E1 (b + 124) = modO (b + 124) 0 := (hp1 _ (by omega)).trans hM.1
    have hw1 : E1 (b + 124 + 1) = rowM cJ (fun _ => 0) := (hp1 _ (by omega)).trans hM.2.1
    refine lv_aload_n hx hb dL_law_297 rfl (lv_at hl 3 rfl) ?_
    refine lv_aload_n hx hb dL_law_298 rfl (lv_at hl 5 rfl) ?_
    refine lv_iload hx hb dL_law_299 (lv_at hl 1 rfl) ?_
    refine lv_iconst (v := 1) hx hb dL_law_301 (by decide) ?_
    refine lv_iadd hx hb dL_law_302 ?_
    refine va_sld hx hb hX hbl hbA hz.2.1 (by unfold vp_in; decide +kernel) dL_law_303 ?_
    rw [← ha1]
    refine lv_aload_n hx hb dL_law_304 rfl (lv_at hl 5 rfl) ?_
    refine lv_iload hx hb dL_law_305 (lv_at hl 1 rfl) ?_
    refine lv_iconst (v := 2) hx hb dL_law_307 (by decide) ?_
    refine lv_iadd hx hb dL_law_308 ?_
    refine va_sld hx hb hX hbl hbA hz.2.1 (by unfold vp_in; decide +kernel) dL_law_309 ?_
    rw [← ha2]
    refine lv_aload_n hx hb dL_law_310 rfl (lv_at hl 5 rfl) ?_
    refine lv_iload hx hb dL_law_311 (lv_at hl 1 rfl) ?_
    refine lv_iconst (v := 3) hx hb dL_law_313 (by decide) ?_
    refine lv_iadd hx hb dL_law_314 ?_
    refine va_sld hx hb hX hbl hbA hz.2.1 (by unfold vp_in; decide +kernel) dL_law_315 ?_
    rw [← ha3]
    refine lv_aload_n hx hb dL_law_316 rfl (lv_at hl 5 rfl) ?_
    refine lv_iload hx hb dL_law_317 (lv_at hl 1 rfl) ?_
    refine lv_iconst (v := 4) hx hb dL_law_319 (by decide) ?_
    refine lv_iadd hx hb dL_law_320 ?_
    refine va_sld hx hb hX hbl hbA hz.2.1 (by unfold vp_in; decide +kernel) dL_law_321 ?_
    rw [← ha4]
    refine lv_aload_n hx hb dL_law_322 rfl (lv_at hl 5 rfl) ?_
    refine lv_iload hx hb dL_law_323 (lv_at hl 1 rfl) ?_
    refine lv_iconst (v := 5) hx hb dL_law_325 (by decide) ?_
    refine lv_iadd hx hb dL_law_326 ?_
    refine va_sld hx hb hX hbl hbA hz.2.1 (by unfold vp_in; decide +kernel) dL_law_327 ?_
    rw [← ha5]
    refine pw_calli hz (va_runV (As := [.int a1, .int a2, .int a3, .int a4, .int a5]) (rest := []) ⟨hx, hb, hml, hown, hts⟩ (c_madd_no l D cJ cI cR b 134 _ _ (b + 124) 0 (by omega) hm1 a1 a2 a3 a4 a5 (fun h => hv ⟨⟨h.1, h.2.1, h.2.2.1⟩, okW_in.mpr h.2.2.2.1, okW_in.mpr h.2.2.2.2⟩)) (cwV 5 hts gL_law_X7_add rfl rfl rfl (by decide +kernel) ⟨Nat.le_of_ble_eq_true rfl, Nat.le_of_ble_eq_true rfl⟩) (hz.preV (by omega) hm1 rfl) rfl rfl hl.1 rfl (lv_room (Nat.le_of_ble_eq_true rfl)) dL_law_328 ⟨Nat.le_of_ble_eq_true rfl, Nat.le_of_ble_eq_true rfl⟩) (fun r2 E2 H locs hp hz => ?_)
    obtain ⟨⟨fs, hfs⟩, hf2⟩ := hp
    refine lv_istore (lv' := [(6, .int r2), (5, .int 1), (4, .int 0), (3, .ref (b + 133)), (2, .ref (b + 124)), (1, .ref b), (0, .ref sb)]) hx hb dL_law_331 hl (by decide) rfl (fun ls hl => ?_)
    refine lv_aload_n hx hb dL_law_333 rfl (lv_at hl 4 rfl) ?_
    refine pw_calli hz (va_runV (As := []) (rest := []) ⟨hx, hb, hml, hown, hts⟩ (c_thrown l D cJ cI cR b 134 _ _ (b + 124) 1 fs (by omega) hfs) (cwV 0 hts gL_law_X7_thrown rfl rfl rfl (by decide +kernel) ⟨Nat.le_of_ble_eq_true rfl, Nat.le_of_ble_eq_true rfl⟩) (hz.preV (by omega) hfs rfl) rfl rfl hl.1 rfl (lv_room (Nat.le_of_ble_eq_true rfl)) dL_law_334 ⟨Nat.le_of_ble_eq_true rfl, Nat.le_of_ble_eq_true rfl⟩) (fun r3 E3 H locs hp hz => ?_)
    obtain ⟨rfl, hp⟩ := hp
    rw [hp] at hz
    refine lv_iload hx hb dL_law_337 (lv_at hl 1 rfl) ?_
    refine lv_icmp_eq (tgt := 344) hx hb dL_law_339 (by decide) (fun _ => ?_) (fun qw => ?_)
    rotate_left
    · exact absurd rfl qw
    refine lv_iload hx hb dL_law_344 (lv_at hl 1 rfl) ?_
    refine lv_if_ne (tgt := 361) hx hb dL_law_346 (by decide) (fun _ => ?_) (fun qw => ?_)
    rotate_left
    · exact absurd qw (by decide)
    refine lv_goto (tgt := 953) hx hb dL_law_361 (by decide) ?_
    exact fin E2 H locs ls hz (lv_sub hl [2, 6] rfl)

set_option maxHeartbeats 1000000 in
set_option maxRecDepth 100000 in
theorem law_multiply {p : Program} {l : Launch} {e : Env} {s : State} {m : MethodId} {below : List Frame} {meth : Method} {c : Code} (hst : l.stackTraces = false) {D : va_G} {cJ cI cR : ClassId} {sb b : Nat} {xs : Nat → Int32} (C0 : lw_At p s m meth c sb 6 xs) (hbs : b = s.heap.size) {E : Nat → va_E} {H : Heap} {locs : List Loc} {ls : Array Slot} (hz : PS D vwCl (tys3 cJ cI cR) b 134 s E H locs) (hF : deskAt cJ cI cR b E) (hM : modelAt cJ cI (b + 124) E) (hO : E (b + 133) = outA cJ (fun _ => 0)) (hl : lv_has ls 7 [(4, .int 0), (3, .ref (b + 133)), (2, .ref (b + 124)), (1, .ref b), (0, .ref sb)])
    (fin : ∀ (E' : Nat → va_E) (H : Heap) (locs : List Loc) (ls : Array Slot), PS D vwCl (tys3 cJ cI cR) b 134 s E' H locs → lv_has ls 7 [(4, .int 0), (0, .ref sb)] → W p l e room_1 s m #[Value.ref sb] below meth c H locs 201 3006 (lw_Z below #[Value.ref sb] s) (F0 m 953 ls [])) : W p l e room_1 s m #[Value.ref sb] below meth c H locs 200 3000 (lw_Z below #[Value.ref sb] s) (F0 m 364 ls []) := by
  obtain ⟨hx, hb, -, hml, hown, hts0, hX, hbl, hlocks, hgv⟩ := C0
  have hts : ∀ w ∈ wsL_law, w.before #[Value.ref sb] s = true := fun w h => hts0 w (wsL_law_in w h)
  have hbA : ¬ PA b sb := by show ¬ b ≤ sb; omega
  obtain ⟨a1, ha1⟩ : ∃ z, z = (xs (Int32.toNatClampNeg (0 + 1))) := ⟨_, rfl⟩
  obtain ⟨a2, ha2⟩ : ∃ z, z = (xs (Int32.toNatClampNeg (0 + 2))) := ⟨_, rfl⟩
  obtain ⟨a3, ha3⟩ : ∃ z, z = (xs (Int32.toNatClampNeg (0 + 3))) := ⟨_, rfl⟩
  by_cases hv : ok3 a1 a2 a3
  · skip
    obtain ⟨⟨v1, v2, v3⟩, hv4⟩ : ok3 a1 a2 a3 ∧ True := ⟨hv, trivial⟩
    obtain ⟨j, hj, rfl⟩ := okS_nI v1
    obtain ⟨u, hu, rfl⟩ := okS_nI v2
    obtain ⟨v, hvv, rfl⟩ := okS_nI v3
    refine lv_aload_n hx hb dL_law_364 rfl (lv_at hl 3 rfl) ?_
    refine lv_aload_n hx hb dL_law_365 rfl (lv_at hl 4 rfl) ?_
    refine lv_iload hx hb dL_law_366 (lv_at hl 0 rfl) ?_
    refine lv_iconst (v := 1) hx hb dL_law_368 (by decide) ?_
    refine lv_iadd hx hb dL_law_369 ?_
    refine va_sld hx hb hX hbl hbA hz.2.1 (by unfold vp_in; decide +kernel) dL_law_370 ?_
    rw [← ha1]
    refine lv_aload_n hx hb dL_law_371 rfl (lv_at hl 4 rfl) ?_
    refine lv_iload hx hb dL_law_372 (lv_at hl 0 rfl) ?_
    refine lv_iconst (v := 2) hx hb dL_law_374 (by decide) ?_
    refine lv_iadd hx hb dL_law_375 ?_
    refine va_sld hx hb hX hbl hbA hz.2.1 (by unfold vp_in; decide +kernel) dL_law_376 ?_
    rw [← ha2]
    refine lv_aload_n hx hb dL_law_377 rfl (lv_at hl 4 rfl) ?_
    refine lv_iload hx hb dL_law_378 (lv_at hl 0 rfl) ?_
    refine lv_iconst (v := 3) hx hb dL_law_380 (by decide) ?_
    refine lv_iadd hx hb dL_law_381 ?_
    refine va_sld hx hb hX hbl hbA hz.2.1 (by unfold vp_in; decide +kernel) dL_law_382 ?_
    rw [← ha3]
    refine lv_aload_n hx hb dL_law_383 rfl (lv_at hl 1 rfl) ?_
    refine pw_calli hz (vx_runSW (As := [.ref b, .int (nI j), .int (nI u), .int (nI v), .ref (b + 133)]) (rest := []) ⟨hx, hb, hml, hown, hts⟩ (c_Lmultiply_ok l hst D cJ cI cR b 134 _ _ b (by omega) (b + 133) (by omega) (fun _ => 0) hO hF j u v hj hu hvv) (vx_cwSW 5 hts gL_law_L_multiply rfl rfl rfl (by decide +kernel) ⟨Nat.le_of_ble_eq_true rfl, Nat.le_of_ble_eq_true rfl⟩) hz.preS rfl rfl hl.1 rfl (lv_room (Nat.le_of_ble_eq_true rfl)) dL_law_384 ⟨Nat.le_of_ble_eq_true rfl, Nat.le_of_ble_eq_true rfl⟩) (fun r1 E1 H locs hp hz => ?_)
    obtain ⟨rfl, hp1, hp2⟩ := hp
    refine lv_istore (lv' := [(5, .int 0), (4, .int 0), (3, .ref (b + 133)), (2, .ref (b + 124)), (1, .ref b), (0, .ref sb)]) hx hb dL_law_387 hl (by decide) rfl (fun ls hl => ?_)
    have hm1 : E1 (b + 124) = modO (b + 124) 0 := (hp2 _ (by omega) (by omega)).trans hM.1
    have hw1 : E1 (b + 124 + 1) = rowM cJ (fun _ => 0) := (hp2 _ (by omega) (by omega)).trans hM.2.1
    refine lv_aload_n hx hb dL_law_389 rfl (lv_at hl 3 rfl) ?_
    refine lv_aload_n hx hb dL_law_390 rfl (lv_at hl 5 rfl) ?_
    refine lv_iload hx hb dL_law_391 (lv_at hl 1 rfl) ?_
    refine lv_iconst (v := 1) hx hb dL_law_393 (by decide) ?_
    refine lv_iadd hx hb dL_law_394 ?_
    refine va_sld hx hb hX hbl hbA hz.2.1 (by unfold vp_in; decide +kernel) dL_law_395 ?_
    rw [← ha1]
    refine lv_aload_n hx hb dL_law_396 rfl (lv_at hl 5 rfl) ?_
    refine lv_iload hx hb dL_law_397 (lv_at hl 1 rfl) ?_
    refine lv_iconst (v := 2) hx hb dL_law_399 (by decide) ?_
    refine lv_iadd hx hb dL_law_400 ?_
    refine va_sld hx hb hX hbl hbA hz.2.1 (by unfold vp_in; decide +kernel) dL_law_401 ?_
    rw [← ha2]
    refine lv_aload_n hx hb dL_law_402 rfl (lv_at hl 5 rfl) ?_
    refine lv_iload hx hb dL_law_403 (lv_at hl 1 rfl) ?_
    refine lv_iconst (v := 3) hx hb dL_law_405 (by decide) ?_
    refine lv_iadd hx hb dL_law_406 ?_
    refine va_sld hx hb hX hbl hbA hz.2.1 (by unfold vp_in; decide +kernel) dL_law_407 ?_
    rw [← ha3]
    refine pw_calli hz (va_runV (As := [.int (nI j), .int (nI u), .int (nI v)]) (rest := []) ⟨hx, hb, hml, hown, hts⟩ (c_mmultiply_ok l D cJ cI cR b 134 _ _ (b + 124) 0 (by omega) hm1 hw1 j u v hj hu hvv) (cwV 3 hts gL_law_X7_multiply rfl rfl rfl (by decide +kernel) ⟨Nat.le_of_ble_eq_true rfl, Nat.le_of_ble_eq_true rfl⟩) (hz.preV (by omega) hm1 rfl) rfl rfl hl.1 rfl (lv_room (Nat.le_of_ble_eq_true rfl)) dL_law_408 ⟨Nat.le_of_ble_eq_true rfl, Nat.le_of_ble_eq_true rfl⟩) (fun r2 E2 H locs hp hz => ?_)
    obtain ⟨hr2, ⟨fs, hfs⟩, hf2⟩ := hp
    refine lv_istore (lv' := [(6, .int r2), (5, .int 0), (4, .int 0), (3, .ref (b + 133)), (2, .ref (b + 124)), (1, .ref b), (0, .ref sb)]) hx hb dL_law_411 hl (by decide) rfl (fun ls hl => ?_)
    refine lv_aload_n hx hb dL_law_413 rfl (lv_at hl 4 rfl) ?_
    refine pw_calli hz (va_runV (As := []) (rest := []) ⟨hx, hb, hml, hown, hts⟩ (c_thrown l D cJ cI cR b 134 _ _ (b + 124) 0 fs (by omega) hfs) (cwV 0 hts gL_law_X7_thrown rfl rfl rfl (by decide +kernel) ⟨Nat.le_of_ble_eq_true rfl, Nat.le_of_ble_eq_true rfl⟩) (hz.preV (by omega) hfs rfl) rfl rfl hl.1 rfl (lv_room (Nat.le_of_ble_eq_true rfl)) dL_law_414 ⟨Nat.le_of_ble_eq_true rfl, Nat.le_of_ble_eq_true rfl⟩) (fun r3 E3 H locs hp hz => ?_)
    obtain ⟨rfl, hp⟩ := hp
    rw [hp] at hz
    refine lv_iload hx hb dL_law_417 (lv_at hl 1 rfl) ?_
    refine lv_icmp_eq (tgt := 424) hx hb dL_law_419 (by decide) (fun _ => ?_) (fun qw => ?_)
    rotate_left
    · exact absurd rfl qw
    refine lv_iload hx hb dL_law_424 (lv_at hl 1 rfl) ?_
    refine lv_if_ne (tgt := 441) hx hb dL_law_426 (by decide) (fun qw => ?_) (fun _ => ?_)
    · exact absurd rfl qw
    refine lv_aload_n hx hb dL_law_429 rfl (lv_at hl 3 rfl) ?_
    refine lv_iconst (v := 0) hx hb dL_law_430 (by decide) ?_
    refine pw_lald hx hb hz (by omega) ((hf2 _ (by omega)).trans hp1) 0 rfl (by exact vp_in_nI (n := 0) (by decide) (by decide)) dL_law_431 ?_
    refine lv_iload hx hb dL_law_432 (lv_at hl 0 rfl) ?_
    refine lv_i2l hx hb dL_law_434 rfl ?_
    refine W.lcmp hx hb dL_law_435 ?_
    refine lv_if_eq (tgt := 441) hx hb dL_law_436 (by decide) (fun _ => ?_) (fun qw => ?_)
    rotate_left
    · exact absurd ((lg_cmp_eq _ _).mpr (by rw [cl_0, pk_uLs, hr2])) qw
    refine lv_goto (tgt := 953) hx hb dL_law_441 (by decide) ?_
    refine W.widen (k := 201) (n := 3006) (by decide) (by decide) ?_
    exact fin E2 H locs ls hz (lv_sub hl [2, 6] rfl)
  · skip
    refine lv_aload_n hx hb dL_law_364 rfl (lv_at hl 3 rfl) ?_
    refine lv_aload_n hx hb dL_law_365 rfl (lv_at hl 4 rfl) ?_
    refine lv_iload hx hb dL_law_366 (lv_at hl 0 rfl) ?_
    refine lv_iconst (v := 1) hx hb dL_law_368 (by decide) ?_
    refine lv_iadd hx hb dL_law_369 ?_
    refine va_sld hx hb hX hbl hbA hz.2.1 (by unfold vp_in; decide +kernel) dL_law_370 ?_
    rw [← ha1]
    refine lv_aload_n hx hb dL_law_371 rfl (lv_at hl 4 rfl) ?_
    refine lv_iload hx hb dL_law_372 (lv_at hl 0 rfl) ?_
    refine lv_iconst (v := 2) hx hb dL_law_374 (by decide) ?_
    refine lv_iadd hx hb dL_law_375 ?_
    refine va_sld hx hb hX hbl hbA hz.2.1 (by unfold vp_in; decide +kernel) dL_law_376 ?_
    rw [← ha2]
    refine lv_aload_n hx hb dL_law_377 rfl (lv_at hl 4 rfl) ?_
    refine lv_iload hx hb dL_law_378 (lv_at hl 0 rfl) ?_
    refine lv_iconst (v := 3) hx hb dL_law_380 (by decide) ?_
    refine lv_iadd hx hb dL_law_381 ?_
    refine va_sld hx hb hX hbl hbA hz.2.1 (by unfold vp_in; decide +kernel) dL_law_382 ?_
    rw [← ha3]
    refine lv_aload_n hx hb dL_law_383 rfl (lv_at hl 1 rfl) ?_
    refine pw_callim hz (vx_runSW (As := [.ref b, .int a1, .int a2, .int a3, .ref (b + 133)]) (rest := []) ⟨hx, hb, hml, hown, hts⟩ (c_Lmultiply_no l hst D cJ cI cR b 134 _ _ b (by omega) (b + 133) (by omega) (fun _ => 0) hO hF a1 a2 a3 hv) (vx_cwSW 5 hts gL_law_L_multiply rfl rfl rfl (by decide +kernel) ⟨Nat.le_of_ble_eq_true rfl, Nat.le_of_ble_eq_true rfl⟩) hz.preS rfl rfl hl.1 rfl (lv_room (Nat.le_of_ble_eq_true rfl)) dL_law_384 ⟨Nat.le_of_ble_eq_true rfl, Nat.le_of_ble_eq_true rfl⟩) (fun r1 E1 H locs hp hz => ?_)
    obtain ⟨rfl, hp1⟩ := hp
    refine lv_istore (lv' := [(5, .int 1), (4, .int 0), (3, .ref (b + 133)), (2, .ref (b + 124)), (1, .ref b), (0, .ref sb)]) hx hb dL_law_387 hl (by decide) rfl (fun ls hl => ?_)
    have hm1 : E1 (b + 124) = modO (b + 124) 0 := (hp1 _ (by omega)).trans hM.1
    have hw1 : E1 (b + 124 + 1) = rowM cJ (fun _ => 0) := (hp1 _ (by omega)).trans hM.2.1
    refine lv_aload_n hx hb dL_law_389 rfl (lv_at hl 3 rfl) ?_
    refine lv_aload_n hx hb dL_law_390 rfl (lv_at hl 5 rfl) ?_
    refine lv_iload hx hb dL_law_391 (lv_at hl 1 rfl) ?_
    refine lv_iconst (v := 1) hx hb dL_law_393 (by decide) ?_
    refine lv_iadd hx hb dL_law_394 ?_
    refine va_sld hx hb hX hbl hbA hz.2.1 (by unfold vp_in; decide +kernel) dL_law_395 ?_
    rw [← ha1]
    refine lv_aload_n hx hb dL_law_396 rfl (lv_at hl 5 rfl) ?_
    refine lv_iload hx hb dL_law_397 (lv_at hl 1 rfl) ?_
    refine lv_iconst (v := 2) hx hb dL_law_399 (by decide) ?_
    refine lv_iadd hx hb dL_law_400 ?_
    refine va_sld hx hb hX hbl hbA hz.2.1 (by unfold vp_in; decide +kernel) dL_law_401 ?_
    rw [← ha2]
    refine lv_aload_n hx hb dL_law_402 rfl (lv_at hl 5 rfl) ?_
    refine lv_iload hx hb dL_law_403 (lv_at hl 1 rfl) ?_
    refine lv_iconst (v := 3) hx hb dL_law_405 (by decide) ?_
    refine lv_iadd hx hb dL_law_406 ?_
    refine va_sld hx hb hX hbl hbA hz.2.1 (by unfold vp_in; decide +kernel) dL_law_407 ?_
    rw [← ha3]
    refine pw_calli hz (va_runV (As := [.int a1, .int a2, .int a3]) (rest := []) ⟨hx, hb, hml, hown, hts⟩ (c_mmultiply_no l D cJ cI cR b 134 _ _ (b + 124) 0 (by omega) hm1 a1 a2 a3 (fun h => hv ⟨h.1, h.2.1, h.2.2⟩)) (cwV 3 hts gL_law_X7_multiply rfl rfl rfl (by decide +kernel) ⟨Nat.le_of_ble_eq_true rfl, Nat.le_of_ble_eq_true rfl⟩) (hz.preV (by omega) hm1 rfl) rfl rfl hl.1 rfl (lv_room (Nat.le_of_ble_eq_true rfl)) dL_law_408 ⟨Nat.le_of_ble_eq_true rfl, Nat.le_of_ble_eq_true rfl⟩) (fun r2 E2 H locs hp hz => ?_)
    obtain ⟨⟨fs, hfs⟩, hf2⟩ := hp
    refine lv_istore (lv' := [(6, .int r2), (5, .int 1), (4, .int 0), (3, .ref (b + 133)), (2, .ref (b + 124)), (1, .ref b), (0, .ref sb)]) hx hb dL_law_411 hl (by decide) rfl (fun ls hl => ?_)
    refine lv_aload_n hx hb dL_law_413 rfl (lv_at hl 4 rfl) ?_
    refine pw_calli hz (va_runV (As := []) (rest := []) ⟨hx, hb, hml, hown, hts⟩ (c_thrown l D cJ cI cR b 134 _ _ (b + 124) 1 fs (by omega) hfs) (cwV 0 hts gL_law_X7_thrown rfl rfl rfl (by decide +kernel) ⟨Nat.le_of_ble_eq_true rfl, Nat.le_of_ble_eq_true rfl⟩) (hz.preV (by omega) hfs rfl) rfl rfl hl.1 rfl (lv_room (Nat.le_of_ble_eq_true rfl)) dL_law_414 ⟨Nat.le_of_ble_eq_true rfl, Nat.le_of_ble_eq_true rfl⟩) (fun r3 E3 H locs hp hz => ?_)
    obtain ⟨rfl, hp⟩ := hp
    rw [hp] at hz
    refine lv_iload hx hb dL_law_417 (lv_at hl 1 rfl) ?_
    refine lv_icmp_eq (tgt := 424) hx hb dL_law_419 (by decide) (fun _ => ?_) (fun qw => ?_)
    rotate_left
    · exact absurd rfl qw
    refine lv_iload hx hb dL_law_424 (lv_at hl 1 rfl) ?_
    refine lv_if_ne (tgt := 441) hx hb dL_law_426 (by decide) (fun _ => ?_) (fun qw => ?_)
    rotate_left
    · exact absurd qw (by decide)
    refine lv_goto (tgt := 953) hx hb dL_law_441 (by decide) ?_
    exact fin E2 H locs ls hz (lv_sub hl [2, 6] rfl)

set_option maxHeartbeats 1000000 in
set_option maxRecDepth 100000 in
theorem law_divide {p : Program} {l : Launch} {e : Env} {s : State} {m : MethodId} {below : List Frame} {meth : Method} {c : Code} (hst : l.stackTraces = false) {D : va_G} {cJ cI cR : ClassId} {sb b : Nat} {xs : Nat → Int32} (C0 : lw_At p s m meth c sb 6 xs) (hbs : b = s.heap.size) {E : Nat → va_E} {H : Heap} {locs : List Loc} {ls : Array Slot} (hz : PS D vwCl (tys3 cJ cI cR) b 134 s E H locs) (hF : deskAt cJ cI cR b E) (hM : modelAt cJ cI (b + 124) E) (hO : E (b + 133) = outA cJ (fun _ => 0)) (hl : lv_has ls 7 [(4, .int 0), (3, .ref (b + 133)), (2, .ref (b + 124)), (1, .ref b), (0, .ref sb)])
    (fin : ∀ (E' : Nat → va_E) (H : Heap) (locs : List Loc) (ls : Array Slot), PS D vwCl (tys3 cJ cI cR) b 134 s E' H locs → lv_has ls 7 [(4, .int 0), (0, .ref sb)] → W p l e room_1 s m #[Value.ref sb] below meth c H locs 201 3006 (lw_Z below #[Value.ref sb] s) (F0 m 953 ls [])) : W p l e room_1 s m #[Value.ref sb] below meth c H locs 200 3000 (lw_Z below #[Value.ref sb] s) (F0 m 512 ls []) := by
  obtain ⟨hx, hb, -, hml, hown, hts0, hX, hbl, hlocks, hgv⟩ := C0
  have hts : ∀ w ∈ wsL_law, w.before #[Value.ref sb] s = true := fun w h => hts0 w (wsL_law_in w h)
  have hbA : ¬ PA b sb := by show ¬ b ≤ sb; omega
  obtain ⟨a1, ha1⟩ : ∃ z, z = (xs (Int32.toNatClampNeg (0 + 1))) := ⟨_, rfl⟩
  obtain ⟨a2, ha2⟩ : ∃ z, z = (xs (Int32.toNatClampNeg (0 + 2))) := ⟨_, rfl⟩
  obtain ⟨a3, ha3⟩ : ∃ z, z = (xs (Int32.toNatClampNeg (0 + 3))) := ⟨_, rfl⟩
  by_cases hv : ok3 a1 a2 a3
  · skip
    obtain ⟨⟨v1, v2, v3⟩, hv4⟩ : ok3 a1 a2 a3 ∧ True := ⟨hv, trivial⟩
    obtain ⟨j, hj, rfl⟩ := okS_nI v1
    obtain ⟨u, hu, rfl⟩ := okS_nI v2
    obtain ⟨v, hvv, rfl⟩ := okS_nI v3
    refine lv_aload_n hx hb dL_law_512 rfl (lv_at hl 3 rfl) ?_
    refine lv_aload_n hx hb dL_law_513 rfl (lv_at hl 4 rfl) ?_
    refine lv_iload hx hb dL_law_514 (lv_at hl 0 rfl) ?_
    refine lv_iconst (v := 1) hx hb dL_law_516 (by decide) ?_
    refine lv_iadd hx hb dL_law_517 ?_
    refine va_sld hx hb hX hbl hbA hz.2.1 (by unfold vp_in; decide +kernel) dL_law_518 ?_
    rw [← ha1]
    refine lv_aload_n hx hb dL_law_519 rfl (lv_at hl 4 rfl) ?_
    refine lv_iload hx hb dL_law_520 (lv_at hl 0 rfl) ?_
    refine lv_iconst (v := 2) hx hb dL_law_522 (by decide) ?_
    refine lv_iadd hx hb dL_law_523 ?_
    refine va_sld hx hb hX hbl hbA hz.2.1 (by unfold vp_in; decide +kernel) dL_law_524 ?_
    rw [← ha2]
    refine lv_aload_n hx hb dL_law_525 rfl (lv_at hl 4 rfl) ?_
    refine lv_iload hx hb dL_law_526 (lv_at hl 0 rfl) ?_
    refine lv_iconst (v := 3) hx hb dL_law_528 (by decide) ?_
    refine lv_iadd hx hb dL_law_529 ?_
    refine va_sld hx hb hX hbl hbA hz.2.1 (by unfold vp_in; decide +kernel) dL_law_530 ?_
    rw [← ha3]
    refine lv_aload_n hx hb dL_law_531 rfl (lv_at hl 1 rfl) ?_
    refine pw_calli hz (vx_runSW (As := [.ref b, .int (nI j), .int (nI u), .int (nI v), .ref (b + 133)]) (rest := []) ⟨hx, hb, hml, hown, hts⟩ (c_Ldivide_ok l hst D cJ cI cR b 134 _ _ b (by omega) (b + 133) (by omega) (fun _ => 0) hO hF j u v hj hu hvv) (vx_cwSW 5 hts gL_law_L_divide rfl rfl rfl (by decide +kernel) ⟨Nat.le_of_ble_eq_true rfl, Nat.le_of_ble_eq_true rfl⟩) hz.preS rfl rfl hl.1 rfl (lv_room (Nat.le_of_ble_eq_true rfl)) dL_law_532 ⟨Nat.le_of_ble_eq_true rfl, Nat.le_of_ble_eq_true rfl⟩) (fun r1 E1 H locs hp hz => ?_)
    obtain ⟨rfl, hp1, hp2⟩ := hp
    refine lv_istore (lv' := [(5, .int 0), (4, .int 0), (3, .ref (b + 133)), (2, .ref (b + 124)), (1, .ref b), (0, .ref sb)]) hx hb dL_law_535 hl (by decide) rfl (fun ls hl => ?_)
    have hm1 : E1 (b + 124) = modO (b + 124) 0 := (hp2 _ (by omega) (by omega)).trans hM.1
    have hw1 : E1 (b + 124 + 1) = rowM cJ (fun _ => 0) := (hp2 _ (by omega) (by omega)).trans hM.2.1
    refine lv_aload_n hx hb dL_law_537 rfl (lv_at hl 3 rfl) ?_
    refine lv_aload_n hx hb dL_law_538 rfl (lv_at hl 5 rfl) ?_
    refine lv_iload hx hb dL_law_539 (lv_at hl 1 rfl) ?_
    refine lv_iconst (v := 1) hx hb dL_law_541 (by decide) ?_
    refine lv_iadd hx hb dL_law_542 ?_
    refine va_sld hx hb hX hbl hbA hz.2.1 (by unfold vp_in; decide +kernel) dL_law_543 ?_
    rw [← ha1]
    refine lv_aload_n hx hb dL_law_544 rfl (lv_at hl 5 rfl) ?_
    refine lv_iload hx hb dL_law_545 (lv_at hl 1 rfl) ?_
    refine lv_iconst (v := 2) hx hb dL_law_547 (by decide) ?_
    refine lv_iadd hx hb dL_law_548 ?_
    refine va_sld hx hb hX hbl hbA hz.2.1 (by unfold vp_in; decide +kernel) dL_law_549 ?_
    rw [← ha2]
    refine lv_aload_n hx hb dL_law_550 rfl (lv_at hl 5 rfl) ?_
    refine lv_iload hx hb dL_law_551 (lv_at hl 1 rfl) ?_
    refine lv_iconst (v := 3) hx hb dL_law_553 (by decide) ?_
    refine lv_iadd hx hb dL_law_554 ?_
    refine va_sld hx hb hX hbl hbA hz.2.1 (by unfold vp_in; decide +kernel) dL_law_555 ?_
    rw [← ha3]
    refine pw_calli hz (va_runV (As := [.int (nI j), .int (nI u), .int (nI v)]) (rest := []) ⟨hx, hb, hml, hown, hts⟩ (c_mdivide_ok l D cJ cI cR b 134 _ _ (b + 124) 0 (by omega) hm1 hw1 j u v hj hu hvv) (cwV 3 hts gL_law_X7_divide rfl rfl rfl (by decide +kernel) ⟨Nat.le_of_ble_eq_true rfl, Nat.le_of_ble_eq_true rfl⟩) (hz.preV (by omega) hm1 rfl) rfl rfl hl.1 rfl (lv_room (Nat.le_of_ble_eq_true rfl)) dL_law_556 ⟨Nat.le_of_ble_eq_true rfl, Nat.le_of_ble_eq_true rfl⟩) (fun r2 E2 H locs hp hz => ?_)
    obtain ⟨hr2, ⟨fs, hfs⟩, hf2⟩ := hp
    refine lv_istore (lv' := [(6, .int r2), (5, .int 0), (4, .int 0), (3, .ref (b + 133)), (2, .ref (b + 124)), (1, .ref b), (0, .ref sb)]) hx hb dL_law_559 hl (by decide) rfl (fun ls hl => ?_)
    refine lv_aload_n hx hb dL_law_561 rfl (lv_at hl 4 rfl) ?_
    refine pw_calli hz (va_runV (As := []) (rest := []) ⟨hx, hb, hml, hown, hts⟩ (c_thrown l D cJ cI cR b 134 _ _ (b + 124) 0 fs (by omega) hfs) (cwV 0 hts gL_law_X7_thrown rfl rfl rfl (by decide +kernel) ⟨Nat.le_of_ble_eq_true rfl, Nat.le_of_ble_eq_true rfl⟩) (hz.preV (by omega) hfs rfl) rfl rfl hl.1 rfl (lv_room (Nat.le_of_ble_eq_true rfl)) dL_law_562 ⟨Nat.le_of_ble_eq_true rfl, Nat.le_of_ble_eq_true rfl⟩) (fun r3 E3 H locs hp hz => ?_)
    obtain ⟨rfl, hp⟩ := hp
    rw [hp] at hz
    refine lv_iload hx hb dL_law_565 (lv_at hl 1 rfl) ?_
    refine lv_icmp_eq (tgt := 572) hx hb dL_law_567 (by decide) (fun _ => ?_) (fun qw => ?_)
    rotate_left
    · exact absurd rfl qw
    refine lv_iload hx hb dL_law_572 (lv_at hl 1 rfl) ?_
    refine lv_if_ne (tgt := 589) hx hb dL_law_574 (by decide) (fun qw => ?_) (fun _ => ?_)
    · exact absurd rfl qw
    refine lv_aload_n hx hb dL_law_577 rfl (lv_at hl 3 rfl) ?_
    refine lv_iconst (v := 0) hx hb dL_law_578 (by decide) ?_
    refine pw_lald hx hb hz (by omega) ((hf2 _ (by omega)).trans hp1) 0 rfl (by exact vp_in_nI (n := 0) (by decide) (by decide)) dL_law_579 ?_
    refine lv_iload hx hb dL_law_580 (lv_at hl 0 rfl) ?_
    refine lv_i2l hx hb dL_law_582 rfl ?_
    refine W.lcmp hx hb dL_law_583 ?_
    refine lv_if_eq (tgt := 589) hx hb dL_law_584 (by decide) (fun _ => ?_) (fun qw => ?_)
    rotate_left
    · exact absurd ((lg_cmp_eq _ _).mpr (by rw [cl_0, pk_uLs, hr2])) qw
    refine lv_goto (tgt := 953) hx hb dL_law_589 (by decide) ?_
    refine W.widen (k := 201) (n := 3006) (by decide) (by decide) ?_
    exact fin E2 H locs ls hz (lv_sub hl [2, 6] rfl)
  · skip
    refine lv_aload_n hx hb dL_law_512 rfl (lv_at hl 3 rfl) ?_
    refine lv_aload_n hx hb dL_law_513 rfl (lv_at hl 4 rfl) ?_
    refine lv_iload hx hb dL_law_514 (lv_at hl 0 rfl) ?_
    refine lv_iconst (v := 1) hx hb dL_law_516 (by decide) ?_
    refine lv_iadd hx hb dL_law_517 ?_
    refine va_sld hx hb hX hbl hbA hz.2.1 (by unfold vp_in; decide +kernel) dL_law_518 ?_
    rw [← ha1]
    refine lv_aload_n hx hb dL_law_519 rfl (lv_at hl 4 rfl) ?_
    refine lv_iload hx hb dL_law_520 (lv_at hl 0 rfl) ?_
    refine lv_iconst (v := 2) hx hb dL_law_522 (by decide) ?_
    refine lv_iadd hx hb dL_law_523 ?_
    refine va_sld hx hb hX hbl hbA hz.2.1 (by unfold vp_in; decide +kernel) dL_law_524 ?_
    rw [← ha2]
    refine lv_aload_n hx hb dL_law_525 rfl (lv_at hl 4 rfl) ?_
    refine lv_iload hx hb dL_law_526 (lv_at hl 0 rfl) ?_
    refine lv_iconst (v := 3) hx hb dL_law_528 (by decide) ?_
    refine lv_iadd hx hb dL_law_529 ?_
    refine va_sld hx hb hX hbl hbA hz.2.1 (by unfold vp_in; decide +kernel) dL_law_530 ?_
    rw [← ha3]
    refine lv_aload_n hx hb dL_law_531 rfl (lv_at hl 1 rfl) ?_
    refine pw_callim hz (vx_runSW (As := [.ref b, .int a1, .int a2, .int a3, .ref (b + 133)]) (rest := []) ⟨hx, hb, hml, hown, hts⟩ (c_Ldivide_no l hst D cJ cI cR b 134 _ _ b (by omega) (b + 133) (by omega) (fun _ => 0) hO hF a1 a2 a3 hv) (vx_cwSW 5 hts gL_law_L_divide rfl rfl rfl (by decide +kernel) ⟨Nat.le_of_ble_eq_true rfl, Nat.le_of_ble_eq_true rfl⟩) hz.preS rfl rfl hl.1 rfl (lv_room (Nat.le_of_ble_eq_true rfl)) dL_law_532 ⟨Nat.le_of_ble_eq_true rfl, Nat.le_of_ble_eq_true rfl⟩) (fun r1 E1 H locs hp hz => ?_)
    obtain ⟨rfl, hp1⟩ := hp
    refine lv_istore (lv' := [(5, .int 1), (4, .int 0), (3, .ref (b + 133)), (2, .ref (b + 124)), (1, .ref b), (0, .ref sb)]) hx hb dL_law_535 hl (by decide) rfl (fun ls hl => ?_)
    have hm1 : E1 (b + 124) = modO (b + 124) 0 := (hp1 _ (by omega)).trans hM.1
    have hw1 : E1 (b + 124 + 1) = rowM cJ (fun _ => 0) := (hp1 _ (by omega)).trans hM.2.1
    refine lv_aload_n hx hb dL_law_537 rfl (lv_at hl 3 rfl) ?_
    refine lv_aload_n hx hb dL_law_538 rfl (lv_at hl 5 rfl) ?_
    refine lv_iload hx hb dL_law_539 (lv_at hl 1 rfl) ?_
    refine lv_iconst (v := 1) hx hb dL_law_541 (by decide) ?_
    refine lv_iadd hx hb dL_law_542 ?_
    refine va_sld hx hb hX hbl hbA hz.2.1 (by unfold vp_in; decide +kernel) dL_law_543 ?_
    rw [← ha1]
    refine lv_aload_n hx hb dL_law_544 rfl (lv_at hl 5 rfl) ?_
    refine lv_iload hx hb dL_law_545 (lv_at hl 1 rfl) ?_
    refine lv_iconst (v := 2) hx hb dL_law_547 (by decide) ?_
    refine lv_iadd hx hb dL_law_548 ?_
    refine va_sld hx hb hX hbl hbA hz.2.1 (by unfold vp_in; decide +kernel) dL_law_549 ?_
    rw [← ha2]
    refine lv_aload_n hx hb dL_law_550 rfl (lv_at hl 5 rfl) ?_
    refine lv_iload hx hb dL_law_551 (lv_at hl 1 rfl) ?_
    refine lv_iconst (v := 3) hx hb dL_law_553 (by decide) ?_
    refine lv_iadd hx hb dL_law_554 ?_
    refine va_sld hx hb hX hbl hbA hz.2.1 (by unfold vp_in; decide +kernel) dL_law_555 ?_
    rw [← ha3]
    refine pw_calli hz (va_runV (As := [.int a1, .int a2, .int a3]) (rest := []) ⟨hx, hb, hml, hown, hts⟩ (c_mdivide_no l D cJ cI cR b 134 _ _ (b + 124) 0 (by omega) hm1 a1 a2 a3 (fun h => hv ⟨h.1, h.2.1, h.2.2⟩)) (cwV 3 hts gL_law_X7_divide rfl rfl rfl (by decide +kernel) ⟨Nat.le_of_ble_eq_true rfl, Nat.le_of_ble_eq_true rfl⟩) (hz.preV (by omega) hm1 rfl) rfl rfl hl.1 rfl (lv_room (Nat.le_of_ble_eq_true rfl)) dL_law_556 ⟨Nat.le_of_ble_eq_true rfl, Nat.le_of_ble_eq_true rfl⟩) (fun r2 E2 H locs hp hz => ?_)
    obtain ⟨⟨fs, hfs⟩, hf2⟩ := hp
    refine lv_istore (lv' := [(6, .int r2), (5, .int 1), (4, .int 0), (3, .ref (b + 133)), (2, .ref (b + 124)), (1, .ref b), (0, .ref sb)]) hx hb dL_law_559 hl (by decide) rfl (fun ls hl => ?_)
    refine lv_aload_n hx hb dL_law_561 rfl (lv_at hl 4 rfl) ?_
    refine pw_calli hz (va_runV (As := []) (rest := []) ⟨hx, hb, hml, hown, hts⟩ (c_thrown l D cJ cI cR b 134 _ _ (b + 124) 1 fs (by omega) hfs) (cwV 0 hts gL_law_X7_thrown rfl rfl rfl (by decide +kernel) ⟨Nat.le_of_ble_eq_true rfl, Nat.le_of_ble_eq_true rfl⟩) (hz.preV (by omega) hfs rfl) rfl rfl hl.1 rfl (lv_room (Nat.le_of_ble_eq_true rfl)) dL_law_562 ⟨Nat.le_of_ble_eq_true rfl, Nat.le_of_ble_eq_true rfl⟩) (fun r3 E3 H locs hp hz => ?_)
    obtain ⟨rfl, hp⟩ := hp
    rw [hp] at hz
    refine lv_iload hx hb dL_law_565 (lv_at hl 1 rfl) ?_
    refine lv_icmp_eq (tgt := 572) hx hb dL_law_567 (by decide) (fun _ => ?_) (fun qw => ?_)
    rotate_left
    · exact absurd rfl qw
    refine lv_iload hx hb dL_law_572 (lv_at hl 1 rfl) ?_
    refine lv_if_ne (tgt := 589) hx hb dL_law_574 (by decide) (fun _ => ?_) (fun qw => ?_)
    rotate_left
    · exact absurd qw (by decide)
    refine lv_goto (tgt := 953) hx hb dL_law_589 (by decide) ?_
    exact fin E2 H locs ls hz (lv_sub hl [2, 6] rfl)

set_option maxHeartbeats 1000000 in
set_option maxRecDepth 100000 in
theorem law_common {p : Program} {l : Launch} {e : Env} {s : State} {m : MethodId} {below : List Frame} {meth : Method} {c : Code} (hst : l.stackTraces = false) {D : va_G} {cJ cI cR : ClassId} {sb b : Nat} {xs : Nat → Int32} (C0 : lw_At p s m meth c sb 6 xs) (hbs : b = s.heap.size) {E : Nat → va_E} {H : Heap} {locs : List Loc} {ls : Array Slot} (hz : PS D vwCl (tys3 cJ cI cR) b 134 s E H locs) (hF : deskAt cJ cI cR b E) (hM : modelAt cJ cI (b + 124) E) (hO : E (b + 133) = outA cJ (fun _ => 0)) (hl : lv_has ls 7 [(4, .int 0), (3, .ref (b + 133)), (2, .ref (b + 124)), (1, .ref b), (0, .ref sb)])
    (fin : ∀ (E' : Nat → va_E) (H : Heap) (locs : List Loc) (ls : Array Slot), PS D vwCl (tys3 cJ cI cR) b 134 s E' H locs → lv_has ls 7 [(4, .int 0), (0, .ref sb)] → W p l e room_1 s m #[Value.ref sb] below meth c H locs 201 3006 (lw_Z below #[Value.ref sb] s) (F0 m 953 ls [])) : W p l e room_1 s m #[Value.ref sb] below meth c H locs 200 3000 (lw_Z below #[Value.ref sb] s) (F0 m 592 ls []) := by
  obtain ⟨hx, hb, -, hml, hown, hts0, hX, hbl, hlocks, hgv⟩ := C0
  have hts : ∀ w ∈ wsL_law, w.before #[Value.ref sb] s = true := fun w h => hts0 w (wsL_law_in w h)
  have hbA : ¬ PA b sb := by show ¬ b ≤ sb; omega
  obtain ⟨a1, ha1⟩ : ∃ z, z = (xs (Int32.toNatClampNeg (0 + 1))) := ⟨_, rfl⟩
  obtain ⟨a2, ha2⟩ : ∃ z, z = (xs (Int32.toNatClampNeg (0 + 2))) := ⟨_, rfl⟩
  obtain ⟨a3, ha3⟩ : ∃ z, z = (xs (Int32.toNatClampNeg (0 + 3))) := ⟨_, rfl⟩
  by_cases hv : ok3 a1 a2 a3
  · skip
    obtain ⟨⟨v1, v2, v3⟩, hv4⟩ : ok3 a1 a2 a3 ∧ True := ⟨hv, trivial⟩
    obtain ⟨j, hj, rfl⟩ := okS_nI v1
    obtain ⟨u, hu, rfl⟩ := okS_nI v2
    obtain ⟨v, hvv, rfl⟩ := okS_nI v3
    refine lv_aload_n hx hb dL_law_592 rfl (lv_at hl 3 rfl) ?_
    refine lv_aload_n hx hb dL_law_593 rfl (lv_at hl 4 rfl) ?_
    refine lv_iload hx hb dL_law_594 (lv_at hl 0 rfl) ?_
    refine lv_iconst (v := 1) hx hb dL_law_596 (by decide) ?_
    refine lv_iadd hx hb dL_law_597 ?_
    refine va_sld hx hb hX hbl hbA hz.2.1 (by unfold vp_in; decide +kernel) dL_law_598 ?_
    rw [← ha1]
    refine lv_aload_n hx hb dL_law_599 rfl (lv_at hl 4 rfl) ?_
    refine lv_iload hx hb dL_law_600 (lv_at hl 0 rfl) ?_
    refine lv_iconst (v := 2) hx hb dL_law_602 (by decide) ?_
    refine lv_iadd hx hb dL_law_603 ?_
    refine va_sld hx hb hX hbl hbA hz.2.1 (by unfold vp_in; decide +kernel) dL_law_604 ?_
    rw [← ha2]
    refine lv_aload_n hx hb dL_law_605 rfl (lv_at hl 4 rfl) ?_
    refine lv_iload hx hb dL_law_606 (lv_at hl 0 rfl) ?_
    refine lv_iconst (v := 3) hx hb dL_law_608 (by decide) ?_
    refine lv_iadd hx hb dL_law_609 ?_
    refine va_sld hx hb hX hbl hbA hz.2.1 (by unfold vp_in; decide +kernel) dL_law_610 ?_
    rw [← ha3]
    refine lv_aload_n hx hb dL_law_611 rfl (lv_at hl 1 rfl) ?_
    refine pw_calli hz (vx_runSW (As := [.ref b, .int (nI j), .int (nI u), .int (nI v), .ref (b + 133)]) (rest := []) ⟨hx, hb, hml, hown, hts⟩ (c_Lcommon_ok l hst D cJ cI cR b 134 _ _ b (by omega) (b + 133) (by omega) (fun _ => 0) hO hF j u v hj hu hvv) (vx_cwSW 5 hts gL_law_L_common rfl rfl rfl (by decide +kernel) ⟨Nat.le_of_ble_eq_true rfl, Nat.le_of_ble_eq_true rfl⟩) hz.preS rfl rfl hl.1 rfl (lv_room (Nat.le_of_ble_eq_true rfl)) dL_law_612 ⟨Nat.le_of_ble_eq_true rfl, Nat.le_of_ble_eq_true rfl⟩) (fun r1 E1 H locs hp hz => ?_)
    obtain ⟨rfl, hp1, hp2⟩ := hp
    refine lv_istore (lv' := [(5, .int 0), (4, .int 0), (3, .ref (b + 133)), (2, .ref (b + 124)), (1, .ref b), (0, .ref sb)]) hx hb dL_law_615 hl (by decide) rfl (fun ls hl => ?_)
    have hm1 : E1 (b + 124) = modO (b + 124) 0 := (hp2 _ (by omega) (by omega)).trans hM.1
    have hw1 : E1 (b + 124 + 1) = rowM cJ (fun _ => 0) := (hp2 _ (by omega) (by omega)).trans hM.2.1
    refine lv_aload_n hx hb dL_law_617 rfl (lv_at hl 3 rfl) ?_
    refine lv_aload_n hx hb dL_law_618 rfl (lv_at hl 5 rfl) ?_
    refine lv_iload hx hb dL_law_619 (lv_at hl 1 rfl) ?_
    refine lv_iconst (v := 1) hx hb dL_law_621 (by decide) ?_
    refine lv_iadd hx hb dL_law_622 ?_
    refine va_sld hx hb hX hbl hbA hz.2.1 (by unfold vp_in; decide +kernel) dL_law_623 ?_
    rw [← ha1]
    refine lv_aload_n hx hb dL_law_624 rfl (lv_at hl 5 rfl) ?_
    refine lv_iload hx hb dL_law_625 (lv_at hl 1 rfl) ?_
    refine lv_iconst (v := 2) hx hb dL_law_627 (by decide) ?_
    refine lv_iadd hx hb dL_law_628 ?_
    refine va_sld hx hb hX hbl hbA hz.2.1 (by unfold vp_in; decide +kernel) dL_law_629 ?_
    rw [← ha2]
    refine lv_aload_n hx hb dL_law_630 rfl (lv_at hl 5 rfl) ?_
    refine lv_iload hx hb dL_law_631 (lv_at hl 1 rfl) ?_
    refine lv_iconst (v := 3) hx hb dL_law_633 (by decide) ?_
    refine lv_iadd hx hb dL_law_634 ?_
    refine va_sld hx hb hX hbl hbA hz.2.1 (by unfold vp_in; decide +kernel) dL_law_635 ?_
    rw [← ha3]
    refine pw_calli hz (va_runV (As := [.int (nI j), .int (nI u), .int (nI v)]) (rest := []) ⟨hx, hb, hml, hown, hts⟩ (c_mcommon_ok l D cJ cI cR b 134 _ _ (b + 124) 0 (by omega) hm1 hw1 j u v hj hu hvv) (cwV 3 hts gL_law_X7_common rfl rfl rfl (by decide +kernel) ⟨Nat.le_of_ble_eq_true rfl, Nat.le_of_ble_eq_true rfl⟩) (hz.preV (by omega) hm1 rfl) rfl rfl hl.1 rfl (lv_room (Nat.le_of_ble_eq_true rfl)) dL_law_636 ⟨Nat.le_of_ble_eq_true rfl, Nat.le_of_ble_eq_true rfl⟩) (fun r2 E2 H locs hp hz => ?_)
    obtain ⟨hr2, ⟨fs, hfs⟩, hf2⟩ := hp
    refine lv_istore (lv' := [(6, .int r2), (5, .int 0), (4, .int 0), (3, .ref (b + 133)), (2, .ref (b + 124)), (1, .ref b), (0, .ref sb)]) hx hb dL_law_639 hl (by decide) rfl (fun ls hl => ?_)
    refine lv_aload_n hx hb dL_law_641 rfl (lv_at hl 4 rfl) ?_
    refine pw_calli hz (va_runV (As := []) (rest := []) ⟨hx, hb, hml, hown, hts⟩ (c_thrown l D cJ cI cR b 134 _ _ (b + 124) 0 fs (by omega) hfs) (cwV 0 hts gL_law_X7_thrown rfl rfl rfl (by decide +kernel) ⟨Nat.le_of_ble_eq_true rfl, Nat.le_of_ble_eq_true rfl⟩) (hz.preV (by omega) hfs rfl) rfl rfl hl.1 rfl (lv_room (Nat.le_of_ble_eq_true rfl)) dL_law_642 ⟨Nat.le_of_ble_eq_true rfl, Nat.le_of_ble_eq_true rfl⟩) (fun r3 E3 H locs hp hz => ?_)
    obtain ⟨rfl, hp⟩ := hp
    rw [hp] at hz
    refine lv_iload hx hb dL_law_645 (lv_at hl 1 rfl) ?_
    refine lv_icmp_eq (tgt := 652) hx hb dL_law_647 (by decide) (fun _ => ?_) (fun qw => ?_)
    rotate_left
    · exact absurd rfl qw
    refine lv_iload hx hb dL_law_652 (lv_at hl 1 rfl) ?_
    refine lv_if_ne (tgt := 669) hx hb dL_law_654 (by decide) (fun qw => ?_) (fun _ => ?_)
    · exact absurd rfl qw
    refine lv_aload_n hx hb dL_law_657 rfl (lv_at hl 3 rfl) ?_
    refine lv_iconst (v := 0) hx hb dL_law_658 (by decide) ?_
    refine pw_lald hx hb hz (by omega) ((hf2 _ (by omega)).trans hp1) 0 rfl (by exact vp_in_nI (n := 0) (by decide) (by decide)) dL_law_659 ?_
    refine lv_iload hx hb dL_law_660 (lv_at hl 0 rfl) ?_
    refine lv_i2l hx hb dL_law_662 rfl ?_
    refine W.lcmp hx hb dL_law_663 ?_
    refine lv_if_eq (tgt := 669) hx hb dL_law_664 (by decide) (fun _ => ?_) (fun qw => ?_)
    rotate_left
    · exact absurd ((lg_cmp_eq _ _).mpr (by rw [cl_0, pk_uLs, hr2])) qw
    refine lv_goto (tgt := 953) hx hb dL_law_669 (by decide) ?_
    refine W.widen (k := 201) (n := 3006) (by decide) (by decide) ?_
    exact fin E2 H locs ls hz (lv_sub hl [2, 6] rfl)
  · skip
    refine lv_aload_n hx hb dL_law_592 rfl (lv_at hl 3 rfl) ?_
    refine lv_aload_n hx hb dL_law_593 rfl (lv_at hl 4 rfl) ?_
    refine lv_iload hx hb dL_law_594 (lv_at hl 0 rfl) ?_
    refine lv_iconst (v := 1) hx hb dL_law_596 (by decide) ?_
    refine lv_iadd hx hb dL_law_597 ?_
    refine va_sld hx hb hX hbl hbA hz.2.1 (by unfold vp_in; decide +kernel) dL_law_598 ?_
    rw [← ha1]
    refine lv_aload_n hx hb dL_law_599 rfl (lv_at hl 4 rfl) ?_
    refine lv_iload hx hb dL_law_600 (lv_at hl 0 rfl) ?_
    refine lv_iconst (v := 2) hx hb dL_law_602 (by decide) ?_
    refine lv_iadd hx hb dL_law_603 ?_
    refine va_sld hx hb hX hbl hbA hz.2.1 (by unfold vp_in; decide +kernel) dL_law_604 ?_
    rw [← ha2]
    refine lv_aload_n hx hb dL_law_605 rfl (lv_at hl 4 rfl) ?_
    refine lv_iload hx hb dL_law_606 (lv_at hl 0 rfl) ?_
    refine lv_iconst (v := 3) hx hb dL_law_608 (by decide) ?_
    refine lv_iadd hx hb dL_law_609 ?_
    refine va_sld hx hb hX hbl hbA hz.2.1 (by unfold vp_in; decide +kernel) dL_law_610 ?_
    rw [← ha3]
    refine lv_aload_n hx hb dL_law_611 rfl (lv_at hl 1 rfl) ?_
    refine pw_callim hz (vx_runSW (As := [.ref b, .int a1, .int a2, .int a3, .ref (b + 133)]) (rest := []) ⟨hx, hb, hml, hown, hts⟩ (c_Lcommon_no l hst D cJ cI cR b 134 _ _ b (by omega) (b + 133) (by omega) (fun _ => 0) hO hF a1 a2 a3 hv) (vx_cwSW 5 hts gL_law_L_common rfl rfl rfl (by decide +kernel) ⟨Nat.le_of_ble_eq_true rfl, Nat.le_of_ble_eq_true rfl⟩) hz.preS rfl rfl hl.1 rfl (lv_room (Nat.le_of_ble_eq_true rfl)) dL_law_612 ⟨Nat.le_of_ble_eq_true rfl, Nat.le_of_ble_eq_true rfl⟩) (fun r1 E1 H locs hp hz => ?_)
    obtain ⟨rfl, hp1⟩ := hp
    refine lv_istore (lv' := [(5, .int 1), (4, .int 0), (3, .ref (b + 133)), (2, .ref (b + 124)), (1, .ref b), (0, .ref sb)]) hx hb dL_law_615 hl (by decide) rfl (fun ls hl => ?_)
    have hm1 : E1 (b + 124) = modO (b + 124) 0 := (hp1 _ (by omega)).trans hM.1
    have hw1 : E1 (b + 124 + 1) = rowM cJ (fun _ => 0) := (hp1 _ (by omega)).trans hM.2.1
    refine lv_aload_n hx hb dL_law_617 rfl (lv_at hl 3 rfl) ?_
    refine lv_aload_n hx hb dL_law_618 rfl (lv_at hl 5 rfl) ?_
    refine lv_iload hx hb dL_law_619 (lv_at hl 1 rfl) ?_
    refine lv_iconst (v := 1) hx hb dL_law_621 (by decide) ?_
    refine lv_iadd hx hb dL_law_622 ?_
    refine va_sld hx hb hX hbl hbA hz.2.1 (by unfold vp_in; decide +kernel) dL_law_623 ?_
    rw [← ha1]
    refine lv_aload_n hx hb dL_law_624 rfl (lv_at hl 5 rfl) ?_
    refine lv_iload hx hb dL_law_625 (lv_at hl 1 rfl) ?_
    refine lv_iconst (v := 2) hx hb dL_law_627 (by decide) ?_
    refine lv_iadd hx hb dL_law_628 ?_
    refine va_sld hx hb hX hbl hbA hz.2.1 (by unfold vp_in; decide +kernel) dL_law_629 ?_
    rw [← ha2]
    refine lv_aload_n hx hb dL_law_630 rfl (lv_at hl 5 rfl) ?_
    refine lv_iload hx hb dL_law_631 (lv_at hl 1 rfl) ?_
    refine lv_iconst (v := 3) hx hb dL_law_633 (by decide) ?_
    refine lv_iadd hx hb dL_law_634 ?_
    refine va_sld hx hb hX hbl hbA hz.2.1 (by unfold vp_in; decide +kernel) dL_law_635 ?_
    rw [← ha3]
    refine pw_calli hz (va_runV (As := [.int a1, .int a2, .int a3]) (rest := []) ⟨hx, hb, hml, hown, hts⟩ (c_mcommon_no l D cJ cI cR b 134 _ _ (b + 124) 0 (by omega) hm1 a1 a2 a3 (fun h => hv ⟨h.1, h.2.1, h.2.2⟩)) (cwV 3 hts gL_law_X7_common rfl rfl rfl (by decide +kernel) ⟨Nat.le_of_ble_eq_true rfl, Nat.le_of_ble_eq_true rfl⟩) (hz.preV (by omega) hm1 rfl) rfl rfl hl.1 rfl (lv_room (Nat.le_of_ble_eq_true rfl)) dL_law_636 ⟨Nat.le_of_ble_eq_true rfl, Nat.le_of_ble_eq_true rfl⟩) (fun r2 E2 H locs hp hz => ?_)
    obtain ⟨⟨fs, hfs⟩, hf2⟩ := hp
    refine lv_istore (lv' := [(6, .int r2), (5, .int 1), (4, .int 0), (3, .ref (b + 133)), (2, .ref (b + 124)), (1, .ref b), (0, .ref sb)]) hx hb dL_law_639 hl (by decide) rfl (fun ls hl => ?_)
    refine lv_aload_n hx hb dL_law_641 rfl (lv_at hl 4 rfl) ?_
    refine pw_calli hz (va_runV (As := []) (rest := []) ⟨hx, hb, hml, hown, hts⟩ (c_thrown l D cJ cI cR b 134 _ _ (b + 124) 1 fs (by omega) hfs) (cwV 0 hts gL_law_X7_thrown rfl rfl rfl (by decide +kernel) ⟨Nat.le_of_ble_eq_true rfl, Nat.le_of_ble_eq_true rfl⟩) (hz.preV (by omega) hfs rfl) rfl rfl hl.1 rfl (lv_room (Nat.le_of_ble_eq_true rfl)) dL_law_642 ⟨Nat.le_of_ble_eq_true rfl, Nat.le_of_ble_eq_true rfl⟩) (fun r3 E3 H locs hp hz => ?_)
    obtain ⟨rfl, hp⟩ := hp
    rw [hp] at hz
    refine lv_iload hx hb dL_law_645 (lv_at hl 1 rfl) ?_
    refine lv_icmp_eq (tgt := 652) hx hb dL_law_647 (by decide) (fun _ => ?_) (fun qw => ?_)
    rotate_left
    · exact absurd rfl qw
    refine lv_iload hx hb dL_law_652 (lv_at hl 1 rfl) ?_
    refine lv_if_ne (tgt := 669) hx hb dL_law_654 (by decide) (fun _ => ?_) (fun qw => ?_)
    rotate_left
    · exact absurd qw (by decide)
    refine lv_goto (tgt := 953) hx hb dL_law_669 (by decide) ?_
    exact fin E2 H locs ls hz (lv_sub hl [2, 6] rfl)

set_option maxHeartbeats 1000000 in
set_option maxRecDepth 100000 in
theorem law_derive {p : Program} {l : Launch} {e : Env} {s : State} {m : MethodId} {below : List Frame} {meth : Method} {c : Code} (hst : l.stackTraces = false) {D : va_G} {cJ cI cR : ClassId} {sb b : Nat} {xs : Nat → Int32} (C0 : lw_At p s m meth c sb 6 xs) (hbs : b = s.heap.size) {E : Nat → va_E} {H : Heap} {locs : List Loc} {ls : Array Slot} (hz : PS D vwCl (tys3 cJ cI cR) b 134 s E H locs) (hF : deskAt cJ cI cR b E) (hM : modelAt cJ cI (b + 124) E) (hO : E (b + 133) = outA cJ (fun _ => 0)) (hl : lv_has ls 7 [(4, .int 0), (3, .ref (b + 133)), (2, .ref (b + 124)), (1, .ref b), (0, .ref sb)])
    (fin : ∀ (E' : Nat → va_E) (H : Heap) (locs : List Loc) (ls : Array Slot), PS D vwCl (tys3 cJ cI cR) b 134 s E' H locs → lv_has ls 7 [(4, .int 0), (0, .ref sb)] → W p l e room_1 s m #[Value.ref sb] below meth c H locs 201 3006 (lw_Z below #[Value.ref sb] s) (F0 m 953 ls [])) : W p l e room_1 s m #[Value.ref sb] below meth c H locs 200 3000 (lw_Z below #[Value.ref sb] s) (F0 m 444 ls []) := by
  obtain ⟨hx, hb, -, hml, hown, hts0, hX, hbl, hlocks, hgv⟩ := C0
  have hts : ∀ w ∈ wsL_law, w.before #[Value.ref sb] s = true := fun w h => hts0 w (wsL_law_in w h)
  have hbA : ¬ PA b sb := by show ¬ b ≤ sb; omega
  obtain ⟨a1, ha1⟩ : ∃ z, z = (xs (Int32.toNatClampNeg (0 + 1))) := ⟨_, rfl⟩
  obtain ⟨a2, ha2⟩ : ∃ z, z = (xs (Int32.toNatClampNeg (0 + 2))) := ⟨_, rfl⟩
  by_cases hv : okS a1 ∧ okS a2
  · skip
    obtain ⟨v1, v2⟩ := hv
    obtain ⟨j, hj, rfl⟩ := okS_nI v1
    obtain ⟨u, hu, rfl⟩ := okS_nI v2
    refine lv_aload_n hx hb dL_law_444 rfl (lv_at hl 3 rfl) ?_
    refine lv_aload_n hx hb dL_law_445 rfl (lv_at hl 4 rfl) ?_
    refine lv_iload hx hb dL_law_446 (lv_at hl 0 rfl) ?_
    refine lv_iconst (v := 1) hx hb dL_law_448 (by decide) ?_
    refine lv_iadd hx hb dL_law_449 ?_
    refine va_sld hx hb hX hbl hbA hz.2.1 (by unfold vp_in; decide +kernel) dL_law_450 ?_
    rw [← ha1]
    refine lv_aload_n hx hb dL_law_451 rfl (lv_at hl 4 rfl) ?_
    refine lv_iload hx hb dL_law_452 (lv_at hl 0 rfl) ?_
    refine lv_iconst (v := 2) hx hb dL_law_454 (by decide) ?_
    refine lv_iadd hx hb dL_law_455 ?_
    refine va_sld hx hb hX hbl hbA hz.2.1 (by unfold vp_in; decide +kernel) dL_law_456 ?_
    rw [← ha2]
    refine lv_aload_n hx hb dL_law_457 rfl (lv_at hl 1 rfl) ?_
    refine pw_calli hz (vx_runSW (As := [.ref b, .int (nI j), .int (nI u), .ref (b + 133)]) (rest := []) ⟨hx, hb, hml, hown, hts⟩ (c_Lderive_ok l hst D cJ cI cR b 134 _ _ b (by omega) (b + 133) (by omega) (fun _ => 0) hO hF j u hj hu) (vx_cwSW 4 hts gL_law_L_derive rfl rfl rfl (by decide +kernel) ⟨Nat.le_of_ble_eq_true rfl, Nat.le_of_ble_eq_true rfl⟩) hz.preS rfl rfl hl.1 rfl (lv_room (Nat.le_of_ble_eq_true rfl)) dL_law_458 ⟨Nat.le_of_ble_eq_true rfl, Nat.le_of_ble_eq_true rfl⟩) (fun r1 E1 H locs hp hz => ?_)
    obtain ⟨rfl, hp1, hp2⟩ := hp
    refine lv_istore (lv' := [(5, .int 0), (4, .int 0), (3, .ref (b + 133)), (2, .ref (b + 124)), (1, .ref b), (0, .ref sb)]) hx hb dL_law_461 hl (by decide) rfl (fun ls hl => ?_)
    have hm1 : E1 (b + 124) = modO (b + 124) 0 := (hp2 _ (by omega) (by omega)).trans hM.1
    have hw1 : E1 (b + 124 + 1) = rowM cJ (fun _ => 0) := (hp2 _ (by omega) (by omega)).trans hM.2.1
    refine lv_aload_n hx hb dL_law_463 rfl (lv_at hl 3 rfl) ?_
    refine lv_aload_n hx hb dL_law_464 rfl (lv_at hl 5 rfl) ?_
    refine lv_iload hx hb dL_law_465 (lv_at hl 1 rfl) ?_
    refine lv_iconst (v := 1) hx hb dL_law_467 (by decide) ?_
    refine lv_iadd hx hb dL_law_468 ?_
    refine va_sld hx hb hX hbl hbA hz.2.1 (by unfold vp_in; decide +kernel) dL_law_469 ?_
    rw [← ha1]
    refine lv_aload_n hx hb dL_law_470 rfl (lv_at hl 5 rfl) ?_
    refine lv_iload hx hb dL_law_471 (lv_at hl 1 rfl) ?_
    refine lv_iconst (v := 2) hx hb dL_law_473 (by decide) ?_
    refine lv_iadd hx hb dL_law_474 ?_
    refine va_sld hx hb hX hbl hbA hz.2.1 (by unfold vp_in; decide +kernel) dL_law_475 ?_
    rw [← ha2]
    refine pw_calli hz (va_runV (As := [.int (nI j), .int (nI u)]) (rest := []) ⟨hx, hb, hml, hown, hts⟩ (c_mderive_ok l D cJ cI cR b 134 _ _ (b + 124) 0 (by omega) hm1 hw1 j u hj hu) (cwV 2 hts gL_law_X7_derive rfl rfl rfl (by decide +kernel) ⟨Nat.le_of_ble_eq_true rfl, Nat.le_of_ble_eq_true rfl⟩) (hz.preV (by omega) hm1 rfl) rfl rfl hl.1 rfl (lv_room (Nat.le_of_ble_eq_true rfl)) dL_law_476 ⟨Nat.le_of_ble_eq_true rfl, Nat.le_of_ble_eq_true rfl⟩) (fun r2 E2 H locs hp hz => ?_)
    obtain ⟨hr2, ⟨fs, hfs⟩, hf2⟩ := hp
    refine lv_istore (lv' := [(6, .int r2), (5, .int 0), (4, .int 0), (3, .ref (b + 133)), (2, .ref (b + 124)), (1, .ref b), (0, .ref sb)]) hx hb dL_law_479 hl (by decide) rfl (fun ls hl => ?_)
    refine lv_aload_n hx hb dL_law_481 rfl (lv_at hl 4 rfl) ?_
    refine pw_calli hz (va_runV (As := []) (rest := []) ⟨hx, hb, hml, hown, hts⟩ (c_thrown l D cJ cI cR b 134 _ _ (b + 124) 0 fs (by omega) hfs) (cwV 0 hts gL_law_X7_thrown rfl rfl rfl (by decide +kernel) ⟨Nat.le_of_ble_eq_true rfl, Nat.le_of_ble_eq_true rfl⟩) (hz.preV (by omega) hfs rfl) rfl rfl hl.1 rfl (lv_room (Nat.le_of_ble_eq_true rfl)) dL_law_482 ⟨Nat.le_of_ble_eq_true rfl, Nat.le_of_ble_eq_true rfl⟩) (fun r3 E3 H locs hp hz => ?_)
    obtain ⟨rfl, hp⟩ := hp
    rw [hp] at hz
    refine lv_iload hx hb dL_law_485 (lv_at hl 1 rfl) ?_
    refine lv_icmp_eq (tgt := 492) hx hb dL_law_487 (by decide) (fun _ => ?_) (fun qw => ?_)
    rotate_left
    · exact absurd rfl qw
    refine lv_iload hx hb dL_law_492 (lv_at hl 1 rfl) ?_
    refine lv_if_ne (tgt := 509) hx hb dL_law_494 (by decide) (fun qw => ?_) (fun _ => ?_)
    · exact absurd rfl qw
    refine lv_aload_n hx hb dL_law_497 rfl (lv_at hl 3 rfl) ?_
    refine lv_iconst (v := 0) hx hb dL_law_498 (by decide) ?_
    refine pw_lald hx hb hz (by omega) ((hf2 _ (by omega)).trans hp1) 0 rfl (by exact vp_in_nI (n := 0) (by decide) (by decide)) dL_law_499 ?_
    refine lv_iload hx hb dL_law_500 (lv_at hl 0 rfl) ?_
    refine lv_i2l hx hb dL_law_502 rfl ?_
    refine W.lcmp hx hb dL_law_503 ?_
    refine lv_if_eq (tgt := 509) hx hb dL_law_504 (by decide) (fun _ => ?_) (fun qw => ?_)
    rotate_left
    · exact absurd ((lg_cmp_eq _ _).mpr (by rw [cl_0, pk_uLs, hr2])) qw
    refine lv_goto (tgt := 953) hx hb dL_law_509 (by decide) ?_
    refine W.widen (k := 201) (n := 3006) (by decide) (by decide) ?_
    exact fin E2 H locs ls hz (lv_sub hl [2, 6] rfl)
  · skip
    refine lv_aload_n hx hb dL_law_444 rfl (lv_at hl 3 rfl) ?_
    refine lv_aload_n hx hb dL_law_445 rfl (lv_at hl 4 rfl) ?_
    refine lv_iload hx hb dL_law_446 (lv_at hl 0 rfl) ?_
    refine lv_iconst (v := 1) hx hb dL_law_448 (by decide) ?_
    refine lv_iadd hx hb dL_law_449 ?_
    refine va_sld hx hb hX hbl hbA hz.2.1 (by unfold vp_in; decide +kernel) dL_law_450 ?_
    rw [← ha1]
    refine lv_aload_n hx hb dL_law_451 rfl (lv_at hl 4 rfl) ?_
    refine lv_iload hx hb dL_law_452 (lv_at hl 0 rfl) ?_
    refine lv_iconst (v := 2) hx hb dL_law_454 (by decide) ?_
    refine lv_iadd hx hb dL_law_455 ?_
    refine va_sld hx hb hX hbl hbA hz.2.1 (by unfold vp_in; decide +kernel) dL_law_456 ?_
    rw [← ha2]
    refine lv_aload_n hx hb dL_law_457 rfl (lv_at hl 1 rfl) ?_
    refine pw_callim hz (vx_runSW (As := [.ref b, .int a1, .int a2, .ref (b + 133)]) (rest := []) ⟨hx, hb, hml, hown, hts⟩ (c_Lderive_no l hst D cJ cI cR b 134 _ _ b (by omega) (b + 133) (by omega) (fun _ => 0) hO hF a1 a2 hv) (vx_cwSW 4 hts gL_law_L_derive rfl rfl rfl (by decide +kernel) ⟨Nat.le_of_ble_eq_true rfl, Nat.le_of_ble_eq_true rfl⟩) hz.preS rfl rfl hl.1 rfl (lv_room (Nat.le_of_ble_eq_true rfl)) dL_law_458 ⟨Nat.le_of_ble_eq_true rfl, Nat.le_of_ble_eq_true rfl⟩) (fun r1 E1 H locs hp hz => ?_)
    obtain ⟨rfl, hp1⟩ := hp
    refine lv_istore (lv' := [(5, .int 1), (4, .int 0), (3, .ref (b + 133)), (2, .ref (b + 124)), (1, .ref b), (0, .ref sb)]) hx hb dL_law_461 hl (by decide) rfl (fun ls hl => ?_)
    have hm1 : E1 (b + 124) = modO (b + 124) 0 := (hp1 _ (by omega)).trans hM.1
    have hw1 : E1 (b + 124 + 1) = rowM cJ (fun _ => 0) := (hp1 _ (by omega)).trans hM.2.1
    refine lv_aload_n hx hb dL_law_463 rfl (lv_at hl 3 rfl) ?_
    refine lv_aload_n hx hb dL_law_464 rfl (lv_at hl 5 rfl) ?_
    refine lv_iload hx hb dL_law_465 (lv_at hl 1 rfl) ?_
    refine lv_iconst (v := 1) hx hb dL_law_467 (by decide) ?_
    refine lv_iadd hx hb dL_law_468 ?_
    refine va_sld hx hb hX hbl hbA hz.2.1 (by unfold vp_in; decide +kernel) dL_law_469 ?_
    rw [← ha1]
    refine lv_aload_n hx hb dL_law_470 rfl (lv_at hl 5 rfl) ?_
    refine lv_iload hx hb dL_law_471 (lv_at hl 1 rfl) ?_
    refine lv_iconst (v := 2) hx hb dL_law_473 (by decide) ?_
    refine lv_iadd hx hb dL_law_474 ?_
    refine va_sld hx hb hX hbl hbA hz.2.1 (by unfold vp_in; decide +kernel) dL_law_475 ?_
    rw [← ha2]
    refine pw_calli hz (va_runV (As := [.int a1, .int a2]) (rest := []) ⟨hx, hb, hml, hown, hts⟩ (c_mderive_no l D cJ cI cR b 134 _ _ (b + 124) 0 (by omega) hm1 a1 a2 hv) (cwV 2 hts gL_law_X7_derive rfl rfl rfl (by decide +kernel) ⟨Nat.le_of_ble_eq_true rfl, Nat.le_of_ble_eq_true rfl⟩) (hz.preV (by omega) hm1 rfl) rfl rfl hl.1 rfl (lv_room (Nat.le_of_ble_eq_true rfl)) dL_law_476 ⟨Nat.le_of_ble_eq_true rfl, Nat.le_of_ble_eq_true rfl⟩) (fun r2 E2 H locs hp hz => ?_)
    obtain ⟨⟨fs, hfs⟩, hf2⟩ := hp
    refine lv_istore (lv' := [(6, .int r2), (5, .int 1), (4, .int 0), (3, .ref (b + 133)), (2, .ref (b + 124)), (1, .ref b), (0, .ref sb)]) hx hb dL_law_479 hl (by decide) rfl (fun ls hl => ?_)
    refine lv_aload_n hx hb dL_law_481 rfl (lv_at hl 4 rfl) ?_
    refine pw_calli hz (va_runV (As := []) (rest := []) ⟨hx, hb, hml, hown, hts⟩ (c_thrown l D cJ cI cR b 134 _ _ (b + 124) 1 fs (by omega) hfs) (cwV 0 hts gL_law_X7_thrown rfl rfl rfl (by decide +kernel) ⟨Nat.le_of_ble_eq_true rfl, Nat.le_of_ble_eq_true rfl⟩) (hz.preV (by omega) hfs rfl) rfl rfl hl.1 rfl (lv_room (Nat.le_of_ble_eq_true rfl)) dL_law_482 ⟨Nat.le_of_ble_eq_true rfl, Nat.le_of_ble_eq_true rfl⟩) (fun r3 E3 H locs hp hz => ?_)
    obtain ⟨rfl, hp⟩ := hp
    rw [hp] at hz
    refine lv_iload hx hb dL_law_485 (lv_at hl 1 rfl) ?_
    refine lv_icmp_eq (tgt := 492) hx hb dL_law_487 (by decide) (fun _ => ?_) (fun qw => ?_)
    rotate_left
    · exact absurd rfl qw
    refine lv_iload hx hb dL_law_492 (lv_at hl 1 rfl) ?_
    refine lv_if_ne (tgt := 509) hx hb dL_law_494 (by decide) (fun _ => ?_) (fun qw => ?_)
    rotate_left
    · exact absurd qw (by decide)
    refine lv_goto (tgt := 953) hx hb dL_law_509 (by decide) ?_
    exact fin E2 H locs ls hz (lv_sub hl [2, 6] rfl)

set_option maxHeartbeats 1000000 in
set_option maxRecDepth 100000 in
theorem law_parts {p : Program} {l : Launch} {e : Env} {s : State} {m : MethodId} {below : List Frame} {meth : Method} {c : Code} (hst : l.stackTraces = false) {D : va_G} {cJ cI cR : ClassId} {sb b : Nat} {xs : Nat → Int32} (C0 : lw_At p s m meth c sb 6 xs) (hbs : b = s.heap.size) {E : Nat → va_E} {H : Heap} {locs : List Loc} {ls : Array Slot} (hz : PS D vwCl (tys3 cJ cI cR) b 134 s E H locs) (hF : deskAt cJ cI cR b E) (hM : modelAt cJ cI (b + 124) E) (hO : E (b + 133) = outA cJ (fun _ => 0)) (hl : lv_has ls 7 [(4, .int 0), (3, .ref (b + 133)), (2, .ref (b + 124)), (1, .ref b), (0, .ref sb)])
    (fin : ∀ (E' : Nat → va_E) (H : Heap) (locs : List Loc) (ls : Array Slot), PS D vwCl (tys3 cJ cI cR) b 134 s E' H locs → lv_has ls 7 [(4, .int 0), (0, .ref sb)] → W p l e room_1 s m #[Value.ref sb] below meth c H locs 201 3006 (lw_Z below #[Value.ref sb] s) (F0 m 953 ls [])) : W p l e room_1 s m #[Value.ref sb] below meth c H locs 200 3000 (lw_Z below #[Value.ref sb] s) (F0 m 672 ls []) := by
  obtain ⟨hx, hb, -, hml, hown, hts0, hX, hbl, hlocks, hgv⟩ := C0
  have hts : ∀ w ∈ wsL_law, w.before #[Value.ref sb] s = true := fun w h => hts0 w (wsL_law_in w h)
  have hbA : ¬ PA b sb := by show ¬ b ≤ sb; omega
  obtain ⟨a1, ha1⟩ : ∃ z, z = (xs (Int32.toNatClampNeg (0 + 1))) := ⟨_, rfl⟩
  by_cases hv : okS a1
  · skip
    obtain ⟨j, hj, rfl⟩ := okS_nI hv
    refine lv_aload_n hx hb dL_law_672 rfl (lv_at hl 3 rfl) ?_
    refine lv_aload_n hx hb dL_law_673 rfl (lv_at hl 4 rfl) ?_
    refine lv_iload hx hb dL_law_674 (lv_at hl 0 rfl) ?_
    refine lv_iconst (v := 1) hx hb dL_law_676 (by decide) ?_
    refine lv_iadd hx hb dL_law_677 ?_
    refine va_sld hx hb hX hbl hbA hz.2.1 (by unfold vp_in; decide +kernel) dL_law_678 ?_
    rw [← ha1]
    refine lv_aload_n hx hb dL_law_679 rfl (lv_at hl 1 rfl) ?_
    refine pw_calli hz (vx_runSW (As := [.ref b, .int (nI j), .ref (b + 133)]) (rest := []) ⟨hx, hb, hml, hown, hts⟩ (c_Lparts_ok l hst D cJ cI cR b 134 _ _ b (by omega) (b + 133) (by omega) (fun _ => 0) hO hF j hj) (vx_cwSW 3 hts gL_law_L_parts rfl rfl rfl (by decide +kernel) ⟨Nat.le_of_ble_eq_true rfl, Nat.le_of_ble_eq_true rfl⟩) hz.preS rfl rfl hl.1 rfl (lv_room (Nat.le_of_ble_eq_true rfl)) dL_law_680 ⟨Nat.le_of_ble_eq_true rfl, Nat.le_of_ble_eq_true rfl⟩) (fun r1 E1 H locs hp hz => ?_)
    obtain ⟨rfl, hp1, hp2⟩ := hp
    refine lv_istore (lv' := [(5, .int 0), (4, .int 0), (3, .ref (b + 133)), (2, .ref (b + 124)), (1, .ref b), (0, .ref sb)]) hx hb dL_law_683 hl (by decide) rfl (fun ls hl => ?_)
    have hm1 : E1 (b + 124) = modO (b + 124) 0 := (hp2 _ (by omega) (by omega)).trans hM.1
    have hw1 : E1 (b + 124 + 1) = rowM cJ (fun _ => 0) := (hp2 _ (by omega) (by omega)).trans hM.2.1
    refine lv_aload_n hx hb dL_law_685 rfl (lv_at hl 3 rfl) ?_
    refine lv_aload_n hx hb dL_law_686 rfl (lv_at hl 5 rfl) ?_
    refine lv_iload hx hb dL_law_687 (lv_at hl 1 rfl) ?_
    refine lv_iconst (v := 1) hx hb dL_law_689 (by decide) ?_
    refine lv_iadd hx hb dL_law_690 ?_
    refine va_sld hx hb hX hbl hbA hz.2.1 (by unfold vp_in; decide +kernel) dL_law_691 ?_
    rw [← ha1]
    refine pw_calli hz (va_runV (As := [.int (nI j)]) (rest := []) ⟨hx, hb, hml, hown, hts⟩ (c_mparts_ok l D cJ cI cR b 134 _ _ (b + 124) 0 (by omega) hm1 hw1 j hj) (cwV 1 hts gL_law_X7_parts rfl rfl rfl (by decide +kernel) ⟨Nat.le_of_ble_eq_true rfl, Nat.le_of_ble_eq_true rfl⟩) (hz.preV (by omega) hm1 rfl) rfl rfl hl.1 rfl (lv_room (Nat.le_of_ble_eq_true rfl)) dL_law_692 ⟨Nat.le_of_ble_eq_true rfl, Nat.le_of_ble_eq_true rfl⟩) (fun r2 E2 H locs hp hz => ?_)
    obtain ⟨hr2, ⟨fs, hfs⟩, hf2⟩ := hp
    refine lv_istore (lv' := [(6, .int r2), (5, .int 0), (4, .int 0), (3, .ref (b + 133)), (2, .ref (b + 124)), (1, .ref b), (0, .ref sb)]) hx hb dL_law_695 hl (by decide) rfl (fun ls hl => ?_)
    refine lv_aload_n hx hb dL_law_697 rfl (lv_at hl 4 rfl) ?_
    refine pw_calli hz (va_runV (As := []) (rest := []) ⟨hx, hb, hml, hown, hts⟩ (c_thrown l D cJ cI cR b 134 _ _ (b + 124) 0 fs (by omega) hfs) (cwV 0 hts gL_law_X7_thrown rfl rfl rfl (by decide +kernel) ⟨Nat.le_of_ble_eq_true rfl, Nat.le_of_ble_eq_true rfl⟩) (hz.preV (by omega) hfs rfl) rfl rfl hl.1 rfl (lv_room (Nat.le_of_ble_eq_true rfl)) dL_law_698 ⟨Nat.le_of_ble_eq_true rfl, Nat.le_of_ble_eq_true rfl⟩) (fun r3 E3 H locs hp hz => ?_)
    obtain ⟨rfl, hp⟩ := hp
    rw [hp] at hz
    refine lv_iload hx hb dL_law_701 (lv_at hl 1 rfl) ?_
    refine lv_icmp_eq (tgt := 708) hx hb dL_law_703 (by decide) (fun _ => ?_) (fun qw => ?_)
    rotate_left
    · exact absurd rfl qw
    refine lv_iload hx hb dL_law_708 (lv_at hl 1 rfl) ?_
    refine lv_if_ne (tgt := 725) hx hb dL_law_710 (by decide) (fun qw => ?_) (fun _ => ?_)
    · exact absurd rfl qw
    refine lv_aload_n hx hb dL_law_713 rfl (lv_at hl 3 rfl) ?_
    refine lv_iconst (v := 0) hx hb dL_law_714 (by decide) ?_
    refine pw_lald hx hb hz (by omega) ((hf2 _ (by omega)).trans hp1) 0 rfl (by exact vp_in_nI (n := 0) (by decide) (by decide)) dL_law_715 ?_
    refine lv_iload hx hb dL_law_716 (lv_at hl 0 rfl) ?_
    refine lv_i2l hx hb dL_law_718 rfl ?_
    refine W.lcmp hx hb dL_law_719 ?_
    refine lv_if_eq (tgt := 725) hx hb dL_law_720 (by decide) (fun _ => ?_) (fun qw => ?_)
    rotate_left
    · exact absurd ((lg_cmp_eq _ _).mpr (by rw [cl_0, pk_uLs, hr2])) qw
    refine lv_goto (tgt := 953) hx hb dL_law_725 (by decide) ?_
    refine W.widen (k := 201) (n := 3006) (by decide) (by decide) ?_
    exact fin E2 H locs ls hz (lv_sub hl [2, 6] rfl)
  · skip
    refine lv_aload_n hx hb dL_law_672 rfl (lv_at hl 3 rfl) ?_
    refine lv_aload_n hx hb dL_law_673 rfl (lv_at hl 4 rfl) ?_
    refine lv_iload hx hb dL_law_674 (lv_at hl 0 rfl) ?_
    refine lv_iconst (v := 1) hx hb dL_law_676 (by decide) ?_
    refine lv_iadd hx hb dL_law_677 ?_
    refine va_sld hx hb hX hbl hbA hz.2.1 (by unfold vp_in; decide +kernel) dL_law_678 ?_
    rw [← ha1]
    refine lv_aload_n hx hb dL_law_679 rfl (lv_at hl 1 rfl) ?_
    refine pw_callim hz (vx_runSW (As := [.ref b, .int a1, .ref (b + 133)]) (rest := []) ⟨hx, hb, hml, hown, hts⟩ (c_Lparts_no l hst D cJ cI cR b 134 _ _ b (by omega) (b + 133) (by omega) (fun _ => 0) hO hF a1 hv) (vx_cwSW 3 hts gL_law_L_parts rfl rfl rfl (by decide +kernel) ⟨Nat.le_of_ble_eq_true rfl, Nat.le_of_ble_eq_true rfl⟩) hz.preS rfl rfl hl.1 rfl (lv_room (Nat.le_of_ble_eq_true rfl)) dL_law_680 ⟨Nat.le_of_ble_eq_true rfl, Nat.le_of_ble_eq_true rfl⟩) (fun r1 E1 H locs hp hz => ?_)
    obtain ⟨rfl, hp1⟩ := hp
    refine lv_istore (lv' := [(5, .int 1), (4, .int 0), (3, .ref (b + 133)), (2, .ref (b + 124)), (1, .ref b), (0, .ref sb)]) hx hb dL_law_683 hl (by decide) rfl (fun ls hl => ?_)
    have hm1 : E1 (b + 124) = modO (b + 124) 0 := (hp1 _ (by omega)).trans hM.1
    have hw1 : E1 (b + 124 + 1) = rowM cJ (fun _ => 0) := (hp1 _ (by omega)).trans hM.2.1
    refine lv_aload_n hx hb dL_law_685 rfl (lv_at hl 3 rfl) ?_
    refine lv_aload_n hx hb dL_law_686 rfl (lv_at hl 5 rfl) ?_
    refine lv_iload hx hb dL_law_687 (lv_at hl 1 rfl) ?_
    refine lv_iconst (v := 1) hx hb dL_law_689 (by decide) ?_
    refine lv_iadd hx hb dL_law_690 ?_
    refine va_sld hx hb hX hbl hbA hz.2.1 (by unfold vp_in; decide +kernel) dL_law_691 ?_
    rw [← ha1]
    refine pw_calli hz (va_runV (As := [.int a1]) (rest := []) ⟨hx, hb, hml, hown, hts⟩ (c_mparts_no l D cJ cI cR b 134 _ _ (b + 124) 0 (by omega) hm1 a1 hv) (cwV 1 hts gL_law_X7_parts rfl rfl rfl (by decide +kernel) ⟨Nat.le_of_ble_eq_true rfl, Nat.le_of_ble_eq_true rfl⟩) (hz.preV (by omega) hm1 rfl) rfl rfl hl.1 rfl (lv_room (Nat.le_of_ble_eq_true rfl)) dL_law_692 ⟨Nat.le_of_ble_eq_true rfl, Nat.le_of_ble_eq_true rfl⟩) (fun r2 E2 H locs hp hz => ?_)
    obtain ⟨⟨fs, hfs⟩, hf2⟩ := hp
    refine lv_istore (lv' := [(6, .int r2), (5, .int 1), (4, .int 0), (3, .ref (b + 133)), (2, .ref (b + 124)), (1, .ref b), (0, .ref sb)]) hx hb dL_law_695 hl (by decide) rfl (fun ls hl => ?_)
    refine lv_aload_n hx hb dL_law_697 rfl (lv_at hl 4 rfl) ?_
    refine pw_calli hz (va_runV (As := []) (rest := []) ⟨hx, hb, hml, hown, hts⟩ (c_thrown l D cJ cI cR b 134 _ _ (b + 124) 1 fs (by omega) hfs) (cwV 0 hts gL_law_X7_thrown rfl rfl rfl (by decide +kernel) ⟨Nat.le_of_ble_eq_true rfl, Nat.le_of_ble_eq_true rfl⟩) (hz.preV (by omega) hfs rfl) rfl rfl hl.1 rfl (lv_room (Nat.le_of_ble_eq_true rfl)) dL_law_698 ⟨Nat.le_of_ble_eq_true rfl, Nat.le_of_ble_eq_true rfl⟩) (fun r3 E3 H locs hp hz => ?_)
    obtain ⟨rfl, hp⟩ := hp
    rw [hp] at hz
    refine lv_iload hx hb dL_law_701 (lv_at hl 1 rfl) ?_
    refine lv_icmp_eq (tgt := 708) hx hb dL_law_703 (by decide) (fun _ => ?_) (fun qw => ?_)
    rotate_left
    · exact absurd rfl qw
    refine lv_iload hx hb dL_law_708 (lv_at hl 1 rfl) ?_
    refine lv_if_ne (tgt := 725) hx hb dL_law_710 (by decide) (fun _ => ?_) (fun qw => ?_)
    rotate_left
    · exact absurd qw (by decide)
    refine lv_goto (tgt := 953) hx hb dL_law_725 (by decide) ?_
    exact fin E2 H locs ls hz (lv_sub hl [2, 6] rfl)

set_option maxHeartbeats 1000000 in
set_option maxRecDepth 100000 in
theorem law_galois {p : Program} {l : Launch} {e : Env} {s : State} {m : MethodId} {below : List Frame} {meth : Method} {c : Code} (hst : l.stackTraces = false) {D : va_G} {cJ cI cR : ClassId} {sb b : Nat} {xs : Nat → Int32} (C0 : lw_At p s m meth c sb 6 xs) (hbs : b = s.heap.size) {E : Nat → va_E} {H : Heap} {locs : List Loc} {ls : Array Slot} (hz : PS D vwCl (tys3 cJ cI cR) b 134 s E H locs) (hF : deskAt cJ cI cR b E) (hM : modelAt cJ cI (b + 124) E) (hO : E (b + 133) = outA cJ (fun _ => 0)) (hl : lv_has ls 7 [(4, .int 0), (3, .ref (b + 133)), (2, .ref (b + 124)), (1, .ref b), (0, .ref sb)])
    (fin : ∀ (E' : Nat → va_E) (H : Heap) (locs : List Loc) (ls : Array Slot), PS D vwCl (tys3 cJ cI cR) b 134 s E' H locs → lv_has ls 7 [(4, .int 0), (0, .ref sb)] → W p l e room_1 s m #[Value.ref sb] below meth c H locs 201 3006 (lw_Z below #[Value.ref sb] s) (F0 m 953 ls [])) : W p l e room_1 s m #[Value.ref sb] below meth c H locs 200 3000 (lw_Z below #[Value.ref sb] s) (F0 m 897 ls []) := by
  obtain ⟨hx, hb, -, hml, hown, hts0, hX, hbl, hlocks, hgv⟩ := C0
  have hts : ∀ w ∈ wsL_law, w.before #[Value.ref sb] s = true := fun w h => hts0 w (wsL_law_in w h)
  have hbA : ¬ PA b sb := by show ¬ b ≤ sb; omega
  obtain ⟨a1, ha1⟩ : ∃ z, z = (xs (Int32.toNatClampNeg (0 + 1))) := ⟨_, rfl⟩
  by_cases hv : okS a1
  · skip
    obtain ⟨j, hj, rfl⟩ := okS_nI hv
    refine lv_aload_n hx hb dL_law_897 rfl (lv_at hl 3 rfl) ?_
    refine lv_aload_n hx hb dL_law_898 rfl (lv_at hl 4 rfl) ?_
    refine lv_iload hx hb dL_law_899 (lv_at hl 0 rfl) ?_
    refine lv_iconst (v := 1) hx hb dL_law_901 (by decide) ?_
    refine lv_iadd hx hb dL_law_902 ?_
    refine va_sld hx hb hX hbl hbA hz.2.1 (by unfold vp_in; decide +kernel) dL_law_903 ?_
    rw [← ha1]
    refine lv_aload_n hx hb dL_law_904 rfl (lv_at hl 1 rfl) ?_
    refine pw_calli hz (vx_runSW (As := [.ref b, .int (nI j), .ref (b + 133)]) (rest := []) ⟨hx, hb, hml, hown, hts⟩ (c_Lgalois_ok l hst D cJ cI cR b 134 _ _ b (by omega) (b + 133) (by omega) (fun _ => 0) hO hF j hj) (vx_cwSW 3 hts gL_law_L_galois rfl rfl rfl (by decide +kernel) ⟨Nat.le_of_ble_eq_true rfl, Nat.le_of_ble_eq_true rfl⟩) hz.preS rfl rfl hl.1 rfl (lv_room (Nat.le_of_ble_eq_true rfl)) dL_law_905 ⟨Nat.le_of_ble_eq_true rfl, Nat.le_of_ble_eq_true rfl⟩) (fun r1 E1 H locs hp hz => ?_)
    obtain ⟨rfl, hp1, hp2⟩ := hp
    refine lv_istore (lv' := [(5, .int 0), (4, .int 0), (3, .ref (b + 133)), (2, .ref (b + 124)), (1, .ref b), (0, .ref sb)]) hx hb dL_law_908 hl (by decide) rfl (fun ls hl => ?_)
    have hm1 : E1 (b + 124) = modO (b + 124) 0 := (hp2 _ (by omega) (by omega)).trans hM.1
    have hw1 : E1 (b + 124 + 1) = rowM cJ (fun _ => 0) := (hp2 _ (by omega) (by omega)).trans hM.2.1
    refine lv_aload_n hx hb dL_law_910 rfl (lv_at hl 3 rfl) ?_
    refine lv_aload_n hx hb dL_law_911 rfl (lv_at hl 5 rfl) ?_
    refine lv_iload hx hb dL_law_912 (lv_at hl 1 rfl) ?_
    refine lv_iconst (v := 1) hx hb dL_law_914 (by decide) ?_
    refine lv_iadd hx hb dL_law_915 ?_
    refine va_sld hx hb hX hbl hbA hz.2.1 (by unfold vp_in; decide +kernel) dL_law_916 ?_
    rw [← ha1]
    refine pw_calli hz (va_runV (As := [.int (nI j)]) (rest := []) ⟨hx, hb, hml, hown, hts⟩ (c_mgalois_ok l D cJ cI cR b 134 _ _ (b + 124) 0 (by omega) hm1 hw1 j hj) (cwV 1 hts gL_law_X7_galois rfl rfl rfl (by decide +kernel) ⟨Nat.le_of_ble_eq_true rfl, Nat.le_of_ble_eq_true rfl⟩) (hz.preV (by omega) hm1 rfl) rfl rfl hl.1 rfl (lv_room (Nat.le_of_ble_eq_true rfl)) dL_law_917 ⟨Nat.le_of_ble_eq_true rfl, Nat.le_of_ble_eq_true rfl⟩) (fun r2 E2 H locs hp hz => ?_)
    obtain ⟨hr2, ⟨fs, hfs⟩, hf2⟩ := hp
    refine lv_istore (lv' := [(6, .int r2), (5, .int 0), (4, .int 0), (3, .ref (b + 133)), (2, .ref (b + 124)), (1, .ref b), (0, .ref sb)]) hx hb dL_law_920 hl (by decide) rfl (fun ls hl => ?_)
    refine lv_aload_n hx hb dL_law_922 rfl (lv_at hl 4 rfl) ?_
    refine pw_calli hz (va_runV (As := []) (rest := []) ⟨hx, hb, hml, hown, hts⟩ (c_thrown l D cJ cI cR b 134 _ _ (b + 124) 0 fs (by omega) hfs) (cwV 0 hts gL_law_X7_thrown rfl rfl rfl (by decide +kernel) ⟨Nat.le_of_ble_eq_true rfl, Nat.le_of_ble_eq_true rfl⟩) (hz.preV (by omega) hfs rfl) rfl rfl hl.1 rfl (lv_room (Nat.le_of_ble_eq_true rfl)) dL_law_923 ⟨Nat.le_of_ble_eq_true rfl, Nat.le_of_ble_eq_true rfl⟩) (fun r3 E3 H locs hp hz => ?_)
    obtain ⟨rfl, hp⟩ := hp
    rw [hp] at hz
    refine lv_iload hx hb dL_law_926 (lv_at hl 1 rfl) ?_
    refine lv_icmp_eq (tgt := 933) hx hb dL_law_928 (by decide) (fun _ => ?_) (fun qw => ?_)
    rotate_left
    · exact absurd rfl qw
    refine lv_iload hx hb dL_law_933 (lv_at hl 1 rfl) ?_
    refine lv_if_ne (tgt := 950) hx hb dL_law_935 (by decide) (fun qw => ?_) (fun _ => ?_)
    · exact absurd rfl qw
    refine lv_aload_n hx hb dL_law_938 rfl (lv_at hl 3 rfl) ?_
    refine lv_iconst (v := 0) hx hb dL_law_939 (by decide) ?_
    refine pw_lald hx hb hz (by omega) ((hf2 _ (by omega)).trans hp1) 0 rfl (by exact vp_in_nI (n := 0) (by decide) (by decide)) dL_law_940 ?_
    refine lv_iload hx hb dL_law_941 (lv_at hl 0 rfl) ?_
    refine lv_i2l hx hb dL_law_943 rfl ?_
    refine W.lcmp hx hb dL_law_944 ?_
    refine lv_if_eq (tgt := 950) hx hb dL_law_945 (by decide) (fun _ => ?_) (fun qw => ?_)
    rotate_left
    · exact absurd ((lg_cmp_eq _ _).mpr (by rw [cl_0, pk_uLs, hr2])) qw
    refine lv_goto (tgt := 953) hx hb dL_law_950 (by decide) ?_
    refine W.widen (k := 201) (n := 3006) (by decide) (by decide) ?_
    exact fin E2 H locs ls hz (lv_sub hl [2, 6] rfl)
  · skip
    refine lv_aload_n hx hb dL_law_897 rfl (lv_at hl 3 rfl) ?_
    refine lv_aload_n hx hb dL_law_898 rfl (lv_at hl 4 rfl) ?_
    refine lv_iload hx hb dL_law_899 (lv_at hl 0 rfl) ?_
    refine lv_iconst (v := 1) hx hb dL_law_901 (by decide) ?_
    refine lv_iadd hx hb dL_law_902 ?_
    refine va_sld hx hb hX hbl hbA hz.2.1 (by unfold vp_in; decide +kernel) dL_law_903 ?_
    rw [← ha1]
    refine lv_aload_n hx hb dL_law_904 rfl (lv_at hl 1 rfl) ?_
    refine pw_callim hz (vx_runSW (As := [.ref b, .int a1, .ref (b + 133)]) (rest := []) ⟨hx, hb, hml, hown, hts⟩ (c_Lgalois_no l hst D cJ cI cR b 134 _ _ b (by omega) (b + 133) (by omega) (fun _ => 0) hO hF a1 hv) (vx_cwSW 3 hts gL_law_L_galois rfl rfl rfl (by decide +kernel) ⟨Nat.le_of_ble_eq_true rfl, Nat.le_of_ble_eq_true rfl⟩) hz.preS rfl rfl hl.1 rfl (lv_room (Nat.le_of_ble_eq_true rfl)) dL_law_905 ⟨Nat.le_of_ble_eq_true rfl, Nat.le_of_ble_eq_true rfl⟩) (fun r1 E1 H locs hp hz => ?_)
    obtain ⟨rfl, hp1⟩ := hp
    refine lv_istore (lv' := [(5, .int 1), (4, .int 0), (3, .ref (b + 133)), (2, .ref (b + 124)), (1, .ref b), (0, .ref sb)]) hx hb dL_law_908 hl (by decide) rfl (fun ls hl => ?_)
    have hm1 : E1 (b + 124) = modO (b + 124) 0 := (hp1 _ (by omega)).trans hM.1
    have hw1 : E1 (b + 124 + 1) = rowM cJ (fun _ => 0) := (hp1 _ (by omega)).trans hM.2.1
    refine lv_aload_n hx hb dL_law_910 rfl (lv_at hl 3 rfl) ?_
    refine lv_aload_n hx hb dL_law_911 rfl (lv_at hl 5 rfl) ?_
    refine lv_iload hx hb dL_law_912 (lv_at hl 1 rfl) ?_
    refine lv_iconst (v := 1) hx hb dL_law_914 (by decide) ?_
    refine lv_iadd hx hb dL_law_915 ?_
    refine va_sld hx hb hX hbl hbA hz.2.1 (by unfold vp_in; decide +kernel) dL_law_916 ?_
    rw [← ha1]
    refine pw_calli hz (va_runV (As := [.int a1]) (rest := []) ⟨hx, hb, hml, hown, hts⟩ (c_mgalois_no l D cJ cI cR b 134 _ _ (b + 124) 0 (by omega) hm1 a1 hv) (cwV 1 hts gL_law_X7_galois rfl rfl rfl (by decide +kernel) ⟨Nat.le_of_ble_eq_true rfl, Nat.le_of_ble_eq_true rfl⟩) (hz.preV (by omega) hm1 rfl) rfl rfl hl.1 rfl (lv_room (Nat.le_of_ble_eq_true rfl)) dL_law_917 ⟨Nat.le_of_ble_eq_true rfl, Nat.le_of_ble_eq_true rfl⟩) (fun r2 E2 H locs hp hz => ?_)
    obtain ⟨⟨fs, hfs⟩, hf2⟩ := hp
    refine lv_istore (lv' := [(6, .int r2), (5, .int 1), (4, .int 0), (3, .ref (b + 133)), (2, .ref (b + 124)), (1, .ref b), (0, .ref sb)]) hx hb dL_law_920 hl (by decide) rfl (fun ls hl => ?_)
    refine lv_aload_n hx hb dL_law_922 rfl (lv_at hl 4 rfl) ?_
    refine pw_calli hz (va_runV (As := []) (rest := []) ⟨hx, hb, hml, hown, hts⟩ (c_thrown l D cJ cI cR b 134 _ _ (b + 124) 1 fs (by omega) hfs) (cwV 0 hts gL_law_X7_thrown rfl rfl rfl (by decide +kernel) ⟨Nat.le_of_ble_eq_true rfl, Nat.le_of_ble_eq_true rfl⟩) (hz.preV (by omega) hfs rfl) rfl rfl hl.1 rfl (lv_room (Nat.le_of_ble_eq_true rfl)) dL_law_923 ⟨Nat.le_of_ble_eq_true rfl, Nat.le_of_ble_eq_true rfl⟩) (fun r3 E3 H locs hp hz => ?_)
    obtain ⟨rfl, hp⟩ := hp
    rw [hp] at hz
    refine lv_iload hx hb dL_law_926 (lv_at hl 1 rfl) ?_
    refine lv_icmp_eq (tgt := 933) hx hb dL_law_928 (by decide) (fun _ => ?_) (fun qw => ?_)
    rotate_left
    · exact absurd rfl qw
    refine lv_iload hx hb dL_law_933 (lv_at hl 1 rfl) ?_
    refine lv_if_ne (tgt := 950) hx hb dL_law_935 (by decide) (fun _ => ?_) (fun qw => ?_)
    rotate_left
    · exact absurd qw (by decide)
    refine lv_goto (tgt := 953) hx hb dL_law_950 (by decide) ?_
    exact fin E2 H locs ls hz (lv_sub hl [2, 6] rfl)

set_option maxHeartbeats 1000000 in
set_option maxRecDepth 100000 in
theorem law_pattern {p : Program} {l : Launch} {e : Env} {s : State} {m : MethodId} {below : List Frame} {meth : Method} {c : Code} (hst : l.stackTraces = false) {D : va_G} {cJ cI cR : ClassId} {sb b : Nat} {xs : Nat → Int32} (C0 : lw_At p s m meth c sb 6 xs) (hbs : b = s.heap.size) {E : Nat → va_E} {H : Heap} {locs : List Loc} {ls : Array Slot} (hz : PS D vwCl (tys3 cJ cI cR) b 134 s E H locs) (hF : deskAt cJ cI cR b E) (hM : modelAt cJ cI (b + 124) E) (hO : E (b + 133) = outA cJ (fun _ => 0)) (hl : lv_has ls 7 [(4, .int 0), (3, .ref (b + 133)), (2, .ref (b + 124)), (1, .ref b), (0, .ref sb)])
    (fin : ∀ (E' : Nat → va_E) (H : Heap) (locs : List Loc) (ls : Array Slot), PS D vwCl (tys3 cJ cI cR) b 134 s E' H locs → lv_has ls 7 [(4, .int 0), (0, .ref sb)] → W p l e room_1 s m #[Value.ref sb] below meth c H locs 201 3006 (lw_Z below #[Value.ref sb] s) (F0 m 953 ls [])) : W p l e room_1 s m #[Value.ref sb] below meth c H locs 200 3000 (lw_Z below #[Value.ref sb] s) (F0 m 804 ls []) := by
  obtain ⟨hx, hb, -, hml, hown, hts0, hX, hbl, hlocks, hgv⟩ := C0
  have hts : ∀ w ∈ wsL_law, w.before #[Value.ref sb] s = true := fun w h => hts0 w (wsL_law_in w h)
  have hbA : ¬ PA b sb := by show ¬ b ≤ sb; omega
  obtain ⟨a1, ha1⟩ : ∃ z, z = (xs (Int32.toNatClampNeg (0 + 1))) := ⟨_, rfl⟩
  obtain ⟨a2, ha2⟩ : ∃ z, z = (xs (Int32.toNatClampNeg (0 + 2))) := ⟨_, rfl⟩
  by_cases hv : okS a1 ∧ okP a2
  · skip
    obtain ⟨v1, v2⟩ := hv
    obtain ⟨j, hj, rfl⟩ := okS_nI v1
    refine lv_aload_n hx hb dL_law_804 rfl (lv_at hl 3 rfl) ?_
    refine lv_aload_n hx hb dL_law_805 rfl (lv_at hl 4 rfl) ?_
    refine lv_iload hx hb dL_law_806 (lv_at hl 0 rfl) ?_
    refine lv_iconst (v := 1) hx hb dL_law_808 (by decide) ?_
    refine lv_iadd hx hb dL_law_809 ?_
    refine va_sld hx hb hX hbl hbA hz.2.1 (by unfold vp_in; decide +kernel) dL_law_810 ?_
    rw [← ha1]
    refine lv_aload_n hx hb dL_law_811 rfl (lv_at hl 4 rfl) ?_
    refine lv_iload hx hb dL_law_812 (lv_at hl 0 rfl) ?_
    refine lv_iconst (v := 2) hx hb dL_law_814 (by decide) ?_
    refine lv_iadd hx hb dL_law_815 ?_
    refine va_sld hx hb hX hbl hbA hz.2.1 (by unfold vp_in; decide +kernel) dL_law_816 ?_
    rw [← ha2]
    refine lv_aload_n hx hb dL_law_817 rfl (lv_at hl 1 rfl) ?_
    refine pw_calli hz (vx_runSW (As := [.ref b, .int (nI j), .int a2, .ref (b + 133)]) (rest := []) ⟨hx, hb, hml, hown, hts⟩ (c_Lpattern_ok l hst D cJ cI cR b 134 _ _ b (by omega) (b + 133) (by omega) (fun _ => 0) hO hF j hj a2 v2) (vx_cwSW 4 hts gL_law_L_pattern rfl rfl rfl (by decide +kernel) ⟨Nat.le_of_ble_eq_true rfl, Nat.le_of_ble_eq_true rfl⟩) hz.preS rfl rfl hl.1 rfl (lv_room (Nat.le_of_ble_eq_true rfl)) dL_law_818 ⟨Nat.le_of_ble_eq_true rfl, Nat.le_of_ble_eq_true rfl⟩) (fun r1 E1 H locs hp hz => ?_)
    obtain ⟨rfl, hp1, hp2⟩ := hp
    refine lv_istore (lv' := [(5, .int 0), (4, .int 0), (3, .ref (b + 133)), (2, .ref (b + 124)), (1, .ref b), (0, .ref sb)]) hx hb dL_law_821 hl (by decide) rfl (fun ls hl => ?_)
    have hm1 : E1 (b + 124) = modO (b + 124) 0 := (hp2 _ (by omega) (by omega)).trans hM.1
    have hw1 : E1 (b + 124 + 1) = rowM cJ (fun _ => 0) := (hp2 _ (by omega) (by omega)).trans hM.2.1
    refine lv_aload_n hx hb dL_law_823 rfl (lv_at hl 3 rfl) ?_
    refine lv_aload_n hx hb dL_law_824 rfl (lv_at hl 5 rfl) ?_
    refine lv_iload hx hb dL_law_825 (lv_at hl 1 rfl) ?_
    refine lv_iconst (v := 1) hx hb dL_law_827 (by decide) ?_
    refine lv_iadd hx hb dL_law_828 ?_
    refine va_sld hx hb hX hbl hbA hz.2.1 (by unfold vp_in; decide +kernel) dL_law_829 ?_
    rw [← ha1]
    refine lv_aload_n hx hb dL_law_830 rfl (lv_at hl 5 rfl) ?_
    refine lv_iload hx hb dL_law_831 (lv_at hl 1 rfl) ?_
    refine lv_iconst (v := 2) hx hb dL_law_833 (by decide) ?_
    refine lv_iadd hx hb dL_law_834 ?_
    refine va_sld hx hb hX hbl hbA hz.2.1 (by unfold vp_in; decide +kernel) dL_law_835 ?_
    rw [← ha2]
    refine pw_calli hz (va_runV (As := [.int (nI j), .int a2]) (rest := []) ⟨hx, hb, hml, hown, hts⟩ (c_mpattern_ok l D cJ cI cR b 134 _ _ (b + 124) 0 (by omega) hm1 hw1 j hj a2 v2) (cwV 2 hts gL_law_X7_pattern rfl rfl rfl (by decide +kernel) ⟨Nat.le_of_ble_eq_true rfl, Nat.le_of_ble_eq_true rfl⟩) (hz.preV (by omega) hm1 rfl) rfl rfl hl.1 rfl (lv_room (Nat.le_of_ble_eq_true rfl)) dL_law_836 ⟨Nat.le_of_ble_eq_true rfl, Nat.le_of_ble_eq_true rfl⟩) (fun r2 E2 H locs hp hz => ?_)
    obtain ⟨hr2, ⟨fs, hfs⟩, hf2⟩ := hp
    refine lv_istore (lv' := [(6, .int r2), (5, .int 0), (4, .int 0), (3, .ref (b + 133)), (2, .ref (b + 124)), (1, .ref b), (0, .ref sb)]) hx hb dL_law_839 hl (by decide) rfl (fun ls hl => ?_)
    refine lv_aload_n hx hb dL_law_841 rfl (lv_at hl 4 rfl) ?_
    refine pw_calli hz (va_runV (As := []) (rest := []) ⟨hx, hb, hml, hown, hts⟩ (c_thrown l D cJ cI cR b 134 _ _ (b + 124) 0 fs (by omega) hfs) (cwV 0 hts gL_law_X7_thrown rfl rfl rfl (by decide +kernel) ⟨Nat.le_of_ble_eq_true rfl, Nat.le_of_ble_eq_true rfl⟩) (hz.preV (by omega) hfs rfl) rfl rfl hl.1 rfl (lv_room (Nat.le_of_ble_eq_true rfl)) dL_law_842 ⟨Nat.le_of_ble_eq_true rfl, Nat.le_of_ble_eq_true rfl⟩) (fun r3 E3 H locs hp hz => ?_)
    obtain ⟨rfl, hp⟩ := hp
    rw [hp] at hz
    refine lv_iload hx hb dL_law_845 (lv_at hl 1 rfl) ?_
    refine lv_icmp_eq (tgt := 852) hx hb dL_law_847 (by decide) (fun _ => ?_) (fun qw => ?_)
    rotate_left
    · exact absurd rfl qw
    refine lv_iload hx hb dL_law_852 (lv_at hl 1 rfl) ?_
    refine lv_if_ne (tgt := 869) hx hb dL_law_854 (by decide) (fun qw => ?_) (fun _ => ?_)
    · exact absurd rfl qw
    refine lv_aload_n hx hb dL_law_857 rfl (lv_at hl 3 rfl) ?_
    refine lv_iconst (v := 0) hx hb dL_law_858 (by decide) ?_
    refine pw_lald hx hb hz (by omega) ((hf2 _ (by omega)).trans hp1) 0 rfl (by exact vp_in_nI (n := 0) (by decide) (by decide)) dL_law_859 ?_
    refine lv_iload hx hb dL_law_860 (lv_at hl 0 rfl) ?_
    refine lv_i2l hx hb dL_law_862 rfl ?_
    refine W.lcmp hx hb dL_law_863 ?_
    refine lv_if_eq (tgt := 869) hx hb dL_law_864 (by decide) (fun _ => ?_) (fun qw => ?_)
    rotate_left
    · exact absurd ((lg_cmp_eq _ _).mpr (by rw [cl_0, pk_uLs, hr2])) qw
    refine lv_goto (tgt := 953) hx hb dL_law_869 (by decide) ?_
    refine W.widen (k := 201) (n := 3006) (by decide) (by decide) ?_
    exact fin E2 H locs ls hz (lv_sub hl [2, 6] rfl)
  · skip
    refine lv_aload_n hx hb dL_law_804 rfl (lv_at hl 3 rfl) ?_
    refine lv_aload_n hx hb dL_law_805 rfl (lv_at hl 4 rfl) ?_
    refine lv_iload hx hb dL_law_806 (lv_at hl 0 rfl) ?_
    refine lv_iconst (v := 1) hx hb dL_law_808 (by decide) ?_
    refine lv_iadd hx hb dL_law_809 ?_
    refine va_sld hx hb hX hbl hbA hz.2.1 (by unfold vp_in; decide +kernel) dL_law_810 ?_
    rw [← ha1]
    refine lv_aload_n hx hb dL_law_811 rfl (lv_at hl 4 rfl) ?_
    refine lv_iload hx hb dL_law_812 (lv_at hl 0 rfl) ?_
    refine lv_iconst (v := 2) hx hb dL_law_814 (by decide) ?_
    refine lv_iadd hx hb dL_law_815 ?_
    refine va_sld hx hb hX hbl hbA hz.2.1 (by unfold vp_in; decide +kernel) dL_law_816 ?_
    rw [← ha2]
    refine lv_aload_n hx hb dL_law_817 rfl (lv_at hl 1 rfl) ?_
    refine pw_callim hz (vx_runSW (As := [.ref b, .int a1, .int a2, .ref (b + 133)]) (rest := []) ⟨hx, hb, hml, hown, hts⟩ (c_Lpattern_no l hst D cJ cI cR b 134 _ _ b (by omega) (b + 133) (by omega) (fun _ => 0) hO hF a1 a2 hv) (vx_cwSW 4 hts gL_law_L_pattern rfl rfl rfl (by decide +kernel) ⟨Nat.le_of_ble_eq_true rfl, Nat.le_of_ble_eq_true rfl⟩) hz.preS rfl rfl hl.1 rfl (lv_room (Nat.le_of_ble_eq_true rfl)) dL_law_818 ⟨Nat.le_of_ble_eq_true rfl, Nat.le_of_ble_eq_true rfl⟩) (fun r1 E1 H locs hp hz => ?_)
    obtain ⟨rfl, hp1⟩ := hp
    refine lv_istore (lv' := [(5, .int 1), (4, .int 0), (3, .ref (b + 133)), (2, .ref (b + 124)), (1, .ref b), (0, .ref sb)]) hx hb dL_law_821 hl (by decide) rfl (fun ls hl => ?_)
    have hm1 : E1 (b + 124) = modO (b + 124) 0 := (hp1 _ (by omega)).trans hM.1
    have hw1 : E1 (b + 124 + 1) = rowM cJ (fun _ => 0) := (hp1 _ (by omega)).trans hM.2.1
    refine lv_aload_n hx hb dL_law_823 rfl (lv_at hl 3 rfl) ?_
    refine lv_aload_n hx hb dL_law_824 rfl (lv_at hl 5 rfl) ?_
    refine lv_iload hx hb dL_law_825 (lv_at hl 1 rfl) ?_
    refine lv_iconst (v := 1) hx hb dL_law_827 (by decide) ?_
    refine lv_iadd hx hb dL_law_828 ?_
    refine va_sld hx hb hX hbl hbA hz.2.1 (by unfold vp_in; decide +kernel) dL_law_829 ?_
    rw [← ha1]
    refine lv_aload_n hx hb dL_law_830 rfl (lv_at hl 5 rfl) ?_
    refine lv_iload hx hb dL_law_831 (lv_at hl 1 rfl) ?_
    refine lv_iconst (v := 2) hx hb dL_law_833 (by decide) ?_
    refine lv_iadd hx hb dL_law_834 ?_
    refine va_sld hx hb hX hbl hbA hz.2.1 (by unfold vp_in; decide +kernel) dL_law_835 ?_
    rw [← ha2]
    refine pw_calli hz (va_runV (As := [.int a1, .int a2]) (rest := []) ⟨hx, hb, hml, hown, hts⟩ (c_mpattern_no l D cJ cI cR b 134 _ _ (b + 124) 0 (by omega) hm1 a1 a2 hv) (cwV 2 hts gL_law_X7_pattern rfl rfl rfl (by decide +kernel) ⟨Nat.le_of_ble_eq_true rfl, Nat.le_of_ble_eq_true rfl⟩) (hz.preV (by omega) hm1 rfl) rfl rfl hl.1 rfl (lv_room (Nat.le_of_ble_eq_true rfl)) dL_law_836 ⟨Nat.le_of_ble_eq_true rfl, Nat.le_of_ble_eq_true rfl⟩) (fun r2 E2 H locs hp hz => ?_)
    obtain ⟨⟨fs, hfs⟩, hf2⟩ := hp
    refine lv_istore (lv' := [(6, .int r2), (5, .int 1), (4, .int 0), (3, .ref (b + 133)), (2, .ref (b + 124)), (1, .ref b), (0, .ref sb)]) hx hb dL_law_839 hl (by decide) rfl (fun ls hl => ?_)
    refine lv_aload_n hx hb dL_law_841 rfl (lv_at hl 4 rfl) ?_
    refine pw_calli hz (va_runV (As := []) (rest := []) ⟨hx, hb, hml, hown, hts⟩ (c_thrown l D cJ cI cR b 134 _ _ (b + 124) 1 fs (by omega) hfs) (cwV 0 hts gL_law_X7_thrown rfl rfl rfl (by decide +kernel) ⟨Nat.le_of_ble_eq_true rfl, Nat.le_of_ble_eq_true rfl⟩) (hz.preV (by omega) hfs rfl) rfl rfl hl.1 rfl (lv_room (Nat.le_of_ble_eq_true rfl)) dL_law_842 ⟨Nat.le_of_ble_eq_true rfl, Nat.le_of_ble_eq_true rfl⟩) (fun r3 E3 H locs hp hz => ?_)
    obtain ⟨rfl, hp⟩ := hp
    rw [hp] at hz
    refine lv_iload hx hb dL_law_845 (lv_at hl 1 rfl) ?_
    refine lv_icmp_eq (tgt := 852) hx hb dL_law_847 (by decide) (fun _ => ?_) (fun qw => ?_)
    rotate_left
    · exact absurd rfl qw
    refine lv_iload hx hb dL_law_852 (lv_at hl 1 rfl) ?_
    refine lv_if_ne (tgt := 869) hx hb dL_law_854 (by decide) (fun _ => ?_) (fun qw => ?_)
    rotate_left
    · exact absurd qw (by decide)
    refine lv_goto (tgt := 953) hx hb dL_law_869 (by decide) ?_
    exact fin E2 H locs ls hz (lv_sub hl [2, 6] rfl)

set_option maxHeartbeats 1000000 in
set_option maxRecDepth 100000 in
theorem law_part {p : Program} {l : Launch} {e : Env} {s : State} {m : MethodId} {below : List Frame} {meth : Method} {c : Code} (hst : l.stackTraces = false) {D : va_G} {cJ cI cR : ClassId} {sb b : Nat} {xs : Nat → Int32} (C0 : lw_At p s m meth c sb 6 xs) (hbs : b = s.heap.size) {E : Nat → va_E} {H : Heap} {locs : List Loc} {ls : Array Slot} (hz : PS D vwCl (tys3 cJ cI cR) b 134 s E H locs) (hF : deskAt cJ cI cR b E) (hM : modelAt cJ cI (b + 124) E) (hO : E (b + 133) = outA cJ (fun _ => 0)) (hl : lv_has ls 7 [(4, .int 0), (3, .ref (b + 133)), (2, .ref (b + 124)), (1, .ref b), (0, .ref sb)])
    (fin : ∀ (E' : Nat → va_E) (H : Heap) (locs : List Loc) (ls : Array Slot), PS D vwCl (tys3 cJ cI cR) b 134 s E' H locs → lv_has ls 7 [(4, .int 0), (0, .ref sb)] → W p l e room_1 s m #[Value.ref sb] below meth c H locs 201 3006 (lw_Z below #[Value.ref sb] s) (F0 m 953 ls [])) : W p l e room_1 s m #[Value.ref sb] below meth c H locs 200 3000 (lw_Z below #[Value.ref sb] s) (F0 m 728 ls []) := by
  obtain ⟨hx, hb, -, hml, hown, hts0, hX, hbl, hlocks, hgv⟩ := C0
  have hts : ∀ w ∈ wsL_law, w.before #[Value.ref sb] s = true := fun w h => hts0 w (wsL_law_in w h)
  have hbA : ¬ PA b sb := by show ¬ b ≤ sb; omega
  obtain ⟨a1, ha1⟩ : ∃ z, z = (xs (Int32.toNatClampNeg (0 + 1))) := ⟨_, rfl⟩
  obtain ⟨a2, ha2⟩ : ∃ z, z = (xs (Int32.toNatClampNeg (0 + 2))) := ⟨_, rfl⟩
  refine lv_aload_n hx hb dL_law_728 rfl (lv_at hl 3 rfl) ?_
  refine lv_aload_n hx hb dL_law_729 rfl (lv_at hl 4 rfl) ?_
  refine lv_iload hx hb dL_law_730 (lv_at hl 0 rfl) ?_
  refine lv_iconst (v := 1) hx hb dL_law_732 (by decide) ?_
  refine lv_iadd hx hb dL_law_733 ?_
  refine va_sld hx hb hX hbl hbA hz.2.1 (by unfold vp_in; decide +kernel) dL_law_734 ?_
  rw [← ha1]
  refine lv_aload_n hx hb dL_law_735 rfl (lv_at hl 4 rfl) ?_
  refine lv_iload hx hb dL_law_736 (lv_at hl 0 rfl) ?_
  refine lv_iconst (v := 2) hx hb dL_law_738 (by decide) ?_
  refine lv_iadd hx hb dL_law_739 ?_
  refine va_sld hx hb hX hbl hbA hz.2.1 (by unfold vp_in; decide +kernel) dL_law_740 ?_
  rw [← ha2]
  refine pw_calll hz (va_runV (As := [.int a1, .int a2]) (rest := []) ⟨hx, hb, hml, hown, hts⟩ (c_part_ok l D cJ cI cR b 134 _ _ b (by omega) hF a1 a2) (cwV 2 hts gL_law_X6_part rfl rfl rfl (by decide +kernel) ⟨Nat.le_of_ble_eq_true rfl, Nat.le_of_ble_eq_true rfl⟩) (hz.preV (by omega) hF.1 rfl) rfl rfl hl.1 rfl (lv_room (Nat.le_of_ble_eq_true rfl)) dL_law_741 ⟨Nat.le_of_ble_eq_true rfl, Nat.le_of_ble_eq_true rfl⟩) (fun r1 E1 H locs hp hz => ?_)
  obtain ⟨hr1, hp2⟩ := hp
  have hm1 : E1 (b + 124) = modO (b + 124) 0 := (hp2 _ (by omega)).trans hM.1
  have hw1 : E1 (b + 124 + 1) = rowM cJ (fun _ => 0) := (hp2 _ (by omega)).trans hM.2.1
  refine lv_aload_n hx hb dL_law_744 rfl (lv_at hl 2 rfl) ?_
  refine lv_aload_n hx hb dL_law_745 rfl (lv_at hl 4 rfl) ?_
  refine lv_iload hx hb dL_law_746 (lv_at hl 0 rfl) ?_
  refine lv_iconst (v := 1) hx hb dL_law_748 (by decide) ?_
  refine lv_iadd hx hb dL_law_749 ?_
  refine va_sld hx hb hX hbl hbA hz.2.1 (by unfold vp_in; decide +kernel) dL_law_750 ?_
  rw [← ha1]
  refine lv_aload_n hx hb dL_law_751 rfl (lv_at hl 4 rfl) ?_
  refine lv_iload hx hb dL_law_752 (lv_at hl 0 rfl) ?_
  refine lv_iconst (v := 2) hx hb dL_law_754 (by decide) ?_
  refine lv_iadd hx hb dL_law_755 ?_
  refine va_sld hx hb hX hbl hbA hz.2.1 (by unfold vp_in; decide +kernel) dL_law_756 ?_
  rw [← ha2]
  refine pw_calll hz (va_runV (As := [.int a1, .int a2]) (rest := [.long r1]) ⟨hx, hb, hml, hown, hts⟩ (c_mpart_ok l D cJ cI cR b 134 _ _ (b + 124) 0 (by omega) hm1 hw1 a1 a2) (cwV 2 hts gL_law_X7_part rfl rfl rfl (by decide +kernel) ⟨Nat.le_of_ble_eq_true rfl, Nat.le_of_ble_eq_true rfl⟩) (hz.preV (by omega) hm1 rfl) rfl rfl hl.1 rfl (lv_room (Nat.le_of_ble_eq_true rfl)) dL_law_757 ⟨Nat.le_of_ble_eq_true rfl, Nat.le_of_ble_eq_true rfl⟩) (fun r2 E2 H locs hp hz => ?_)
  obtain ⟨hr2, -, -⟩ := hp
  refine W.lcmp hx hb dL_law_760 ?_
  refine lv_if_eq (tgt := 953) hx hb dL_law_761 (by decide) (fun _ => ?_) (fun qw => ?_)
  rotate_left
  · exact absurd ((lg_cmp_eq _ _).mpr (by rw [hr1, hr2])) qw
  refine W.widen (k := 201) (n := 3006) (by decide) (by decide) ?_
  exact fin E2 H locs ls hz (lv_sub hl [0, 4] rfl)

set_option maxHeartbeats 1000000 in
set_option maxRecDepth 100000 in
theorem law_times {p : Program} {l : Launch} {e : Env} {s : State} {m : MethodId} {below : List Frame} {meth : Method} {c : Code} (hst : l.stackTraces = false) {D : va_G} {cJ cI cR : ClassId} {sb b : Nat} {xs : Nat → Int32} (C0 : lw_At p s m meth c sb 6 xs) (hbs : b = s.heap.size) {E : Nat → va_E} {H : Heap} {locs : List Loc} {ls : Array Slot} (hz : PS D vwCl (tys3 cJ cI cR) b 134 s E H locs) (hF : deskAt cJ cI cR b E) (hM : modelAt cJ cI (b + 124) E) (hO : E (b + 133) = outA cJ (fun _ => 0)) (hl : lv_has ls 7 [(4, .int 0), (3, .ref (b + 133)), (2, .ref (b + 124)), (1, .ref b), (0, .ref sb)])
    (fin : ∀ (E' : Nat → va_E) (H : Heap) (locs : List Loc) (ls : Array Slot), PS D vwCl (tys3 cJ cI cR) b 134 s E' H locs → lv_has ls 7 [(4, .int 0), (0, .ref sb)] → W p l e room_1 s m #[Value.ref sb] below meth c H locs 201 3006 (lw_Z below #[Value.ref sb] s) (F0 m 953 ls [])) : W p l e room_1 s m #[Value.ref sb] below meth c H locs 200 3000 (lw_Z below #[Value.ref sb] s) (F0 m 766 ls []) := by
  obtain ⟨hx, hb, -, hml, hown, hts0, hX, hbl, hlocks, hgv⟩ := C0
  have hts : ∀ w ∈ wsL_law, w.before #[Value.ref sb] s = true := fun w h => hts0 w (wsL_law_in w h)
  have hbA : ¬ PA b sb := by show ¬ b ≤ sb; omega
  obtain ⟨a1, ha1⟩ : ∃ z, z = (xs (Int32.toNatClampNeg (0 + 1))) := ⟨_, rfl⟩
  refine lv_aload_n hx hb dL_law_766 rfl (lv_at hl 3 rfl) ?_
  refine lv_aload_n hx hb dL_law_767 rfl (lv_at hl 4 rfl) ?_
  refine lv_iload hx hb dL_law_768 (lv_at hl 0 rfl) ?_
  refine lv_iconst (v := 1) hx hb dL_law_770 (by decide) ?_
  refine lv_iadd hx hb dL_law_771 ?_
  refine va_sld hx hb hX hbl hbA hz.2.1 (by unfold vp_in; decide +kernel) dL_law_772 ?_
  rw [← ha1]
  refine pw_calli hz (va_runV (As := [.int a1]) (rest := []) ⟨hx, hb, hml, hown, hts⟩ (c_times_ok l D cJ cI cR b 134 _ _ b (by omega) hF a1) (cwV 1 hts gL_law_X6_times rfl rfl rfl (by decide +kernel) ⟨Nat.le_of_ble_eq_true rfl, Nat.le_of_ble_eq_true rfl⟩) (hz.preV (by omega) hF.1 rfl) rfl rfl hl.1 rfl (lv_room (Nat.le_of_ble_eq_true rfl)) dL_law_773 ⟨Nat.le_of_ble_eq_true rfl, Nat.le_of_ble_eq_true rfl⟩) (fun r1 E1 H locs hp hz => ?_)
  obtain ⟨hr1, hp2⟩ := hp
  have hm1 : E1 (b + 124) = modO (b + 124) 0 := (hp2 _ (by omega)).trans hM.1
  have hw1 : E1 (b + 124 + 1) = rowM cJ (fun _ => 0) := (hp2 _ (by omega)).trans hM.2.1
  refine lv_aload_n hx hb dL_law_776 rfl (lv_at hl 2 rfl) ?_
  refine lv_aload_n hx hb dL_law_777 rfl (lv_at hl 4 rfl) ?_
  refine lv_iload hx hb dL_law_778 (lv_at hl 0 rfl) ?_
  refine lv_iconst (v := 1) hx hb dL_law_780 (by decide) ?_
  refine lv_iadd hx hb dL_law_781 ?_
  refine va_sld hx hb hX hbl hbA hz.2.1 (by unfold vp_in; decide +kernel) dL_law_782 ?_
  rw [← ha1]
  refine pw_calli hz (va_runV (As := [.int a1]) (rest := [.int r1]) ⟨hx, hb, hml, hown, hts⟩ (c_mtimes_ok l D cJ cI cR b 134 _ _ (b + 124) 0 (by omega) hm1 hw1 a1) (cwV 1 hts gL_law_X7_times rfl rfl rfl (by decide +kernel) ⟨Nat.le_of_ble_eq_true rfl, Nat.le_of_ble_eq_true rfl⟩) (hz.preV (by omega) hm1 rfl) rfl rfl hl.1 rfl (lv_room (Nat.le_of_ble_eq_true rfl)) dL_law_783 ⟨Nat.le_of_ble_eq_true rfl, Nat.le_of_ble_eq_true rfl⟩) (fun r2 E2 H locs hp hz => ?_)
  obtain ⟨hr2, -, -⟩ := hp
  refine lv_icmp_eq (tgt := 953) hx hb dL_law_786 (by decide) (fun _ => ?_) (fun qw => ?_)
  rotate_left
  · exact absurd (by rw [hr1, hr2]) qw
  refine W.widen (k := 201) (n := 3006) (by decide) (by decide) ?_
  exact fin E2 H locs ls hz (lv_sub hl [0, 4] rfl)

set_option maxHeartbeats 1000000 in
set_option maxRecDepth 100000 in
theorem law_content {p : Program} {l : Launch} {e : Env} {s : State} {m : MethodId} {below : List Frame} {meth : Method} {c : Code} (hst : l.stackTraces = false) {D : va_G} {cJ cI cR : ClassId} {sb b : Nat} {xs : Nat → Int32} (C0 : lw_At p s m meth c sb 6 xs) (hbs : b = s.heap.size) {E : Nat → va_E} {H : Heap} {locs : List Loc} {ls : Array Slot} (hz : PS D vwCl (tys3 cJ cI cR) b 134 s E H locs) (hF : deskAt cJ cI cR b E) (hM : modelAt cJ cI (b + 124) E) (hO : E (b + 133) = outA cJ (fun _ => 0)) (hl : lv_has ls 7 [(4, .int 0), (3, .ref (b + 133)), (2, .ref (b + 124)), (1, .ref b), (0, .ref sb)])
    (fin : ∀ (E' : Nat → va_E) (H : Heap) (locs : List Loc) (ls : Array Slot), PS D vwCl (tys3 cJ cI cR) b 134 s E' H locs → lv_has ls 7 [(4, .int 0), (0, .ref sb)] → W p l e room_1 s m #[Value.ref sb] below meth c H locs 201 3006 (lw_Z below #[Value.ref sb] s) (F0 m 953 ls [])) : W p l e room_1 s m #[Value.ref sb] below meth c H locs 200 3000 (lw_Z below #[Value.ref sb] s) (F0 m 791 ls []) := by
  obtain ⟨hx, hb, -, hml, hown, hts0, hX, hbl, hlocks, hgv⟩ := C0
  have hts : ∀ w ∈ wsL_law, w.before #[Value.ref sb] s = true := fun w h => hts0 w (wsL_law_in w h)
  have hbA : ¬ PA b sb := by show ¬ b ≤ sb; omega
  refine lv_aload_n hx hb dL_law_791 rfl (lv_at hl 3 rfl) ?_
  refine pw_calli hz (va_runV (As := []) (rest := []) ⟨hx, hb, hml, hown, hts⟩ (c_content_ok l D cJ cI cR b 134 _ _ b (by omega) hF ) (cwV 0 hts gL_law_X6_content rfl rfl rfl (by decide +kernel) ⟨Nat.le_of_ble_eq_true rfl, Nat.le_of_ble_eq_true rfl⟩) (hz.preV (by omega) hF.1 rfl) rfl rfl hl.1 rfl (lv_room (Nat.le_of_ble_eq_true rfl)) dL_law_792 ⟨Nat.le_of_ble_eq_true rfl, Nat.le_of_ble_eq_true rfl⟩) (fun r1 E1 H locs hp hz => ?_)
  obtain ⟨hr1, hp2⟩ := hp
  have hm1 : E1 (b + 124) = modO (b + 124) 0 := (hp2 _ (by omega)).trans hM.1
  have hw1 : E1 (b + 124 + 1) = rowM cJ (fun _ => 0) := (hp2 _ (by omega)).trans hM.2.1
  refine lv_aload_n hx hb dL_law_795 rfl (lv_at hl 2 rfl) ?_
  refine pw_calli hz (va_runV (As := []) (rest := [.int r1]) ⟨hx, hb, hml, hown, hts⟩ (c_mcontent_ok l D cJ cI cR b 134 _ _ (b + 124) 0 (by omega) hm1 hw1 ) (cwV 0 hts gL_law_X7_content rfl rfl rfl (by decide +kernel) ⟨Nat.le_of_ble_eq_true rfl, Nat.le_of_ble_eq_true rfl⟩) (hz.preV (by omega) hm1 rfl) rfl rfl hl.1 rfl (lv_room (Nat.le_of_ble_eq_true rfl)) dL_law_796 ⟨Nat.le_of_ble_eq_true rfl, Nat.le_of_ble_eq_true rfl⟩) (fun r2 E2 H locs hp hz => ?_)
  obtain ⟨hr2, -, -⟩ := hp
  refine lv_icmp_eq (tgt := 953) hx hb dL_law_799 (by decide) (fun _ => ?_) (fun qw => ?_)
  rotate_left
  · exact absurd (by rw [hr1, hr2]) qw
  refine W.widen (k := 201) (n := 3006) (by decide) (by decide) ?_
  exact fin E2 H locs ls hz (lv_sub hl [0, 4] rfl)

set_option maxHeartbeats 1000000 in
set_option maxRecDepth 100000 in
theorem law_degree {p : Program} {l : Launch} {e : Env} {s : State} {m : MethodId} {below : List Frame} {meth : Method} {c : Code} (hst : l.stackTraces = false) {D : va_G} {cJ cI cR : ClassId} {sb b : Nat} {xs : Nat → Int32} (C0 : lw_At p s m meth c sb 6 xs) (hbs : b = s.heap.size) {E : Nat → va_E} {H : Heap} {locs : List Loc} {ls : Array Slot} (hz : PS D vwCl (tys3 cJ cI cR) b 134 s E H locs) (hF : deskAt cJ cI cR b E) (hM : modelAt cJ cI (b + 124) E) (hO : E (b + 133) = outA cJ (fun _ => 0)) (hl : lv_has ls 7 [(4, .int 0), (3, .ref (b + 133)), (2, .ref (b + 124)), (1, .ref b), (0, .ref sb)])
    (fin : ∀ (E' : Nat → va_E) (H : Heap) (locs : List Loc) (ls : Array Slot), PS D vwCl (tys3 cJ cI cR) b 134 s E' H locs → lv_has ls 7 [(4, .int 0), (0, .ref sb)] → W p l e room_1 s m #[Value.ref sb] below meth c H locs 201 3006 (lw_Z below #[Value.ref sb] s) (F0 m 953 ls [])) : W p l e room_1 s m #[Value.ref sb] below meth c H locs 200 3000 (lw_Z below #[Value.ref sb] s) (F0 m 872 ls []) := by
  obtain ⟨hx, hb, -, hml, hown, hts0, hX, hbl, hlocks, hgv⟩ := C0
  have hts : ∀ w ∈ wsL_law, w.before #[Value.ref sb] s = true := fun w h => hts0 w (wsL_law_in w h)
  have hbA : ¬ PA b sb := by show ¬ b ≤ sb; omega
  obtain ⟨a1, ha1⟩ : ∃ z, z = (xs (Int32.toNatClampNeg (0 + 1))) := ⟨_, rfl⟩
  refine lv_aload_n hx hb dL_law_872 rfl (lv_at hl 3 rfl) ?_
  refine lv_aload_n hx hb dL_law_873 rfl (lv_at hl 4 rfl) ?_
  refine lv_iload hx hb dL_law_874 (lv_at hl 0 rfl) ?_
  refine lv_iconst (v := 1) hx hb dL_law_876 (by decide) ?_
  refine lv_iadd hx hb dL_law_877 ?_
  refine va_sld hx hb hX hbl hbA hz.2.1 (by unfold vp_in; decide +kernel) dL_law_878 ?_
  rw [← ha1]
  refine pw_calli hz (va_runV (As := [.int a1]) (rest := []) ⟨hx, hb, hml, hown, hts⟩ (c_degree_ok l D cJ cI cR b 134 _ _ b (by omega) hF a1) (cwV 1 hts gL_law_X6_degree rfl rfl rfl (by decide +kernel) ⟨Nat.le_of_ble_eq_true rfl, Nat.le_of_ble_eq_true rfl⟩) (hz.preV (by omega) hF.1 rfl) rfl rfl hl.1 rfl (lv_room (Nat.le_of_ble_eq_true rfl)) dL_law_879 ⟨Nat.le_of_ble_eq_true rfl, Nat.le_of_ble_eq_true rfl⟩) (fun r1 E1 H locs hp hz => ?_)
  obtain ⟨hr1, hp2⟩ := hp
  have hm1 : E1 (b + 124) = modO (b + 124) 0 := (hp2 _ (by omega)).trans hM.1
  have hw1 : E1 (b + 124 + 1) = rowM cJ (fun _ => 0) := (hp2 _ (by omega)).trans hM.2.1
  refine lv_aload_n hx hb dL_law_882 rfl (lv_at hl 2 rfl) ?_
  refine lv_aload_n hx hb dL_law_883 rfl (lv_at hl 4 rfl) ?_
  refine lv_iload hx hb dL_law_884 (lv_at hl 0 rfl) ?_
  refine lv_iconst (v := 1) hx hb dL_law_886 (by decide) ?_
  refine lv_iadd hx hb dL_law_887 ?_
  refine va_sld hx hb hX hbl hbA hz.2.1 (by unfold vp_in; decide +kernel) dL_law_888 ?_
  rw [← ha1]
  refine pw_calli hz (va_runV (As := [.int a1]) (rest := [.int r1]) ⟨hx, hb, hml, hown, hts⟩ (c_mdegree_ok l D cJ cI cR b 134 _ _ (b + 124) 0 (by omega) hm1 hw1 a1) (cwV 1 hts gL_law_X7_degree rfl rfl rfl (by decide +kernel) ⟨Nat.le_of_ble_eq_true rfl, Nat.le_of_ble_eq_true rfl⟩) (hz.preV (by omega) hm1 rfl) rfl rfl hl.1 rfl (lv_room (Nat.le_of_ble_eq_true rfl)) dL_law_889 ⟨Nat.le_of_ble_eq_true rfl, Nat.le_of_ble_eq_true rfl⟩) (fun r2 E2 H locs hp hz => ?_)
  obtain ⟨hr2, -, -⟩ := hp
  refine lv_icmp_eq (tgt := 953) hx hb dL_law_892 (by decide) (fun _ => ?_) (fun qw => ?_)
  rotate_left
  · exact absurd (by rw [hr1, hr2]) qw
  refine W.widen (k := 201) (n := 3006) (by decide) (by decide) ?_
  exact fin E2 H locs ls hz (lv_sub hl [0, 4] rfl)
