/-! THE LAW's helpers: try the call; its answer into out; 1 where it threw. -/
theorem Met_ofWH {l : Launch} {y : MethodName} {ws ws' : List Cond} {rm : Room} {Pc : Array Value → State → Prop} {Qc : Array Value → State → Outcome → State → Prop} {mc ms : Nat} {free : Addr → Prop} {cc : ByteArray} {maxL : Nat} {ret : Option FieldType} {hh : List (Nat × Nat × Nat × Nat)}
    (hy : plainName y.cls = true) (hw : ws = Cond.codeWith y cc maxL ret hh :: ws')
    (body : ∀ p e s m args below meth c s₁, BodyLoose p l y (headSpec ws rm) cc maxL ret e s m args below meth c s₁ → c.maxLocals = maxL → c.exceptionTable.toList.map (fun h => (h.startPc, h.endPc, h.handlerPc, h.catchType)) = hh → Pc args s →
      W p l e (headSpec ws rm).room s m args below meth c s.heap [] 0 0 (MQ below Qc args s mc ms free) (entryFrame m args maxL)) : Met l y ws rm Pc Qc mc ms free := by
  have hmem : Cond.codeWith y cc maxL ret hh ∈ ws := by rw [hw]; exact List.mem_cons_self
  refine _root_.Jvm.Free.MetFree.of_bodyS (code := cc) (maxLocals := maxL) (ret := ret) hy ?_ ?_
  · intro args s m h hn
    obtain ⟨m9, meth, c, hn9, h1, h2, h3, h4, -, h5, h6, -⟩ := Cond.codeWith_spec (atoms_spec (ws := ws) h _ hmem)
    cases hn.symm.trans hn9
    exact ⟨meth, c, h1, h2, h3, h4, h5, h6⟩
  · intro p e s m args below meth c s₁ B hml hP _
    obtain ⟨m9, meth9, c9, hn9, h1, h2, -, -, ht, -⟩ := Cond.codeWith_spec (atoms_spec (ws := ws) B.pre _ hmem)
    cases (B.named).symm.trans hn9
    cases (B.method).symm.trans h1
    cases (Stand.of_body B).code.symm.trans h2
    have hh0 : s₁.heap = s.heap := by rw [B.state]; rfl
    obtain ⟨t, a1, o, b1, b2, b3⟩ := body p e s m args below meth c s₁ B hml ht hP s₁ hh0 (Stand.of_body B)
    exact ⟨t, o, a1, b1, b2, ⟨b3.1, b3.2⟩⟩
theorem tab1 {c : Code} {a0 b0 h0 t0 : Nat} (h : c.exceptionTable.toList.map (fun h => (h.startPc, h.endPc, h.handlerPc, h.catchType)) = [(a0, b0, h0, t0)]) : c.exceptionTable.toList = [⟨a0, b0, h0, t0⟩] := by
  obtain ⟨⟨q1, q2, q3, q4⟩, e1, e2⟩ := List.map_eq_singleton_iff.mp h
  injection e2 with g1 e2
  injection e2 with g2 e2
  injection e2 with g3 g4
  subst g1; subst g2; subst g3; subst g4
  exact e1
section XK
variable {p : Program} {l : Launch} {e : Env} {R : Room} {s : State} {m : MethodId} {args : Array Value} {below : List Frame} {meth : Method} {c : Code} {H : Heap} {locs : List Loc} {cells slots : Nat} {Q : State → Prop}
variable {pc : Nat} {ls : Array Slot} {rest st0 : List Value} {av : Array Value}
variable {D : va_G} {cl : List vw_C} {tys : List (ClassId × FieldType)} {b n : Nat} {E : Nat → va_E} {mc ms : Nat}
/-- a call that throws, caught here -/
theorem pw_xcatch {own : String} {a0 b0 h0 t0 : Nat} (hown : s.vm.findClass own = some m.cls) (htab : c.exceptionTable.toList = [⟨a0, b0, h0, t0⟩]) (hcov : covers ⟨a0, b0, h0, t0⟩ pc = true) (ht0 : t0 ≠ 0) (hlink : (Cond.classLink own t0 XIA).before args s = true) (hz : PS D cl tys b n s E H locs)
    (hr : vx_Run p l e R s m args below meth c H locs cells slots mc ms (F0 m pc ls st0) rest (cQi D cl tys b n (fun _ _ => False) av) (cX D cl b n (fun E' => E' = E)) (PA b))
    (kk : ∀ (q : Nat) (H1 : Heap) (locs1 : List Loc), PS D cl tys b n s E H1 locs1 → W p l e R s m args below meth c H1 locs1 (cells + mc) (slots + ms) Q (F0 m h0 ls [.ref q])) : W p l e R s m args below meth c H locs cells slots Q (F0 m pc ls st0) := by
  refine vx_calli hr hz.2.1 (fun _ _ h => h) (fun _ h => h) (fun _ _ h => h) (fun Ex ce q9 u t H1 locs1 ht _ hpx hBX _ _ hS hce hcv hcl => ?_) (fun r u t H1 locs1 _ _ hf _ _ _ _ => hf.elim)
  obtain ⟨rfl, hP⟩ := hBX
  refine vx_catch hown [] ⟨a0, b0, h0, t0⟩ [] htab (fun z h => by cases h) hcov ht0 hlink (hz.2.2.2.2.2.2.1.2.2.2.2.2.1.use rfl) hce hcv hcl (kk q9 H1 locs1 (hz.call ?_ hS))
  rw [← ht, ← hpx]
  exact hP
end XK

set_option maxHeartbeats 1000000 in
set_option maxRecDepth 100000 in
/-- set through the law -/
theorem h_set {K : Cx} {I : TI} {L : TL} {A : TA} (hst : (cxl K).stackTraces = false) {x o : Nat} (hx0 : cxS K x = shX6 x) (ho : cxS K o = .inr (1, 1)) {a0 a1 a2 : Int32} {S : Int32 → TI → TL → TA → Prop} (hok : oS a0 ∧ oK a1 ∧ oW a2 300 → ConI K yX6_set wsX6_set 2 61 I L A [.ref x, .int a0, .int a1, .int a2] S) : HC K yL_set wsL_set 8 126 I L A [.ref x, .int a0, .int a1, .int a2, .ref o] (hlQ (oS a0 ∧ oK a1 ∧ oW a2 300) o S I L A) := by
  intro hK sz
  refine Met_ofWH (cc := cL_set) (maxL := 6) (ret := (some .int)) (by decide) rfl ?_
  intro p e s m args below meth c s₁ B hml htab hv
  obtain ⟨rfl, hsz, hB⟩ := hv
  have hx := B.exec
  have hb := B.bytes
  have hret := B.returns
  have hts := atoms_spec (ws := wsL_set) B.pre
  have hown : s.vm.findClass RL = some m.cls := findClass_of_methodNamed B.named
  have hlocks := B.notSynchronized
  subst hsz
  have hz : SS K s I L A s.heap [] := PS.start hB
  have hl := lv_entry ([.ref x, .int a0, .int a1, .int a2, .ref o]) (n := 6) (Nat.le_of_ble_eq_true rfl)
  rw [lg_entry_eq]
  generalize (lg_sl ([.ref x, .int a0, .int a1, .int a2, .ref o]) ++ List.replicate (6 - (lg_sl ([.ref x, .int a0, .int a1, .int a2, .ref o])).length) Slot.unset).toArray = ls at hl ⊢
  have hl : lv_has ls 6 [(0, .ref x), (1, .int a0), (2, .int a1), (3, .int a2), (4, .ref o)] := hl
  have hw0 := hts (.classLink RL 13 XIA) (by decide +kernel)
  have htab := tab1 htab
  by_cases hv : oS a0 ∧ oK a1 ∧ oW a2 300
  · skip
    refine lv_aload hx hb dL_set_0 (lv_at hl 4 rfl) ?_
    refine lv_iconst (v := 0) hx hb dL_set_2 (by decide) ?_
    refine lv_aload_n hx hb dL_set_3 rfl (lv_at hl 0 rfl) ?_
    refine lv_iload_n hx hb dL_set_4 rfl (lv_at hl 1 rfl) ?_
    refine lv_iload_n hx hb dL_set_5 rfl (lv_at hl 2 rfl) ?_
    refine lv_iload_n hx hb dL_set_6 rfl (lv_at hl 3 rfl) ?_
    refine sw_calli hz (va_runV (As := [.int a0, .int a1, .int a2]) (rest := [.int 0, .ref o]) ⟨hx, hb, hml, hown, hts⟩ (hok hv hK _) (cwV 3 hts gL_set_X6_set rfl rfl rfl (by decide +kernel) ⟨Nat.le_of_ble_eq_true rfl, Nat.le_of_ble_eq_true rfl⟩) (hz.preV hK hx0 rfl) rfl rfl hl.1 rfl (lv_room (Nat.le_of_ble_eq_true rfl)) dL_set_7 ⟨Nat.le_of_ble_eq_true rfl, Nat.le_of_ble_eq_true rfl⟩) (fun r I1 L1 A1 H locs hp hz => ?_)
    refine lv_i2l hx hb dL_set_10 rfl ?_
    refine sw_last hx hb hK hz ⟨1, ho, by exact vp_in_nI (n := 0) (by decide) (by decide)⟩ dL_set_11 (fun H locs L2 e2 hz => ?_)
    refine lv_goto (tgt := 19) hx hb dL_set_12 (by decide) ?_
    refine lv_iconst (v := 0) hx hb dL_set_19 (by decide) ?_
    refine W.widen (k := 1) (n := 6) (by decide) (by decide) ?_
    exact sw_iret hx hb hret hlocks hz (Or.inl ⟨hv, rfl, r, L1, hp, by rw [e2, ix0]⟩) dL_set_20
  · skip
    refine lv_aload hx hb dL_set_0 (lv_at hl 4 rfl) ?_
    refine lv_iconst (v := 0) hx hb dL_set_2 (by decide) ?_
    refine lv_aload_n hx hb dL_set_3 rfl (lv_at hl 0 rfl) ?_
    refine lv_iload_n hx hb dL_set_4 rfl (lv_at hl 1 rfl) ?_
    refine lv_iload_n hx hb dL_set_5 rfl (lv_at hl 2 rfl) ?_
    refine lv_iload_n hx hb dL_set_6 rfl (lv_at hl 3 rfl) ?_
    refine pw_xcatch hown htab (by decide) (by decide) hw0 hz (vx_runV (As := [.int a0, .int a1, .int a2]) (rest := [.int 0, .ref o]) ⟨hx, hb, hml, hown, hts⟩ (c_set_no (cxl K) hst (cxD K) (cxJ K) (cxI K) (cxR K) (cxb K) (cxn K) _ _ x a0 a1 a2 hv) (cwV 3 hts gL_set_X6_set rfl rfl rfl (by decide +kernel) ⟨Nat.le_of_ble_eq_true rfl, Nat.le_of_ble_eq_true rfl⟩) (hz.preV hK hx0 rfl) rfl rfl hl.1 rfl (lv_room (Nat.le_of_ble_eq_true rfl)) dL_set_7 ⟨Nat.le_of_ble_eq_true rfl, Nat.le_of_ble_eq_true rfl⟩) (fun q9 H locs hz => ?_)
    have hz : SS K s I L A H locs := hz
    refine lv_astore (lv' := [(5, .ref q9), (0, .ref x), (1, .int a0), (2, .int a1), (3, .int a2), (4, .ref o)]) hx hb dL_set_15 hl (by decide) rfl (fun ls hl => ?_)
    refine lv_iconst (v := 1) hx hb dL_set_17 (by decide) ?_
    exact sw_iret hx hb hret hlocks hz (Or.inr ⟨hv, rfl, rfl, rfl, rfl⟩) dL_set_18

set_option maxHeartbeats 1000000 in
set_option maxRecDepth 100000 in
/-- get through the law -/
theorem h_get {K : Cx} {I : TI} {L : TL} {A : TA} (hst : (cxl K).stackTraces = false) {x o : Nat} (hx0 : cxS K x = shX6 x) (ho : cxS K o = .inr (1, 1)) {a0 a1 : Int32} {S : Int32 → TI → TL → TA → Prop} (hok : oS a0 ∧ oK a1 → ConI K yX6_get wsX6_get 2 60 I L A [.ref x, .int a0, .int a1] S) : HC K yL_get wsL_get 8 124 I L A [.ref x, .int a0, .int a1, .ref o] (hlQ (oS a0 ∧ oK a1) o S I L A) := by
  intro hK sz
  refine Met_ofWH (cc := cL_get) (maxL := 5) (ret := (some .int)) (by decide) rfl ?_
  intro p e s m args below meth c s₁ B hml htab hv
  obtain ⟨rfl, hsz, hB⟩ := hv
  have hx := B.exec
  have hb := B.bytes
  have hret := B.returns
  have hts := atoms_spec (ws := wsL_get) B.pre
  have hown : s.vm.findClass RL = some m.cls := findClass_of_methodNamed B.named
  have hlocks := B.notSynchronized
  subst hsz
  have hz : SS K s I L A s.heap [] := PS.start hB
  have hl := lv_entry ([.ref x, .int a0, .int a1, .ref o]) (n := 5) (Nat.le_of_ble_eq_true rfl)
  rw [lg_entry_eq]
  generalize (lg_sl ([.ref x, .int a0, .int a1, .ref o]) ++ List.replicate (5 - (lg_sl ([.ref x, .int a0, .int a1, .ref o])).length) Slot.unset).toArray = ls at hl ⊢
  have hl : lv_has ls 5 [(0, .ref x), (1, .int a0), (2, .int a1), (3, .ref o)] := hl
  have hw0 := hts (.classLink RL 13 XIA) (by decide +kernel)
  have htab := tab1 htab
  by_cases hv : oS a0 ∧ oK a1
  · skip
    refine lv_aload_n hx hb dL_get_0 rfl (lv_at hl 3 rfl) ?_
    refine lv_iconst (v := 0) hx hb dL_get_1 (by decide) ?_
    refine lv_aload_n hx hb dL_get_2 rfl (lv_at hl 0 rfl) ?_
    refine lv_iload_n hx hb dL_get_3 rfl (lv_at hl 1 rfl) ?_
    refine lv_iload_n hx hb dL_get_4 rfl (lv_at hl 2 rfl) ?_
    refine sw_calli hz (va_runV (As := [.int a0, .int a1]) (rest := [.int 0, .ref o]) ⟨hx, hb, hml, hown, hts⟩ (hok hv hK _) (cwV 2 hts gL_get_X6_get rfl rfl rfl (by decide +kernel) ⟨Nat.le_of_ble_eq_true rfl, Nat.le_of_ble_eq_true rfl⟩) (hz.preV hK hx0 rfl) rfl rfl hl.1 rfl (lv_room (Nat.le_of_ble_eq_true rfl)) dL_get_5 ⟨Nat.le_of_ble_eq_true rfl, Nat.le_of_ble_eq_true rfl⟩) (fun r I1 L1 A1 H locs hp hz => ?_)
    refine lv_i2l hx hb dL_get_8 rfl ?_
    refine sw_last hx hb hK hz ⟨1, ho, by exact vp_in_nI (n := 0) (by decide) (by decide)⟩ dL_get_9 (fun H locs L2 e2 hz => ?_)
    refine lv_goto (tgt := 17) hx hb dL_get_10 (by decide) ?_
    refine lv_iconst (v := 0) hx hb dL_get_17 (by decide) ?_
    refine W.widen (k := 1) (n := 6) (by decide) (by decide) ?_
    exact sw_iret hx hb hret hlocks hz (Or.inl ⟨hv, rfl, r, L1, hp, by rw [e2, ix0]⟩) dL_get_18
  · skip
    refine lv_aload_n hx hb dL_get_0 rfl (lv_at hl 3 rfl) ?_
    refine lv_iconst (v := 0) hx hb dL_get_1 (by decide) ?_
    refine lv_aload_n hx hb dL_get_2 rfl (lv_at hl 0 rfl) ?_
    refine lv_iload_n hx hb dL_get_3 rfl (lv_at hl 1 rfl) ?_
    refine lv_iload_n hx hb dL_get_4 rfl (lv_at hl 2 rfl) ?_
    refine pw_xcatch hown htab (by decide) (by decide) hw0 hz (vx_runV (As := [.int a0, .int a1]) (rest := [.int 0, .ref o]) ⟨hx, hb, hml, hown, hts⟩ (c_get_no (cxl K) hst (cxD K) (cxJ K) (cxI K) (cxR K) (cxb K) (cxn K) _ _ x a0 a1 hv) (cwV 2 hts gL_get_X6_get rfl rfl rfl (by decide +kernel) ⟨Nat.le_of_ble_eq_true rfl, Nat.le_of_ble_eq_true rfl⟩) (hz.preV hK hx0 rfl) rfl rfl hl.1 rfl (lv_room (Nat.le_of_ble_eq_true rfl)) dL_get_5 ⟨Nat.le_of_ble_eq_true rfl, Nat.le_of_ble_eq_true rfl⟩) (fun q9 H locs hz => ?_)
    have hz : SS K s I L A H locs := hz
    refine lv_astore (lv' := [(4, .ref q9), (0, .ref x), (1, .int a0), (2, .int a1), (3, .ref o)]) hx hb dL_get_13 hl (by decide) rfl (fun ls hl => ?_)
    refine lv_iconst (v := 1) hx hb dL_get_15 (by decide) ?_
    exact sw_iret hx hb hret hlocks hz (Or.inr ⟨hv, rfl, rfl, rfl, rfl⟩) dL_get_16

set_option maxHeartbeats 1000000 in
set_option maxRecDepth 100000 in
/-- add through the law -/
theorem h_add {K : Cx} {I : TI} {L : TL} {A : TA} (hst : (cxl K).stackTraces = false) {x o : Nat} (hx0 : cxS K x = shX6 x) (ho : cxS K o = .inr (1, 1)) {a0 a1 a2 a3 a4 : Int32} {S : Int32 → TI → TL → TA → Prop} (hok : o3 a0 a1 a2 ∧ oW a3 10 ∧ oW a4 10 → ConI K yX6_add wsX6_add 3 82 I L A [.ref x, .int a0, .int a1, .int a2, .int a3, .int a4] S) : HC K yL_add wsL_add 9 149 I L A [.ref x, .int a0, .int a1, .int a2, .int a3, .int a4, .ref o] (hlQ (o3 a0 a1 a2 ∧ oW a3 10 ∧ oW a4 10) o S I L A) := by
  intro hK sz
  refine Met_ofWH (cc := cL_add) (maxL := 8) (ret := (some .int)) (by decide) rfl ?_
  intro p e s m args below meth c s₁ B hml htab hv
  obtain ⟨rfl, hsz, hB⟩ := hv
  have hx := B.exec
  have hb := B.bytes
  have hret := B.returns
  have hts := atoms_spec (ws := wsL_add) B.pre
  have hown : s.vm.findClass RL = some m.cls := findClass_of_methodNamed B.named
  have hlocks := B.notSynchronized
  subst hsz
  have hz : SS K s I L A s.heap [] := PS.start hB
  have hl := lv_entry ([.ref x, .int a0, .int a1, .int a2, .int a3, .int a4, .ref o]) (n := 8) (Nat.le_of_ble_eq_true rfl)
  rw [lg_entry_eq]
  generalize (lg_sl ([.ref x, .int a0, .int a1, .int a2, .int a3, .int a4, .ref o]) ++ List.replicate (8 - (lg_sl ([.ref x, .int a0, .int a1, .int a2, .int a3, .int a4, .ref o])).length) Slot.unset).toArray = ls at hl ⊢
  have hl : lv_has ls 8 [(0, .ref x), (1, .int a0), (2, .int a1), (3, .int a2), (4, .int a3), (5, .int a4), (6, .ref o)] := hl
  have hw0 := hts (.classLink RL 13 XIA) (by decide +kernel)
  have htab := tab1 htab
  by_cases hv : o3 a0 a1 a2 ∧ oW a3 10 ∧ oW a4 10
  · skip
    refine lv_aload hx hb dL_add_0 (lv_at hl 6 rfl) ?_
    refine lv_iconst (v := 0) hx hb dL_add_2 (by decide) ?_
    refine lv_aload_n hx hb dL_add_3 rfl (lv_at hl 0 rfl) ?_
    refine lv_iload_n hx hb dL_add_4 rfl (lv_at hl 1 rfl) ?_
    refine lv_iload_n hx hb dL_add_5 rfl (lv_at hl 2 rfl) ?_
    refine lv_iload_n hx hb dL_add_6 rfl (lv_at hl 3 rfl) ?_
    refine lv_iload hx hb dL_add_7 (lv_at hl 4 rfl) ?_
    refine lv_iload hx hb dL_add_9 (lv_at hl 5 rfl) ?_
    refine sw_calli hz (va_runV (As := [.int a0, .int a1, .int a2, .int a3, .int a4]) (rest := [.int 0, .ref o]) ⟨hx, hb, hml, hown, hts⟩ (hok hv hK _) (cwV 5 hts gL_add_X6_add rfl rfl rfl (by decide +kernel) ⟨Nat.le_of_ble_eq_true rfl, Nat.le_of_ble_eq_true rfl⟩) (hz.preV hK hx0 rfl) rfl rfl hl.1 rfl (lv_room (Nat.le_of_ble_eq_true rfl)) dL_add_11 ⟨Nat.le_of_ble_eq_true rfl, Nat.le_of_ble_eq_true rfl⟩) (fun r I1 L1 A1 H locs hp hz => ?_)
    refine lv_i2l hx hb dL_add_14 rfl ?_
    refine sw_last hx hb hK hz ⟨1, ho, by exact vp_in_nI (n := 0) (by decide) (by decide)⟩ dL_add_15 (fun H locs L2 e2 hz => ?_)
    refine lv_goto (tgt := 23) hx hb dL_add_16 (by decide) ?_
    refine lv_iconst (v := 0) hx hb dL_add_23 (by decide) ?_
    refine W.widen (k := 1) (n := 6) (by decide) (by decide) ?_
    exact sw_iret hx hb hret hlocks hz (Or.inl ⟨hv, rfl, r, L1, hp, by rw [e2, ix0]⟩) dL_add_24
  · skip
    refine lv_aload hx hb dL_add_0 (lv_at hl 6 rfl) ?_
    refine lv_iconst (v := 0) hx hb dL_add_2 (by decide) ?_
    refine lv_aload_n hx hb dL_add_3 rfl (lv_at hl 0 rfl) ?_
    refine lv_iload_n hx hb dL_add_4 rfl (lv_at hl 1 rfl) ?_
    refine lv_iload_n hx hb dL_add_5 rfl (lv_at hl 2 rfl) ?_
    refine lv_iload_n hx hb dL_add_6 rfl (lv_at hl 3 rfl) ?_
    refine lv_iload hx hb dL_add_7 (lv_at hl 4 rfl) ?_
    refine lv_iload hx hb dL_add_9 (lv_at hl 5 rfl) ?_
    refine pw_xcatch hown htab (by decide) (by decide) hw0 hz (vx_runV (As := [.int a0, .int a1, .int a2, .int a3, .int a4]) (rest := [.int 0, .ref o]) ⟨hx, hb, hml, hown, hts⟩ (c_add_no (cxl K) hst (cxD K) (cxJ K) (cxI K) (cxR K) (cxb K) (cxn K) _ _ x a0 a1 a2 a3 a4 hv) (cwV 5 hts gL_add_X6_add rfl rfl rfl (by decide +kernel) ⟨Nat.le_of_ble_eq_true rfl, Nat.le_of_ble_eq_true rfl⟩) (hz.preV hK hx0 rfl) rfl rfl hl.1 rfl (lv_room (Nat.le_of_ble_eq_true rfl)) dL_add_11 ⟨Nat.le_of_ble_eq_true rfl, Nat.le_of_ble_eq_true rfl⟩) (fun q9 H locs hz => ?_)
    have hz : SS K s I L A H locs := hz
    refine lv_astore (lv' := [(7, .ref q9), (0, .ref x), (1, .int a0), (2, .int a1), (3, .int a2), (4, .int a3), (5, .int a4), (6, .ref o)]) hx hb dL_add_19 hl (by decide) rfl (fun ls hl => ?_)
    refine lv_iconst (v := 1) hx hb dL_add_21 (by decide) ?_
    exact sw_iret hx hb hret hlocks hz (Or.inr ⟨hv, rfl, rfl, rfl, rfl⟩) dL_add_22

set_option maxHeartbeats 1000000 in
set_option maxRecDepth 100000 in
/-- multiply through the law -/
theorem h_multiply {K : Cx} {I : TI} {L : TL} {A : TA} (hst : (cxl K).stackTraces = false) {x o : Nat} (hx0 : cxS K x = shX6 x) (ho : cxS K o = .inr (1, 1)) {a0 a1 a2 : Int32} {S : Int32 → TI → TL → TA → Prop} (hok : o3 a0 a1 a2 → ConI K yX6_multiply wsX6_multiply 3 82 I L A [.ref x, .int a0, .int a1, .int a2] S) : HC K yL_multiply wsL_multiply 9 147 I L A [.ref x, .int a0, .int a1, .int a2, .ref o] (hlQ (o3 a0 a1 a2) o S I L A) := by
  intro hK sz
  refine Met_ofWH (cc := cL_multiply) (maxL := 6) (ret := (some .int)) (by decide) rfl ?_
  intro p e s m args below meth c s₁ B hml htab hv
  obtain ⟨rfl, hsz, hB⟩ := hv
  have hx := B.exec
  have hb := B.bytes
  have hret := B.returns
  have hts := atoms_spec (ws := wsL_multiply) B.pre
  have hown : s.vm.findClass RL = some m.cls := findClass_of_methodNamed B.named
  have hlocks := B.notSynchronized
  subst hsz
  have hz : SS K s I L A s.heap [] := PS.start hB
  have hl := lv_entry ([.ref x, .int a0, .int a1, .int a2, .ref o]) (n := 6) (Nat.le_of_ble_eq_true rfl)
  rw [lg_entry_eq]
  generalize (lg_sl ([.ref x, .int a0, .int a1, .int a2, .ref o]) ++ List.replicate (6 - (lg_sl ([.ref x, .int a0, .int a1, .int a2, .ref o])).length) Slot.unset).toArray = ls at hl ⊢
  have hl : lv_has ls 6 [(0, .ref x), (1, .int a0), (2, .int a1), (3, .int a2), (4, .ref o)] := hl
  have hw0 := hts (.classLink RL 13 XIA) (by decide +kernel)
  have htab := tab1 htab
  by_cases hv : o3 a0 a1 a2
  · skip
    refine lv_aload hx hb dL_multiply_0 (lv_at hl 4 rfl) ?_
    refine lv_iconst (v := 0) hx hb dL_multiply_2 (by decide) ?_
    refine lv_aload_n hx hb dL_multiply_3 rfl (lv_at hl 0 rfl) ?_
    refine lv_iload_n hx hb dL_multiply_4 rfl (lv_at hl 1 rfl) ?_
    refine lv_iload_n hx hb dL_multiply_5 rfl (lv_at hl 2 rfl) ?_
    refine lv_iload_n hx hb dL_multiply_6 rfl (lv_at hl 3 rfl) ?_
    refine sw_calli hz (va_runV (As := [.int a0, .int a1, .int a2]) (rest := [.int 0, .ref o]) ⟨hx, hb, hml, hown, hts⟩ (hok hv hK _) (cwV 3 hts gL_multiply_X6_multiply rfl rfl rfl (by decide +kernel) ⟨Nat.le_of_ble_eq_true rfl, Nat.le_of_ble_eq_true rfl⟩) (hz.preV hK hx0 rfl) rfl rfl hl.1 rfl (lv_room (Nat.le_of_ble_eq_true rfl)) dL_multiply_7 ⟨Nat.le_of_ble_eq_true rfl, Nat.le_of_ble_eq_true rfl⟩) (fun r I1 L1 A1 H locs hp hz => ?_)
    refine lv_i2l hx hb dL_multiply_10 rfl ?_
    refine sw_last hx hb hK hz ⟨1, ho, by exact vp_in_nI (n := 0) (by decide) (by decide)⟩ dL_multiply_11 (fun H locs L2 e2 hz => ?_)
    refine lv_goto (tgt := 19) hx hb dL_multiply_12 (by decide) ?_
    refine lv_iconst (v := 0) hx hb dL_multiply_19 (by decide) ?_
    refine W.widen (k := 1) (n := 6) (by decide) (by decide) ?_
    exact sw_iret hx hb hret hlocks hz (Or.inl ⟨hv, rfl, r, L1, hp, by rw [e2, ix0]⟩) dL_multiply_20
  · skip
    refine lv_aload hx hb dL_multiply_0 (lv_at hl 4 rfl) ?_
    refine lv_iconst (v := 0) hx hb dL_multiply_2 (by decide) ?_
    refine lv_aload_n hx hb dL_multiply_3 rfl (lv_at hl 0 rfl) ?_
    refine lv_iload_n hx hb dL_multiply_4 rfl (lv_at hl 1 rfl) ?_
    refine lv_iload_n hx hb dL_multiply_5 rfl (lv_at hl 2 rfl) ?_
    refine lv_iload_n hx hb dL_multiply_6 rfl (lv_at hl 3 rfl) ?_
    refine pw_xcatch hown htab (by decide) (by decide) hw0 hz (vx_runV (As := [.int a0, .int a1, .int a2]) (rest := [.int 0, .ref o]) ⟨hx, hb, hml, hown, hts⟩ (c_multiply_no (cxl K) hst (cxD K) (cxJ K) (cxI K) (cxR K) (cxb K) (cxn K) _ _ x a0 a1 a2 hv) (cwV 3 hts gL_multiply_X6_multiply rfl rfl rfl (by decide +kernel) ⟨Nat.le_of_ble_eq_true rfl, Nat.le_of_ble_eq_true rfl⟩) (hz.preV hK hx0 rfl) rfl rfl hl.1 rfl (lv_room (Nat.le_of_ble_eq_true rfl)) dL_multiply_7 ⟨Nat.le_of_ble_eq_true rfl, Nat.le_of_ble_eq_true rfl⟩) (fun q9 H locs hz => ?_)
    have hz : SS K s I L A H locs := hz
    refine lv_astore (lv' := [(5, .ref q9), (0, .ref x), (1, .int a0), (2, .int a1), (3, .int a2), (4, .ref o)]) hx hb dL_multiply_15 hl (by decide) rfl (fun ls hl => ?_)
    refine lv_iconst (v := 1) hx hb dL_multiply_17 (by decide) ?_
    exact sw_iret hx hb hret hlocks hz (Or.inr ⟨hv, rfl, rfl, rfl, rfl⟩) dL_multiply_18

set_option maxHeartbeats 1000000 in
set_option maxRecDepth 100000 in
/-- divide through the law -/
theorem h_divide {K : Cx} {I : TI} {L : TL} {A : TA} (hst : (cxl K).stackTraces = false) {x o : Nat} (hx0 : cxS K x = shX6 x) (ho : cxS K o = .inr (1, 1)) {a0 a1 a2 : Int32} {S : Int32 → TI → TL → TA → Prop} (hok : o3 a0 a1 a2 → ConI K yX6_divide wsX6_divide 3 92 I L A [.ref x, .int a0, .int a1, .int a2] S) : HC K yL_divide wsL_divide 9 147 I L A [.ref x, .int a0, .int a1, .int a2, .ref o] (hlQ (o3 a0 a1 a2) o S I L A) := by
  intro hK sz
  refine Met_ofWH (cc := cL_divide) (maxL := 6) (ret := (some .int)) (by decide) rfl ?_
  intro p e s m args below meth c s₁ B hml htab hv
  obtain ⟨rfl, hsz, hB⟩ := hv
  have hx := B.exec
  have hb := B.bytes
  have hret := B.returns
  have hts := atoms_spec (ws := wsL_divide) B.pre
  have hown : s.vm.findClass RL = some m.cls := findClass_of_methodNamed B.named
  have hlocks := B.notSynchronized
  subst hsz
  have hz : SS K s I L A s.heap [] := PS.start hB
  have hl := lv_entry ([.ref x, .int a0, .int a1, .int a2, .ref o]) (n := 6) (Nat.le_of_ble_eq_true rfl)
  rw [lg_entry_eq]
  generalize (lg_sl ([.ref x, .int a0, .int a1, .int a2, .ref o]) ++ List.replicate (6 - (lg_sl ([.ref x, .int a0, .int a1, .int a2, .ref o])).length) Slot.unset).toArray = ls at hl ⊢
  have hl : lv_has ls 6 [(0, .ref x), (1, .int a0), (2, .int a1), (3, .int a2), (4, .ref o)] := hl
  have hw0 := hts (.classLink RL 13 XIA) (by decide +kernel)
  have htab := tab1 htab
  by_cases hv : o3 a0 a1 a2
  · skip
    refine lv_aload hx hb dL_divide_0 (lv_at hl 4 rfl) ?_
    refine lv_iconst (v := 0) hx hb dL_divide_2 (by decide) ?_
    refine lv_aload_n hx hb dL_divide_3 rfl (lv_at hl 0 rfl) ?_
    refine lv_iload_n hx hb dL_divide_4 rfl (lv_at hl 1 rfl) ?_
    refine lv_iload_n hx hb dL_divide_5 rfl (lv_at hl 2 rfl) ?_
    refine lv_iload_n hx hb dL_divide_6 rfl (lv_at hl 3 rfl) ?_
    refine sw_calli hz (va_runV (As := [.int a0, .int a1, .int a2]) (rest := [.int 0, .ref o]) ⟨hx, hb, hml, hown, hts⟩ (hok hv hK _) (cwV 3 hts gL_divide_X6_divide rfl rfl rfl (by decide +kernel) ⟨Nat.le_of_ble_eq_true rfl, Nat.le_of_ble_eq_true rfl⟩) (hz.preV hK hx0 rfl) rfl rfl hl.1 rfl (lv_room (Nat.le_of_ble_eq_true rfl)) dL_divide_7 ⟨Nat.le_of_ble_eq_true rfl, Nat.le_of_ble_eq_true rfl⟩) (fun r I1 L1 A1 H locs hp hz => ?_)
    refine lv_i2l hx hb dL_divide_10 rfl ?_
    refine sw_last hx hb hK hz ⟨1, ho, by exact vp_in_nI (n := 0) (by decide) (by decide)⟩ dL_divide_11 (fun H locs L2 e2 hz => ?_)
    refine lv_goto (tgt := 19) hx hb dL_divide_12 (by decide) ?_
    refine lv_iconst (v := 0) hx hb dL_divide_19 (by decide) ?_
    refine W.widen (k := 1) (n := 6) (by decide) (by decide) ?_
    exact sw_iret hx hb hret hlocks hz (Or.inl ⟨hv, rfl, r, L1, hp, by rw [e2, ix0]⟩) dL_divide_20
  · skip
    refine lv_aload hx hb dL_divide_0 (lv_at hl 4 rfl) ?_
    refine lv_iconst (v := 0) hx hb dL_divide_2 (by decide) ?_
    refine lv_aload_n hx hb dL_divide_3 rfl (lv_at hl 0 rfl) ?_
    refine lv_iload_n hx hb dL_divide_4 rfl (lv_at hl 1 rfl) ?_
    refine lv_iload_n hx hb dL_divide_5 rfl (lv_at hl 2 rfl) ?_
    refine lv_iload_n hx hb dL_divide_6 rfl (lv_at hl 3 rfl) ?_
    refine pw_xcatch hown htab (by decide) (by decide) hw0 hz (vx_runV (As := [.int a0, .int a1, .int a2]) (rest := [.int 0, .ref o]) ⟨hx, hb, hml, hown, hts⟩ (c_divide_no (cxl K) hst (cxD K) (cxJ K) (cxI K) (cxR K) (cxb K) (cxn K) _ _ x a0 a1 a2 hv) (cwV 3 hts gL_divide_X6_divide rfl rfl rfl (by decide +kernel) ⟨Nat.le_of_ble_eq_true rfl, Nat.le_of_ble_eq_true rfl⟩) (hz.preV hK hx0 rfl) rfl rfl hl.1 rfl (lv_room (Nat.le_of_ble_eq_true rfl)) dL_divide_7 ⟨Nat.le_of_ble_eq_true rfl, Nat.le_of_ble_eq_true rfl⟩) (fun q9 H locs hz => ?_)
    have hz : SS K s I L A H locs := hz
    refine lv_astore (lv' := [(5, .ref q9), (0, .ref x), (1, .int a0), (2, .int a1), (3, .int a2), (4, .ref o)]) hx hb dL_divide_15 hl (by decide) rfl (fun ls hl => ?_)
    refine lv_iconst (v := 1) hx hb dL_divide_17 (by decide) ?_
    exact sw_iret hx hb hret hlocks hz (Or.inr ⟨hv, rfl, rfl, rfl, rfl⟩) dL_divide_18

set_option maxHeartbeats 1000000 in
set_option maxRecDepth 100000 in
/-- common through the law -/
theorem h_common {K : Cx} {I : TI} {L : TL} {A : TA} (hst : (cxl K).stackTraces = false) {x o : Nat} (hx0 : cxS K x = shX6 x) (ho : cxS K o = .inr (1, 1)) {a0 a1 a2 : Int32} {S : Int32 → TI → TL → TA → Prop} (hok : o3 a0 a1 a2 → ConI K yX6_common wsX6_common 5 146 I L A [.ref x, .int a0, .int a1, .int a2] S) : HC K yL_common wsL_common 9 169 I L A [.ref x, .int a0, .int a1, .int a2, .ref o] (hlQ (o3 a0 a1 a2) o S I L A) := by
  intro hK sz
  refine Met_ofWH (cc := cL_common) (maxL := 6) (ret := (some .int)) (by decide) rfl ?_
  intro p e s m args below meth c s₁ B hml htab hv
  obtain ⟨rfl, hsz, hB⟩ := hv
  have hx := B.exec
  have hb := B.bytes
  have hret := B.returns
  have hts := atoms_spec (ws := wsL_common) B.pre
  have hown : s.vm.findClass RL = some m.cls := findClass_of_methodNamed B.named
  have hlocks := B.notSynchronized
  subst hsz
  have hz : SS K s I L A s.heap [] := PS.start hB
  have hl := lv_entry ([.ref x, .int a0, .int a1, .int a2, .ref o]) (n := 6) (Nat.le_of_ble_eq_true rfl)
  rw [lg_entry_eq]
  generalize (lg_sl ([.ref x, .int a0, .int a1, .int a2, .ref o]) ++ List.replicate (6 - (lg_sl ([.ref x, .int a0, .int a1, .int a2, .ref o])).length) Slot.unset).toArray = ls at hl ⊢
  have hl : lv_has ls 6 [(0, .ref x), (1, .int a0), (2, .int a1), (3, .int a2), (4, .ref o)] := hl
  have hw0 := hts (.classLink RL 13 XIA) (by decide +kernel)
  have htab := tab1 htab
  by_cases hv : o3 a0 a1 a2
  · skip
    refine lv_aload hx hb dL_common_0 (lv_at hl 4 rfl) ?_
    refine lv_iconst (v := 0) hx hb dL_common_2 (by decide) ?_
    refine lv_aload_n hx hb dL_common_3 rfl (lv_at hl 0 rfl) ?_
    refine lv_iload_n hx hb dL_common_4 rfl (lv_at hl 1 rfl) ?_
    refine lv_iload_n hx hb dL_common_5 rfl (lv_at hl 2 rfl) ?_
    refine lv_iload_n hx hb dL_common_6 rfl (lv_at hl 3 rfl) ?_
    refine sw_calli hz (va_runV (As := [.int a0, .int a1, .int a2]) (rest := [.int 0, .ref o]) ⟨hx, hb, hml, hown, hts⟩ (hok hv hK _) (cwV 3 hts gL_common_X6_common rfl rfl rfl (by decide +kernel) ⟨Nat.le_of_ble_eq_true rfl, Nat.le_of_ble_eq_true rfl⟩) (hz.preV hK hx0 rfl) rfl rfl hl.1 rfl (lv_room (Nat.le_of_ble_eq_true rfl)) dL_common_7 ⟨Nat.le_of_ble_eq_true rfl, Nat.le_of_ble_eq_true rfl⟩) (fun r I1 L1 A1 H locs hp hz => ?_)
    refine lv_i2l hx hb dL_common_10 rfl ?_
    refine sw_last hx hb hK hz ⟨1, ho, by exact vp_in_nI (n := 0) (by decide) (by decide)⟩ dL_common_11 (fun H locs L2 e2 hz => ?_)
    refine lv_goto (tgt := 19) hx hb dL_common_12 (by decide) ?_
    refine lv_iconst (v := 0) hx hb dL_common_19 (by decide) ?_
    refine W.widen (k := 1) (n := 6) (by decide) (by decide) ?_
    exact sw_iret hx hb hret hlocks hz (Or.inl ⟨hv, rfl, r, L1, hp, by rw [e2, ix0]⟩) dL_common_20
  · skip
    refine lv_aload hx hb dL_common_0 (lv_at hl 4 rfl) ?_
    refine lv_iconst (v := 0) hx hb dL_common_2 (by decide) ?_
    refine lv_aload_n hx hb dL_common_3 rfl (lv_at hl 0 rfl) ?_
    refine lv_iload_n hx hb dL_common_4 rfl (lv_at hl 1 rfl) ?_
    refine lv_iload_n hx hb dL_common_5 rfl (lv_at hl 2 rfl) ?_
    refine lv_iload_n hx hb dL_common_6 rfl (lv_at hl 3 rfl) ?_
    refine pw_xcatch hown htab (by decide) (by decide) hw0 hz (vx_runV (As := [.int a0, .int a1, .int a2]) (rest := [.int 0, .ref o]) ⟨hx, hb, hml, hown, hts⟩ (c_common_no (cxl K) hst (cxD K) (cxJ K) (cxI K) (cxR K) (cxb K) (cxn K) _ _ x a0 a1 a2 hv) (cwV 3 hts gL_common_X6_common rfl rfl rfl (by decide +kernel) ⟨Nat.le_of_ble_eq_true rfl, Nat.le_of_ble_eq_true rfl⟩) (hz.preV hK hx0 rfl) rfl rfl hl.1 rfl (lv_room (Nat.le_of_ble_eq_true rfl)) dL_common_7 ⟨Nat.le_of_ble_eq_true rfl, Nat.le_of_ble_eq_true rfl⟩) (fun q9 H locs hz => ?_)
    have hz : SS K s I L A H locs := hz
    refine lv_astore (lv' := [(5, .ref q9), (0, .ref x), (1, .int a0), (2, .int a1), (3, .int a2), (4, .ref o)]) hx hb dL_common_15 hl (by decide) rfl (fun ls hl => ?_)
    refine lv_iconst (v := 1) hx hb dL_common_17 (by decide) ?_
    exact sw_iret hx hb hret hlocks hz (Or.inr ⟨hv, rfl, rfl, rfl, rfl⟩) dL_common_18

set_option maxHeartbeats 1000000 in
set_option maxRecDepth 100000 in
/-- derive through the law -/
theorem h_derive {K : Cx} {I : TI} {L : TL} {A : TA} (hst : (cxl K).stackTraces = false) {x o : Nat} (hx0 : cxS K x = shX6 x) (ho : cxS K o = .inr (1, 1)) {a0 a1 : Int32} {S : Int32 → TI → TL → TA → Prop} (hok : oS a0 ∧ oS a1 → ConI K yX6_derive wsX6_derive 3 82 I L A [.ref x, .int a0, .int a1] S) : HC K yL_derive wsL_derive 8 124 I L A [.ref x, .int a0, .int a1, .ref o] (hlQ (oS a0 ∧ oS a1) o S I L A) := by
  intro hK sz
  refine Met_ofWH (cc := cL_derive) (maxL := 5) (ret := (some .int)) (by decide) rfl ?_
  intro p e s m args below meth c s₁ B hml htab hv
  obtain ⟨rfl, hsz, hB⟩ := hv
  have hx := B.exec
  have hb := B.bytes
  have hret := B.returns
  have hts := atoms_spec (ws := wsL_derive) B.pre
  have hown : s.vm.findClass RL = some m.cls := findClass_of_methodNamed B.named
  have hlocks := B.notSynchronized
  subst hsz
  have hz : SS K s I L A s.heap [] := PS.start hB
  have hl := lv_entry ([.ref x, .int a0, .int a1, .ref o]) (n := 5) (Nat.le_of_ble_eq_true rfl)
  rw [lg_entry_eq]
  generalize (lg_sl ([.ref x, .int a0, .int a1, .ref o]) ++ List.replicate (5 - (lg_sl ([.ref x, .int a0, .int a1, .ref o])).length) Slot.unset).toArray = ls at hl ⊢
  have hl : lv_has ls 5 [(0, .ref x), (1, .int a0), (2, .int a1), (3, .ref o)] := hl
  have hw0 := hts (.classLink RL 13 XIA) (by decide +kernel)
  have htab := tab1 htab
  by_cases hv : oS a0 ∧ oS a1
  · skip
    refine lv_aload_n hx hb dL_derive_0 rfl (lv_at hl 3 rfl) ?_
    refine lv_iconst (v := 0) hx hb dL_derive_1 (by decide) ?_
    refine lv_aload_n hx hb dL_derive_2 rfl (lv_at hl 0 rfl) ?_
    refine lv_iload_n hx hb dL_derive_3 rfl (lv_at hl 1 rfl) ?_
    refine lv_iload_n hx hb dL_derive_4 rfl (lv_at hl 2 rfl) ?_
    refine sw_calli hz (va_runV (As := [.int a0, .int a1]) (rest := [.int 0, .ref o]) ⟨hx, hb, hml, hown, hts⟩ (hok hv hK _) (cwV 2 hts gL_derive_X6_derive rfl rfl rfl (by decide +kernel) ⟨Nat.le_of_ble_eq_true rfl, Nat.le_of_ble_eq_true rfl⟩) (hz.preV hK hx0 rfl) rfl rfl hl.1 rfl (lv_room (Nat.le_of_ble_eq_true rfl)) dL_derive_5 ⟨Nat.le_of_ble_eq_true rfl, Nat.le_of_ble_eq_true rfl⟩) (fun r I1 L1 A1 H locs hp hz => ?_)
    refine lv_i2l hx hb dL_derive_8 rfl ?_
    refine sw_last hx hb hK hz ⟨1, ho, by exact vp_in_nI (n := 0) (by decide) (by decide)⟩ dL_derive_9 (fun H locs L2 e2 hz => ?_)
    refine lv_goto (tgt := 17) hx hb dL_derive_10 (by decide) ?_
    refine lv_iconst (v := 0) hx hb dL_derive_17 (by decide) ?_
    refine W.widen (k := 1) (n := 6) (by decide) (by decide) ?_
    exact sw_iret hx hb hret hlocks hz (Or.inl ⟨hv, rfl, r, L1, hp, by rw [e2, ix0]⟩) dL_derive_18
  · skip
    refine lv_aload_n hx hb dL_derive_0 rfl (lv_at hl 3 rfl) ?_
    refine lv_iconst (v := 0) hx hb dL_derive_1 (by decide) ?_
    refine lv_aload_n hx hb dL_derive_2 rfl (lv_at hl 0 rfl) ?_
    refine lv_iload_n hx hb dL_derive_3 rfl (lv_at hl 1 rfl) ?_
    refine lv_iload_n hx hb dL_derive_4 rfl (lv_at hl 2 rfl) ?_
    refine pw_xcatch hown htab (by decide) (by decide) hw0 hz (vx_runV (As := [.int a0, .int a1]) (rest := [.int 0, .ref o]) ⟨hx, hb, hml, hown, hts⟩ (c_derive_no (cxl K) hst (cxD K) (cxJ K) (cxI K) (cxR K) (cxb K) (cxn K) _ _ x a0 a1 hv) (cwV 2 hts gL_derive_X6_derive rfl rfl rfl (by decide +kernel) ⟨Nat.le_of_ble_eq_true rfl, Nat.le_of_ble_eq_true rfl⟩) (hz.preV hK hx0 rfl) rfl rfl hl.1 rfl (lv_room (Nat.le_of_ble_eq_true rfl)) dL_derive_5 ⟨Nat.le_of_ble_eq_true rfl, Nat.le_of_ble_eq_true rfl⟩) (fun q9 H locs hz => ?_)
    have hz : SS K s I L A H locs := hz
    refine lv_astore (lv' := [(4, .ref q9), (0, .ref x), (1, .int a0), (2, .int a1), (3, .ref o)]) hx hb dL_derive_13 hl (by decide) rfl (fun ls hl => ?_)
    refine lv_iconst (v := 1) hx hb dL_derive_15 (by decide) ?_
    exact sw_iret hx hb hret hlocks hz (Or.inr ⟨hv, rfl, rfl, rfl, rfl⟩) dL_derive_16

set_option maxHeartbeats 1000000 in
set_option maxRecDepth 100000 in
/-- parts through the law -/
theorem h_parts {K : Cx} {I : TI} {L : TL} {A : TA} (hst : (cxl K).stackTraces = false) {x o : Nat} (hx0 : cxS K x = shX6 x) (ho : cxS K o = .inr (1, 1)) {a0 : Int32} {S : Int32 → TI → TL → TA → Prop} (hok : oS a0 → ConI K yX6_parts wsX6_parts 7 182 I L A [.ref x, .int a0] S) : HC K yL_parts wsL_parts 8 203 I L A [.ref x, .int a0, .ref o] (hlQ (oS a0) o S I L A) := by
  intro hK sz
  refine Met_ofWH (cc := cL_parts) (maxL := 4) (ret := (some .int)) (by decide) rfl ?_
  intro p e s m args below meth c s₁ B hml htab hv
  obtain ⟨rfl, hsz, hB⟩ := hv
  have hx := B.exec
  have hb := B.bytes
  have hret := B.returns
  have hts := atoms_spec (ws := wsL_parts) B.pre
  have hown : s.vm.findClass RL = some m.cls := findClass_of_methodNamed B.named
  have hlocks := B.notSynchronized
  subst hsz
  have hz : SS K s I L A s.heap [] := PS.start hB
  have hl := lv_entry ([.ref x, .int a0, .ref o]) (n := 4) (Nat.le_of_ble_eq_true rfl)
  rw [lg_entry_eq]
  generalize (lg_sl ([.ref x, .int a0, .ref o]) ++ List.replicate (4 - (lg_sl ([.ref x, .int a0, .ref o])).length) Slot.unset).toArray = ls at hl ⊢
  have hl : lv_has ls 4 [(0, .ref x), (1, .int a0), (2, .ref o)] := hl
  have hw0 := hts (.classLink RL 13 XIA) (by decide +kernel)
  have htab := tab1 htab
  by_cases hv : oS a0
  · skip
    refine lv_aload_n hx hb dL_parts_0 rfl (lv_at hl 2 rfl) ?_
    refine lv_iconst (v := 0) hx hb dL_parts_1 (by decide) ?_
    refine lv_aload_n hx hb dL_parts_2 rfl (lv_at hl 0 rfl) ?_
    refine lv_iload_n hx hb dL_parts_3 rfl (lv_at hl 1 rfl) ?_
    refine sw_calli hz (va_runV (As := [.int a0]) (rest := [.int 0, .ref o]) ⟨hx, hb, hml, hown, hts⟩ (hok hv hK _) (cwV 1 hts gL_parts_X6_parts rfl rfl rfl (by decide +kernel) ⟨Nat.le_of_ble_eq_true rfl, Nat.le_of_ble_eq_true rfl⟩) (hz.preV hK hx0 rfl) rfl rfl hl.1 rfl (lv_room (Nat.le_of_ble_eq_true rfl)) dL_parts_4 ⟨Nat.le_of_ble_eq_true rfl, Nat.le_of_ble_eq_true rfl⟩) (fun r I1 L1 A1 H locs hp hz => ?_)
    refine lv_i2l hx hb dL_parts_7 rfl ?_
    refine sw_last hx hb hK hz ⟨1, ho, by exact vp_in_nI (n := 0) (by decide) (by decide)⟩ dL_parts_8 (fun H locs L2 e2 hz => ?_)
    refine lv_goto (tgt := 15) hx hb dL_parts_9 (by decide) ?_
    refine lv_iconst (v := 0) hx hb dL_parts_15 (by decide) ?_
    refine W.widen (k := 1) (n := 6) (by decide) (by decide) ?_
    exact sw_iret hx hb hret hlocks hz (Or.inl ⟨hv, rfl, r, L1, hp, by rw [e2, ix0]⟩) dL_parts_16
  · skip
    refine lv_aload_n hx hb dL_parts_0 rfl (lv_at hl 2 rfl) ?_
    refine lv_iconst (v := 0) hx hb dL_parts_1 (by decide) ?_
    refine lv_aload_n hx hb dL_parts_2 rfl (lv_at hl 0 rfl) ?_
    refine lv_iload_n hx hb dL_parts_3 rfl (lv_at hl 1 rfl) ?_
    refine pw_xcatch hown htab (by decide) (by decide) hw0 hz (vx_runV (As := [.int a0]) (rest := [.int 0, .ref o]) ⟨hx, hb, hml, hown, hts⟩ (c_parts_no (cxl K) hst (cxD K) (cxJ K) (cxI K) (cxR K) (cxb K) (cxn K) _ _ x a0 hv) (cwV 1 hts gL_parts_X6_parts rfl rfl rfl (by decide +kernel) ⟨Nat.le_of_ble_eq_true rfl, Nat.le_of_ble_eq_true rfl⟩) (hz.preV hK hx0 rfl) rfl rfl hl.1 rfl (lv_room (Nat.le_of_ble_eq_true rfl)) dL_parts_4 ⟨Nat.le_of_ble_eq_true rfl, Nat.le_of_ble_eq_true rfl⟩) (fun q9 H locs hz => ?_)
    have hz : SS K s I L A H locs := hz
    refine lv_astore_n (lv' := [(3, .ref q9), (0, .ref x), (1, .int a0), (2, .ref o)]) hx hb dL_parts_12 rfl hl (by decide) rfl (fun ls hl => ?_)
    refine lv_iconst (v := 1) hx hb dL_parts_13 (by decide) ?_
    exact sw_iret hx hb hret hlocks hz (Or.inr ⟨hv, rfl, rfl, rfl, rfl⟩) dL_parts_14

set_option maxHeartbeats 1000000 in
set_option maxRecDepth 100000 in
/-- galois through the law -/
theorem h_galois {K : Cx} {I : TI} {L : TL} {A : TA} (hst : (cxl K).stackTraces = false) {x o : Nat} (hx0 : cxS K x = shX6 x) (ho : cxS K o = .inr (1, 1)) {a0 : Int32} {S : Int32 → TI → TL → TA → Prop} (hok : oS a0 → ConI K yX6_galois wsX6_galois 7 182 I L A [.ref x, .int a0] S) : HC K yL_galois wsL_galois 8 204 I L A [.ref x, .int a0, .ref o] (hlQ (oS a0) o S I L A) := by
  intro hK sz
  refine Met_ofWH (cc := cL_galois) (maxL := 4) (ret := (some .int)) (by decide) rfl ?_
  intro p e s m args below meth c s₁ B hml htab hv
  obtain ⟨rfl, hsz, hB⟩ := hv
  have hx := B.exec
  have hb := B.bytes
  have hret := B.returns
  have hts := atoms_spec (ws := wsL_galois) B.pre
  have hown : s.vm.findClass RL = some m.cls := findClass_of_methodNamed B.named
  have hlocks := B.notSynchronized
  subst hsz
  have hz : SS K s I L A s.heap [] := PS.start hB
  have hl := lv_entry ([.ref x, .int a0, .ref o]) (n := 4) (Nat.le_of_ble_eq_true rfl)
  rw [lg_entry_eq]
  generalize (lg_sl ([.ref x, .int a0, .ref o]) ++ List.replicate (4 - (lg_sl ([.ref x, .int a0, .ref o])).length) Slot.unset).toArray = ls at hl ⊢
  have hl : lv_has ls 4 [(0, .ref x), (1, .int a0), (2, .ref o)] := hl
  have hw0 := hts (.classLink RL 13 XIA) (by decide +kernel)
  have htab := tab1 htab
  by_cases hv : oS a0
  · skip
    refine lv_aload_n hx hb dL_galois_0 rfl (lv_at hl 2 rfl) ?_
    refine lv_iconst (v := 0) hx hb dL_galois_1 (by decide) ?_
    refine lv_aload_n hx hb dL_galois_2 rfl (lv_at hl 0 rfl) ?_
    refine lv_iload_n hx hb dL_galois_3 rfl (lv_at hl 1 rfl) ?_
    refine sw_calli hz (va_runV (As := [.int a0]) (rest := [.int 0, .ref o]) ⟨hx, hb, hml, hown, hts⟩ (hok hv hK _) (cwV 1 hts gL_galois_X6_galois rfl rfl rfl (by decide +kernel) ⟨Nat.le_of_ble_eq_true rfl, Nat.le_of_ble_eq_true rfl⟩) (hz.preV hK hx0 rfl) rfl rfl hl.1 rfl (lv_room (Nat.le_of_ble_eq_true rfl)) dL_galois_4 ⟨Nat.le_of_ble_eq_true rfl, Nat.le_of_ble_eq_true rfl⟩) (fun r I1 L1 A1 H locs hp hz => ?_)
    refine lv_i2l hx hb dL_galois_7 rfl ?_
    refine sw_last hx hb hK hz ⟨1, ho, by exact vp_in_nI (n := 0) (by decide) (by decide)⟩ dL_galois_8 (fun H locs L2 e2 hz => ?_)
    refine lv_goto (tgt := 15) hx hb dL_galois_9 (by decide) ?_
    refine lv_iconst (v := 0) hx hb dL_galois_15 (by decide) ?_
    refine W.widen (k := 1) (n := 6) (by decide) (by decide) ?_
    exact sw_iret hx hb hret hlocks hz (Or.inl ⟨hv, rfl, r, L1, hp, by rw [e2, ix0]⟩) dL_galois_16
  · skip
    refine lv_aload_n hx hb dL_galois_0 rfl (lv_at hl 2 rfl) ?_
    refine lv_iconst (v := 0) hx hb dL_galois_1 (by decide) ?_
    refine lv_aload_n hx hb dL_galois_2 rfl (lv_at hl 0 rfl) ?_
    refine lv_iload_n hx hb dL_galois_3 rfl (lv_at hl 1 rfl) ?_
    refine pw_xcatch hown htab (by decide) (by decide) hw0 hz (vx_runV (As := [.int a0]) (rest := [.int 0, .ref o]) ⟨hx, hb, hml, hown, hts⟩ (c_galois_no (cxl K) hst (cxD K) (cxJ K) (cxI K) (cxR K) (cxb K) (cxn K) _ _ x a0 hv) (cwV 1 hts gL_galois_X6_galois rfl rfl rfl (by decide +kernel) ⟨Nat.le_of_ble_eq_true rfl, Nat.le_of_ble_eq_true rfl⟩) (hz.preV hK hx0 rfl) rfl rfl hl.1 rfl (lv_room (Nat.le_of_ble_eq_true rfl)) dL_galois_4 ⟨Nat.le_of_ble_eq_true rfl, Nat.le_of_ble_eq_true rfl⟩) (fun q9 H locs hz => ?_)
    have hz : SS K s I L A H locs := hz
    refine lv_astore_n (lv' := [(3, .ref q9), (0, .ref x), (1, .int a0), (2, .ref o)]) hx hb dL_galois_12 rfl hl (by decide) rfl (fun ls hl => ?_)
    refine lv_iconst (v := 1) hx hb dL_galois_13 (by decide) ?_
    exact sw_iret hx hb hret hlocks hz (Or.inr ⟨hv, rfl, rfl, rfl, rfl⟩) dL_galois_14

set_option maxHeartbeats 1000000 in
set_option maxRecDepth 100000 in
/-- pattern through the law -/
theorem h_pattern {K : Cx} {I : TI} {L : TL} {A : TA} (hst : (cxl K).stackTraces = false) {x o : Nat} (hx0 : cxS K x = shX6 x) (ho : cxS K o = .inr (1, 1)) {a0 a1 : Int32} {S : Int32 → TI → TL → TA → Prop} (hok : oS a0 ∧ oP a1 → ConI K yX6_pattern wsX6_pattern 5 139 I L A [.ref x, .int a0, .int a1] S) : HC K yL_pattern wsL_pattern 8 161 I L A [.ref x, .int a0, .int a1, .ref o] (hlQ (oS a0 ∧ oP a1) o S I L A) := by
  intro hK sz
  refine Met_ofWH (cc := cL_pattern) (maxL := 5) (ret := (some .int)) (by decide) rfl ?_
  intro p e s m args below meth c s₁ B hml htab hv
  obtain ⟨rfl, hsz, hB⟩ := hv
  have hx := B.exec
  have hb := B.bytes
  have hret := B.returns
  have hts := atoms_spec (ws := wsL_pattern) B.pre
  have hown : s.vm.findClass RL = some m.cls := findClass_of_methodNamed B.named
  have hlocks := B.notSynchronized
  subst hsz
  have hz : SS K s I L A s.heap [] := PS.start hB
  have hl := lv_entry ([.ref x, .int a0, .int a1, .ref o]) (n := 5) (Nat.le_of_ble_eq_true rfl)
  rw [lg_entry_eq]
  generalize (lg_sl ([.ref x, .int a0, .int a1, .ref o]) ++ List.replicate (5 - (lg_sl ([.ref x, .int a0, .int a1, .ref o])).length) Slot.unset).toArray = ls at hl ⊢
  have hl : lv_has ls 5 [(0, .ref x), (1, .int a0), (2, .int a1), (3, .ref o)] := hl
  have hw0 := hts (.classLink RL 13 XIA) (by decide +kernel)
  have htab := tab1 htab
  by_cases hv : oS a0 ∧ oP a1
  · skip
    refine lv_aload_n hx hb dL_pattern_0 rfl (lv_at hl 3 rfl) ?_
    refine lv_iconst (v := 0) hx hb dL_pattern_1 (by decide) ?_
    refine lv_aload_n hx hb dL_pattern_2 rfl (lv_at hl 0 rfl) ?_
    refine lv_iload_n hx hb dL_pattern_3 rfl (lv_at hl 1 rfl) ?_
    refine lv_iload_n hx hb dL_pattern_4 rfl (lv_at hl 2 rfl) ?_
    refine sw_calli hz (va_runV (As := [.int a0, .int a1]) (rest := [.int 0, .ref o]) ⟨hx, hb, hml, hown, hts⟩ (hok hv hK _) (cwV 2 hts gL_pattern_X6_pattern rfl rfl rfl (by decide +kernel) ⟨Nat.le_of_ble_eq_true rfl, Nat.le_of_ble_eq_true rfl⟩) (hz.preV hK hx0 rfl) rfl rfl hl.1 rfl (lv_room (Nat.le_of_ble_eq_true rfl)) dL_pattern_5 ⟨Nat.le_of_ble_eq_true rfl, Nat.le_of_ble_eq_true rfl⟩) (fun r I1 L1 A1 H locs hp hz => ?_)
    refine lv_i2l hx hb dL_pattern_8 rfl ?_
    refine sw_last hx hb hK hz ⟨1, ho, by exact vp_in_nI (n := 0) (by decide) (by decide)⟩ dL_pattern_9 (fun H locs L2 e2 hz => ?_)
    refine lv_goto (tgt := 17) hx hb dL_pattern_10 (by decide) ?_
    refine lv_iconst (v := 0) hx hb dL_pattern_17 (by decide) ?_
    refine W.widen (k := 1) (n := 6) (by decide) (by decide) ?_
    exact sw_iret hx hb hret hlocks hz (Or.inl ⟨hv, rfl, r, L1, hp, by rw [e2, ix0]⟩) dL_pattern_18
  · skip
    refine lv_aload_n hx hb dL_pattern_0 rfl (lv_at hl 3 rfl) ?_
    refine lv_iconst (v := 0) hx hb dL_pattern_1 (by decide) ?_
    refine lv_aload_n hx hb dL_pattern_2 rfl (lv_at hl 0 rfl) ?_
    refine lv_iload_n hx hb dL_pattern_3 rfl (lv_at hl 1 rfl) ?_
    refine lv_iload_n hx hb dL_pattern_4 rfl (lv_at hl 2 rfl) ?_
    refine pw_xcatch hown htab (by decide) (by decide) hw0 hz (vx_runV (As := [.int a0, .int a1]) (rest := [.int 0, .ref o]) ⟨hx, hb, hml, hown, hts⟩ (c_pattern_no (cxl K) hst (cxD K) (cxJ K) (cxI K) (cxR K) (cxb K) (cxn K) _ _ x a0 a1 hv) (cwV 2 hts gL_pattern_X6_pattern rfl rfl rfl (by decide +kernel) ⟨Nat.le_of_ble_eq_true rfl, Nat.le_of_ble_eq_true rfl⟩) (hz.preV hK hx0 rfl) rfl rfl hl.1 rfl (lv_room (Nat.le_of_ble_eq_true rfl)) dL_pattern_5 ⟨Nat.le_of_ble_eq_true rfl, Nat.le_of_ble_eq_true rfl⟩) (fun q9 H locs hz => ?_)
    have hz : SS K s I L A H locs := hz
    refine lv_astore (lv' := [(4, .ref q9), (0, .ref x), (1, .int a0), (2, .int a1), (3, .ref o)]) hx hb dL_pattern_13 hl (by decide) rfl (fun ls hl => ?_)
    refine lv_iconst (v := 1) hx hb dL_pattern_15 (by decide) ?_
    exact sw_iret hx hb hret hlocks hz (Or.inr ⟨hv, rfl, rfl, rfl, rfl⟩) dL_pattern_16
