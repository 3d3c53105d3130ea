/-! Math.abs, Math.min, Math.floorMod -/
abbrev absJ (x : Int64) : Int64 := if 0 < x then x else -x
abbrev minJ (x y : Int32) : Int32 := if y < x then y else x
abbrev fmJ (x y : Int64) : Int64 := Jvm.Free.JP.Math_floorMod_JJ.val x y
section
variable {p : Program} {l : Launch} {e : Env} {R : Room} {s : State} {m : MethodId} {args : Array Value} {below : List Frame} {meth : Method} {c : Code} {H : Heap} {locs : List Loc} {cells slots : Nat} {Q : State → Prop}
variable {pc : Nat} {ls : Array Slot} {rest : List Value}
theorem sw_floor {cc : ByteArray} (hexec : p.tables.exec = Jvm.exec) (hb : c.code = cc) (hml : c.maxLocals = ls.size) {own : String} {index : Nat} (hown : s.vm.findClass own = some m.cls) (hlink : (Cond.methodLink own index yJ9_floorMod_f86c9).before args s = true) (hstat : (Cond.static yJ9_floorMod_f86c9).before args s = true) (hini : (Cond.initialized RJ9).before args s = true) (hcode : (Cond.code yJ9_floorMod_f86c9 cJ9_floorMod_f86c9 6 (some .long)).before args s = true)
    (hframes : 1 ≤ R.frames) (hlocals : (rest.map fun v => v.category).sum + 17 ≤ R.locals) (hc : cells ≤ R.cells) (hs : slots ≤ R.slots) {x y : Int64} (hy : ¬ y = 0) (hdg : decode cc pc = .ok (.invokestatic index, 3))
    (kk : W p l e R s m args below meth c H locs cells slots Q (F0 m (pc + 3) ls (.long (fmJ x y) :: rest))) : W p l e R s m args below meth c H locs cells slots Q (F0 m pc ls (.long y :: .long x :: rest)) := by
  intro T hT X
  obtain ⟨v, T', X', ⟨rfl, hh⟩, st⟩ := Jvm.Stand.callS X hexec (Jvm.Free.JP.Math_floorMod_JJ.law l x y) hown (fun w hw => by
    rcases List.mem_cons.mp hw with rfl | hw
    · exact hlink
    · rcases List.mem_cons.mp hw with rfl | hw
      · exact hstat
      · cases hw) (Jvm.Free.XT.unparts hcode (fun w hw => by
    rcases List.mem_cons.mp hw with rfl | hw
    · exact hini
    · cases hw)) (W := (rest.map fun v => v.category).sum) hframes (by omega) (by omega) (by omega) (g := F0 m pc ls (.long y :: .long x :: rest)) rfl (by rw [hml]) (Steps.refl _) (argsL := [.long x, .long y]) (rest := rest) rfl rfl (by show 2 * 0 + _ ≤ _; omega) (by rw [hb]; exact hdg) ⟨rfl, hy⟩
  rw [List.append_nil] at X'
  obtain ⟨t, a1, b1⟩ := kk T' (hh.trans hT) X'
  exact ⟨t, st.trans a1, b1⟩
end

def wp_J13_compare_74951 (K : Cx) (I : TI) (L : TL) (A : TA) (j0 : Int64) (j2 : Int64) (Q : Int32 → TI → TL → TA → Prop) : Prop := ((j2 ≤ j0 → ((j0 = j2 → Q 0 I L A) ∧ (¬ j0 = j2 → Q 1 I L A))) ∧ (¬ j2 ≤ j0 → Q (-1) I L A))
set_option maxHeartbeats 1000000 in
set_option maxRecDepth 100000 in
theorem w_J13_compare_74951 (K : Cx) (I : TI) (L : TL) (A : TA) (j0 : Int64) (j2 : Int64) (Q : Int32 → TI → TL → TA → Prop) (hwp : wp_J13_compare_74951 K I L A j0 j2 Q) : ConI K yJ13_compare_74951 wsJ13_compare_74951 0 0 I L A [.long j0, .long j2] Q := by
  intro hK sz
  refine Met.ofW (cc := cJ13_compare_74951) (maxL := 4) (ret := (some .int)) (by decide) rfl ?_
  intro p e s m args below meth c s₁ B hml hv
  obtain ⟨rfl, hsz, hB⟩ := hv
  have hx := B.exec
  have hb := B.bytes
  have hret := B.returns
  have hts := atoms_spec (ws := wsJ13_compare_74951) B.pre
  have hown : s.vm.findClass RJ13 = some m.cls := findClass_of_methodNamed B.named
  have hlocks := B.notSynchronized
  subst hsz
  have hz : SS K s I L A s.heap [] := PS.start hB
  have hl := lv_entry ([.long j0, .long j2]) (n := 4) (Nat.le_of_ble_eq_true rfl)
  rw [lg_entry_eq]
  generalize (lg_sl ([.long j0, .long j2]) ++ List.replicate (4 - (lg_sl ([.long j0, .long j2])).length) Slot.unset).toArray = ls at hl ⊢
  have hl : lv_has ls 4 [(0, .long j0), (2, .long j2)] := hl
  clear hB B
  refine lv_lload_n hx hb dJ13_compare_74951_0 rfl (lv_at hl 0 rfl) ?_
  refine lv_lload_n hx hb dJ13_compare_74951_1 rfl (lv_at hl 1 rfl) ?_
  refine W.lcmp hx hb dJ13_compare_74951_2 ?_
  refine W.eq (g2 := F0 m 3 ls [.int (lg_cmp j0 j2)]) rfl ?_
  refine lv_if_ge (tgt := 10) hx hb dJ13_compare_74951_3 (by decide) (fun q => ?_) (fun q => ?_)
  · have hwp := hwp.1 ((lg_cmp_ge _ _).mp q)
    refine lv_lload_n hx hb dJ13_compare_74951_10 rfl (lv_at hl 0 rfl) ?_
    refine lv_lload_n hx hb dJ13_compare_74951_11 rfl (lv_at hl 1 rfl) ?_
    refine W.lcmp hx hb dJ13_compare_74951_12 ?_
    refine W.eq (g2 := F0 m 13 ls [.int (lg_cmp j0 j2)]) rfl ?_
    refine lv_if_ne (tgt := 20) hx hb dJ13_compare_74951_13 (by decide) (fun q => ?_) (fun q => ?_)
    · have hwp := hwp.2 (fun h => q ((lg_cmp_eq _ _).mpr h))
      refine lv_iconst (v := 1) hx hb dJ13_compare_74951_20 (by decide) ?_
      exact sw_iret hx hb hret hlocks hz hwp dJ13_compare_74951_21
    · have hwp := hwp.1 ((lg_cmp_eq _ _).mp q)
      refine lv_iconst (v := 0) hx hb dJ13_compare_74951_16 (by decide) ?_
      refine lv_goto (tgt := 21) hx hb dJ13_compare_74951_17 (by decide) ?_
      exact sw_iret hx hb hret hlocks hz hwp dJ13_compare_74951_21
  · have hwp := hwp.2 (fun h => q ((lg_cmp_ge _ _).mpr h))
    refine lv_iconst (v := (-1)) hx hb dJ13_compare_74951_6 (by decide) ?_
    refine lv_goto (tgt := 21) hx hb dJ13_compare_74951_7 (by decide) ?_
    exact sw_iret hx hb hret hlocks hz hwp dJ13_compare_74951_21

def wp_J6_compare_7cf53 (K : Cx) (I : TI) (L : TL) (A : TA) (i0 : Int32) (i1 : Int32) (Q : Int32 → TI → TL → TA → Prop) : Prop := ((i1 ≤ i0 → ((i0 = i1 → Q 0 I L A) ∧ (¬ i0 = i1 → Q 1 I L A))) ∧ (¬ i1 ≤ i0 → Q (-1) I L A))
set_option maxHeartbeats 1000000 in
set_option maxRecDepth 100000 in
theorem w_J6_compare_7cf53 (K : Cx) (I : TI) (L : TL) (A : TA) (i0 : Int32) (i1 : Int32) (Q : Int32 → TI → TL → TA → Prop) (hwp : wp_J6_compare_7cf53 K I L A i0 i1 Q) : ConI K yJ6_compare_7cf53 wsJ6_compare_7cf53 0 0 I L A [.int i0, .int i1] Q := by
  intro hK sz
  refine Met.ofW (cc := cJ6_compare_7cf53) (maxL := 2) (ret := (some .int)) (by decide) rfl ?_
  intro p e s m args below meth c s₁ B hml hv
  obtain ⟨rfl, hsz, hB⟩ := hv
  have hx := B.exec
  have hb := B.bytes
  have hret := B.returns
  have hts := atoms_spec (ws := wsJ6_compare_7cf53) B.pre
  have hown : s.vm.findClass RJ6 = some m.cls := findClass_of_methodNamed B.named
  have hlocks := B.notSynchronized
  subst hsz
  have hz : SS K s I L A s.heap [] := PS.start hB
  have hl := lv_entry ([.int i0, .int i1]) (n := 2) (Nat.le_of_ble_eq_true rfl)
  rw [lg_entry_eq]
  generalize (lg_sl ([.int i0, .int i1]) ++ List.replicate (2 - (lg_sl ([.int i0, .int i1])).length) Slot.unset).toArray = ls at hl ⊢
  have hl : lv_has ls 2 [(0, .int i0), (1, .int i1)] := hl
  clear hB B
  refine lv_iload_n hx hb dJ6_compare_7cf53_0 rfl (lv_at hl 0 rfl) ?_
  refine lv_iload_n hx hb dJ6_compare_7cf53_1 rfl (lv_at hl 1 rfl) ?_
  refine lv_icmp_ge (tgt := 9) hx hb dJ6_compare_7cf53_2 (by decide) (fun q => ?_) (fun q => ?_)
  · have hwp := hwp.1 q
    refine lv_iload_n hx hb dJ6_compare_7cf53_9 rfl (lv_at hl 0 rfl) ?_
    refine lv_iload_n hx hb dJ6_compare_7cf53_10 rfl (lv_at hl 1 rfl) ?_
    refine lv_icmp_ne (tgt := 18) hx hb dJ6_compare_7cf53_11 (by decide) (fun q => ?_) (fun q => ?_)
    · have hwp := hwp.2 q
      refine lv_iconst (v := 1) hx hb dJ6_compare_7cf53_18 (by decide) ?_
      exact sw_iret hx hb hret hlocks hz hwp dJ6_compare_7cf53_19
    · have hwp := hwp.1 q
      refine lv_iconst (v := 0) hx hb dJ6_compare_7cf53_14 (by decide) ?_
      refine lv_goto (tgt := 19) hx hb dJ6_compare_7cf53_15 (by decide) ?_
      exact sw_iret hx hb hret hlocks hz hwp dJ6_compare_7cf53_19
  · have hwp := hwp.2 q
    refine lv_iconst (v := (-1)) hx hb dJ6_compare_7cf53_5 (by decide) ?_
    refine lv_goto (tgt := 19) hx hb dJ6_compare_7cf53_6 (by decide) ?_
    exact sw_iret hx hb hret hlocks hz hwp dJ6_compare_7cf53_19

def wp_J7_fill_d0a16_6 (K : Cx) (o0 : Nat) (j1 : Int64) (I : TI) (L : TL) (A : TA) (x3 : Int32) (x4 : Int32) (Q : TI → TL → TA → Prop) : Prop := ∃ (Inv : Nat → TI → TL → TA → Int32 → Int32 → Prop) (μ : Nat), Inv μ I L A x3 x4 ∧ ∀ (μ : Nat) (C6 : TI → TL → TA → Int32 → Int32 → Prop), (∀ (μ' : Nat) (I : TI) (L : TL) (A : TA) (x3 : Int32) (x4 : Int32) , μ' < μ → Inv μ' I L A x3 x4 → C6 I L A x3 x4) → ∀ (I : TI) (L : TL) (A : TA) (x3 : Int32) (x4 : Int32) , Inv μ I L A x3 x4 → ((x4 ≤ x3 → Q I L A) ∧ (¬ x4 ≤ x3 → aok (cxS K) o0 1 x3 ∧ ∀ L2 : TL, L2 = u2 L o0 (ix x3) j1 → ∀ v3 : Int32, v3 = x3 + 1 → C6 I L2 A v3 x4))
def wp_J7_fill_d0a16 (K : Cx) (I : TI) (L : TL) (A : TA) (o0 : Nat) (j1 : Int64) (Q : TI → TL → TA → Prop) : Prop := ∃ k4 n5 : Nat, ∃ v6 : Int32, (cxS K o0 = .inr (k4, n5) ∧ k4 < 3 ∧ v6 = Int32.ofNat n5) ∧ wp_J7_fill_d0a16_6 K o0 j1 I L A 0 v6 Q
set_option maxHeartbeats 1000000 in
set_option maxRecDepth 100000 in
theorem w_J7_fill_d0a16 (K : Cx) (I : TI) (L : TL) (A : TA) (o0 : Nat) (j1 : Int64) (Q : TI → TL → TA → Prop) (hwp : wp_J7_fill_d0a16 K I L A o0 j1 Q) : ConV K yJ7_fill_d0a16 wsJ7_fill_d0a16 0 0 I L A [.ref o0, .long j1] Q := by
  intro hK sz
  refine Met.ofW (cc := cJ7_fill_d0a16) (maxL := 5) (ret := none) (by decide) rfl ?_
  intro p e s m args below meth c s₁ B hml hv
  obtain ⟨rfl, hsz, hB⟩ := hv
  have hx := B.exec
  have hb := B.bytes
  have hret := B.returns
  have hts := atoms_spec (ws := wsJ7_fill_d0a16) B.pre
  have hown : s.vm.findClass RJ7 = some m.cls := findClass_of_methodNamed B.named
  have hlocks := B.notSynchronized
  subst hsz
  have hz : SS K s I L A s.heap [] := PS.start hB
  have hl := lv_entry ([.ref o0, .long j1]) (n := 5) (Nat.le_of_ble_eq_true rfl)
  rw [lg_entry_eq]
  generalize (lg_sl ([.ref o0, .long j1]) ++ List.replicate (5 - (lg_sl ([.ref o0, .long j1])).length) Slot.unset).toArray = ls at hl ⊢
  have hl : lv_has ls 5 [(0, .ref o0), (1, .long j1)] := hl
  clear hB B
  have wL6 : ∀ (I : TI) (L : TL) (A : TA) (x3 : Int32) (x4 : Int32) (H : Heap) (locs : List Loc) (ls : Array Slot), wp_J7_fill_d0a16_6 K o0 j1 I L A x3 x4 Q → SS K s I L A H locs → lv_has ls 5 [(0, .ref o0), (1, .long j1), (3, .int x3), (4, .int x4)] → W p (cxl K) e (headSpec wsJ7_fill_d0a16 (rmF 0 0)).room s m ([.ref o0, .long j1] : List Value).toArray below meth c H locs 0 0 (MQ below (cxQv K Q) ([.ref o0, .long j1] : List Value).toArray s 0 0 (PA (cxb K))) (F0 m 6 ls []) := by
    intro I L A x3 x4 H locs ls hwp hz hl
    obtain ⟨Inv, μ, hi, hst⟩ := hwp
    have key : ∀ (μ : Nat) (I : TI) (L : TL) (A : TA) (x3 : Int32) (x4 : Int32) (H : Heap) (locs : List Loc) (ls : Array Slot), Inv μ I L A x3 x4 → SS K s I L A H locs → lv_has ls 5 [(0, .ref o0), (1, .long j1), (3, .int x3), (4, .int x4)] → W p (cxl K) e (headSpec wsJ7_fill_d0a16 (rmF 0 0)).room s m ([.ref o0, .long j1] : List Value).toArray below meth c H locs 0 0 (MQ below (cxQv K Q) ([.ref o0, .long j1] : List Value).toArray s 0 0 (PA (cxb K))) (F0 m 6 ls []) := by
      clear hi hz hl
      intro μ
      induction μ using Nat.strongRecOn with | ind μ ih => ?_
      intro I L A x3 x4 H locs ls hi hz hl
      obtain ⟨C6, hCd⟩ : ∃ C : TI → TL → TA → Int32 → Int32 → Prop, C = fun I L A x3 x4 => ∃ μ', μ' < μ ∧ Inv μ' I L A x3 x4 := ⟨_, rfl⟩
      have hC6 : ∀ (I : TI) (L : TL) (A : TA) (x3 : Int32) (x4 : Int32) (H : Heap) (locs : List Loc) (ls : Array Slot), C6 I L A x3 x4 → SS K s I L A H locs → lv_has ls 5 [(0, .ref o0), (1, .long j1), (3, .int x3), (4, .int x4)] → W p (cxl K) e (headSpec wsJ7_fill_d0a16 (rmF 0 0)).room s m ([.ref o0, .long j1] : List Value).toArray below meth c H locs 0 0 (MQ below (cxQv K Q) ([.ref o0, .long j1] : List Value).toArray s 0 0 (PA (cxb K))) (F0 m 6 ls []) := by
        intro I L A x3 x4 H locs ls hc hz hl
        rw [hCd] at hc
        obtain ⟨μ', hlt, hc⟩ := hc
        exact ih μ' hlt I L A x3 x4 H locs ls hc hz hl
      have hwp := hst μ C6 (fun μ' I L A x3 x4 hlt hc => by rw [hCd]; exact ⟨μ', hlt, hc⟩) I L A x3 x4 hi
      refine lv_iload_n hx hb dJ7_fill_d0a16_6 rfl (lv_at hl 2 rfl) ?_
      refine lv_iload hx hb dJ7_fill_d0a16_7 (lv_at hl 3 rfl) ?_
      refine lv_icmp_ge (tgt := 22) hx hb dJ7_fill_d0a16_9 (by decide) (fun q => ?_) (fun q => ?_)
      · have hwp := hwp.1 q
        exact sw_vret hx hb hret hlocks hz hwp dJ7_fill_d0a16_22
      · have hwp := hwp.2 q
        refine lv_aload_n hx hb dJ7_fill_d0a16_12 rfl (lv_at hl 0 rfl) ?_
        refine lv_iload_n hx hb dJ7_fill_d0a16_13 rfl (lv_at hl 2 rfl) ?_
        refine lv_lload_n hx hb dJ7_fill_d0a16_14 rfl (lv_at hl 1 rfl) ?_
        obtain ⟨ho1, hwp⟩ := hwp
        refine sw_last hx hb hK hz ho1 dJ7_fill_d0a16_15 (fun H locs L2 e_L2 hz => ?_)
        have hwp := hwp L2 e_L2
        obtain ⟨v3, q_v3⟩ : ∃ y : Int32, y = x3 + 1 := ⟨_, rfl⟩
        have hwp := hwp v3 q_v3
        refine lv_iinc (v := v3) (lv' := [(3, .int v3), (0, .ref o0), (1, .long j1), (4, .int x4)]) hx hb dJ7_fill_d0a16_16 hl (k := 2) rfl (by rw [q_v3]; rfl) (by decide) rfl (fun ls hl => ?_)
        refine lv_goto (tgt := 6) hx hb dJ7_fill_d0a16_19 (by decide) ?_
        exact hC6 _ _ _ _ _ _ _ _ hwp hz (lv_sub hl [1, 2, 0, 3] rfl)
    exact key μ I L A x3 x4 H locs ls hi hz hl
  refine lv_iconst (v := 0) hx hb dJ7_fill_d0a16_0 (by decide) ?_
  refine lv_istore_n (lv' := [(3, .int 0), (0, .ref o0), (1, .long j1)]) hx hb dJ7_fill_d0a16_1 rfl hl (by decide) rfl (fun ls hl => ?_)
  refine lv_aload_n hx hb dJ7_fill_d0a16_2 rfl (lv_at hl 1 rfl) ?_
  obtain ⟨k4, n5, v6, ho7, hwp⟩ := hwp
  refine sw_alen hx hb hK hz ho7 dJ7_fill_d0a16_3 ?_
  refine lv_istore (lv' := [(4, .int v6), (3, .int 0), (0, .ref o0), (1, .long j1)]) hx hb dJ7_fill_d0a16_4 hl (by decide) rfl (fun ls hl => ?_)
  exact wL6 _ _ _ _ _ _ _ _ hwp hz (lv_sub hl [2, 3, 1, 0] rfl)

