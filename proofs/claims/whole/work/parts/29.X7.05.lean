def wp_X7_inverse_37 (K : Cx) (o0 : Nat) (i1 : Int32) (C12 : TI → TL → TA → Int32 → Int32 → Int32 → Prop) (I : TI) (L : TL) (A : TA) (x3 : Int32) (x4 : Int32) (y0 : Int32) (Q : Int32 → TI → TL → TA → Prop) : Prop := cxS K o0 = shX7 o0 ∧ ¬ (I o0 19) = 0 ∧ ∀ v3 : Int32, v3 = ((x3 * x3) - (x3 * x3) / (I o0 19) * (I o0 19)) → ∀ v4 : Int32, v4 = (x4 / 2) → C12 I L A y0 v3 v4
def wp_X7_inverse_12 (K : Cx) (o0 : Nat) (i1 : Int32) (I : TI) (L : TL) (A : TA) (x2 : Int32) (x3 : Int32) (x4 : Int32) (Q : Int32 → TI → TL → TA → Prop) : Prop := ∃ (Inv : Nat → TI → TL → TA → Int32 → Int32 → Int32 → Prop) (μ : Nat), Inv μ I L A x2 x3 x4 ∧ ∀ (μ : Nat) (C12 : TI → TL → TA → Int32 → Int32 → Int32 → Prop), (∀ (μ' : Nat) (I : TI) (L : TL) (A : TA) (x2 : Int32) (x3 : Int32) (x4 : Int32) , μ' < μ → Inv μ' I L A x2 x3 x4 → C12 I L A x2 x3 x4) → ∀ (I : TI) (L : TL) (A : TA) (x2 : Int32) (x3 : Int32) (x4 : Int32) , Inv μ I L A x2 x3 x4 → ((x4 ≤ 0 → Q x2 I L A) ∧ (¬ x4 ≤ 0 → (((x4 - x4 / 2 * 2) = 1 → cxS K o0 = shX7 o0 ∧ ¬ (I o0 19) = 0 ∧ wp_X7_inverse_37 K o0 i1 C12 I L A x3 x4 ((x2 * x3) - (x2 * x3) / (I o0 19) * (I o0 19)) Q) ∧ (¬ (x4 - x4 / 2 * 2) = 1 → wp_X7_inverse_37 K o0 i1 C12 I L A x3 x4 x2 Q))))
def wp_X7_inverse (K : Cx) (I : TI) (L : TL) (A : TA) (o0 : Nat) (i1 : Int32) (Q : Int32 → TI → TL → TA → Prop) : Prop := cxS K o0 = shX7 o0 ∧ ∀ v8 : Int32, v8 = ((I o0 19) - 2) → wp_X7_inverse_12 K o0 i1 I L A 1 i1 v8 Q
set_option maxHeartbeats 1000000 in
set_option maxRecDepth 100000 in
theorem w_X7_inverse (K : Cx) (I : TI) (L : TL) (A : TA) (o0 : Nat) (i1 : Int32) (Q : Int32 → TI → TL → TA → Prop) (hwp : wp_X7_inverse K I L A o0 i1 Q) : ConI K yX7_inverse wsX7_inverse 0 0 I L A [.ref o0, .int i1] Q := by
  intro hK sz
  refine Met.ofW (cc := cX7_inverse) (maxL := 5) (ret := (some .int)) (by decide) rfl ?_
  intro p e s m args below meth c s₁ B hml hv
  obtain ⟨rfl, hsz, hB⟩ := hv
  have hx := B.exec
  have hb := B.bytes
  have hret := B.returns
  have hts := atoms_spec (ws := wsX7_inverse) B.pre
  have hown : s.vm.findClass RX7 = some m.cls := findClass_of_methodNamed B.named
  have hlocks := B.notSynchronized
  subst hsz
  have hz : SS K s I L A s.heap [] := PS.start hB
  have hl := lv_entry ([.ref o0, .int i1]) (n := 5) (Nat.le_of_ble_eq_true rfl)
  rw [lg_entry_eq]
  generalize (lg_sl ([.ref o0, .int i1]) ++ List.replicate (5 - (lg_sl ([.ref o0, .int i1])).length) Slot.unset).toArray = ls at hl ⊢
  have hl : lv_has ls 5 [(0, .ref o0), (1, .int i1)] := hl
  have hw0 : ∀ w ∈ u_ws RX7 TX7 25, w ∈ wsX7_inverse := by decide +kernel
  have hw1 := hts (.fieldLink RX7 167 "GaloisDeskModel" "prime" "I") (by decide +kernel)
  clear hB B
  have wL37 : ∀ (C12 : TI → TL → TA → Int32 → Int32 → Int32 → Prop) (hC12 : ∀ (I : TI) (L : TL) (A : TA) (x2 : Int32) (x3 : Int32) (x4 : Int32) (H : Heap) (locs : List Loc) (ls : Array Slot), C12 I L A x2 x3 x4 → SS K s I L A H locs → lv_has ls 5 [(0, .ref o0), (2, .int x2), (3, .int x3), (4, .int x4)] → W p (cxl K) e (headSpec wsX7_inverse (rmF 0 0)).room s m ([.ref o0, .int i1] : List Value).toArray below meth c H locs 0 0 (MQ below (cxQi K Q) ([.ref o0, .int i1] : List Value).toArray s 0 0 (PA (cxb K))) (F0 m 12 ls [])) (I : TI) (L : TL) (A : TA) (x3 : Int32) (x4 : Int32) (y0 : Int32) (H : Heap) (locs : List Loc) (ls : Array Slot), wp_X7_inverse_37 K o0 i1 C12 I L A x3 x4 y0 Q → SS K s I L A H locs → lv_has ls 5 [(0, .ref o0), (3, .int x3), (4, .int x4)] → W p (cxl K) e (headSpec wsX7_inverse (rmF 0 0)).room s m ([.ref o0, .int i1] : List Value).toArray below meth c H locs 0 0 (MQ below (cxQi K Q) ([.ref o0, .int i1] : List Value).toArray s 0 0 (PA (cxb K))) (F0 m 37 ls [.int y0]) := by
    intro C12 hC12 I L A x3 x4 y0 H locs ls hwp hz hl
    refine lv_istore_n (lv' := [(2, .int y0), (0, .ref o0), (3, .int x3), (4, .int x4)]) hx hb dX7_inverse_37 rfl hl (by decide) rfl (fun ls hl => ?_)
    refine lv_iload_n hx hb dX7_inverse_38 rfl (lv_at hl 2 rfl) ?_
    refine lv_iload_n hx hb dX7_inverse_39 rfl (lv_at hl 2 rfl) ?_
    refine lv_imul hx hb dX7_inverse_40 ?_
    refine lv_aload_n hx hb dX7_inverse_41 rfl (lv_at hl 1 rfl) ?_
    obtain ⟨hs1, hwp⟩ := hwp
    refine sw_get (C := RX7) (T := TX7) (N := 25) (v := .int (I o0 19)) hx hb hts hw0 hown hK hz hs1 rfl 19 (by decide) hw1 (fun _ h9 => h9) rfl dX7_inverse_42 ?_
    obtain ⟨hn2, hwp⟩ := hwp
    refine lv_irem hx hb dX7_inverse_45 hn2 ?_
    refine lv_topi (fun v3 q_v3 => ?_)
    have hwp := hwp v3 q_v3
    refine lv_istore_n (lv' := [(3, .int v3), (2, .int y0), (0, .ref o0), (4, .int x4)]) hx hb dX7_inverse_46 rfl hl (by decide) rfl (fun ls hl => ?_)
    refine lv_iload hx hb dX7_inverse_47 (lv_at hl 3 rfl) ?_
    refine lv_iconst (v := 2) hx hb dX7_inverse_49 (by decide) ?_
    refine lv_idiv hx hb dX7_inverse_50 (by decide) ?_
    refine lv_topi (fun v4 q_v4 => ?_)
    have hwp := hwp v4 q_v4
    refine lv_istore (lv' := [(4, .int v4), (3, .int v3), (2, .int y0), (0, .ref o0)]) hx hb dX7_inverse_51 hl (by decide) rfl (fun ls hl => ?_)
    refine lv_goto (tgt := 12) hx hb dX7_inverse_53 (by decide) ?_
    exact hC12 _ _ _ _ _ _ _ _ _ hwp hz (lv_sub hl [3, 2, 1, 0] rfl)
  have wL12 : ∀ (I : TI) (L : TL) (A : TA) (x2 : Int32) (x3 : Int32) (x4 : Int32) (H : Heap) (locs : List Loc) (ls : Array Slot), wp_X7_inverse_12 K o0 i1 I L A x2 x3 x4 Q → SS K s I L A H locs → lv_has ls 5 [(0, .ref o0), (2, .int x2), (3, .int x3), (4, .int x4)] → W p (cxl K) e (headSpec wsX7_inverse (rmF 0 0)).room s m ([.ref o0, .int i1] : List Value).toArray below meth c H locs 0 0 (MQ below (cxQi K Q) ([.ref o0, .int i1] : List Value).toArray s 0 0 (PA (cxb K))) (F0 m 12 ls []) := by
    intro I L A x2 x3 x4 H locs ls hwp hz hl
    obtain ⟨Inv, μ, hi, hst⟩ := hwp
    have key : ∀ (μ : Nat) (I : TI) (L : TL) (A : TA) (x2 : Int32) (x3 : Int32) (x4 : Int32) (H : Heap) (locs : List Loc) (ls : Array Slot), Inv μ I L A x2 x3 x4 → SS K s I L A H locs → lv_has ls 5 [(0, .ref o0), (2, .int x2), (3, .int x3), (4, .int x4)] → W p (cxl K) e (headSpec wsX7_inverse (rmF 0 0)).room s m ([.ref o0, .int i1] : List Value).toArray below meth c H locs 0 0 (MQ below (cxQi K Q) ([.ref o0, .int i1] : List Value).toArray s 0 0 (PA (cxb K))) (F0 m 12 ls []) := by
      clear hi hz hl
      intro μ
      induction μ using Nat.strongRecOn with | ind μ ih => ?_
      intro I L A x2 x3 x4 H locs ls hi hz hl
      obtain ⟨C12, hCd⟩ : ∃ C : TI → TL → TA → Int32 → Int32 → Int32 → Prop, C = fun I L A x2 x3 x4 => ∃ μ', μ' < μ ∧ Inv μ' I L A x2 x3 x4 := ⟨_, rfl⟩
      have hC12 : ∀ (I : TI) (L : TL) (A : TA) (x2 : Int32) (x3 : Int32) (x4 : Int32) (H : Heap) (locs : List Loc) (ls : Array Slot), C12 I L A x2 x3 x4 → SS K s I L A H locs → lv_has ls 5 [(0, .ref o0), (2, .int x2), (3, .int x3), (4, .int x4)] → W p (cxl K) e (headSpec wsX7_inverse (rmF 0 0)).room s m ([.ref o0, .int i1] : List Value).toArray below meth c H locs 0 0 (MQ below (cxQi K Q) ([.ref o0, .int i1] : List Value).toArray s 0 0 (PA (cxb K))) (F0 m 12 ls []) := by
        intro I L A x2 x3 x4 H locs ls hc hz hl
        rw [hCd] at hc
        obtain ⟨μ', hlt, hc⟩ := hc
        exact ih μ' hlt I L A x2 x3 x4 H locs ls hc hz hl
      have hwp := hst μ C12 (fun μ' I L A x2 x3 x4 hlt hc => by rw [hCd]; exact ⟨μ', hlt, hc⟩) I L A x2 x3 x4 hi
      refine lv_iload hx hb dX7_inverse_12 (lv_at hl 3 rfl) ?_
      refine lv_if_le (tgt := 56) hx hb dX7_inverse_14 (by decide) (fun q => ?_) (fun q => ?_)
      · have hwp := hwp.1 q
        refine lv_iload_n hx hb dX7_inverse_56 rfl (lv_at hl 1 rfl) ?_
        exact sw_iret hx hb hret hlocks hz hwp dX7_inverse_57
      · have hwp := hwp.2 q
        refine lv_iload hx hb dX7_inverse_17 (lv_at hl 3 rfl) ?_
        refine lv_iconst (v := 2) hx hb dX7_inverse_19 (by decide) ?_
        refine lv_irem hx hb dX7_inverse_20 (by decide) ?_
        refine lv_iconst (v := 1) hx hb dX7_inverse_21 (by decide) ?_
        refine lv_icmp_ne (tgt := 36) hx hb dX7_inverse_22 (by decide) (fun q => ?_) (fun q => ?_)
        · have hwp := hwp.2 q
          refine lv_iload_n hx hb dX7_inverse_36 rfl (lv_at hl 1 rfl) ?_
          exact wL37 _ hC12 _ _ _ _ _ _ _ _ _ hwp hz (lv_sub hl [0, 2, 3] rfl)
        · have hwp := hwp.1 q
          refine lv_iload_n hx hb dX7_inverse_25 rfl (lv_at hl 1 rfl) ?_
          refine lv_iload_n hx hb dX7_inverse_26 rfl (lv_at hl 2 rfl) ?_
          refine lv_imul hx hb dX7_inverse_27 ?_
          refine lv_aload_n hx hb dX7_inverse_28 rfl (lv_at hl 0 rfl) ?_
          obtain ⟨hs5, hwp⟩ := hwp
          refine sw_get (C := RX7) (T := TX7) (N := 25) (v := .int (I o0 19)) hx hb hts hw0 hown hK hz hs5 rfl 19 (by decide) hw1 (fun _ h9 => h9) rfl dX7_inverse_29 ?_
          obtain ⟨hn6, hwp⟩ := hwp
          refine lv_irem hx hb dX7_inverse_32 hn6 ?_
          refine lv_goto (tgt := 37) hx hb dX7_inverse_33 (by decide) ?_
          exact wL37 _ hC12 _ _ _ _ _ _ _ _ _ hwp hz (lv_sub hl [0, 2, 3] rfl)
    exact key μ I L A x2 x3 x4 H locs ls hi hz hl
  refine lv_iconst (v := 1) hx hb dX7_inverse_0 (by decide) ?_
  refine lv_istore_n (lv' := [(2, .int 1), (0, .ref o0), (1, .int i1)]) hx hb dX7_inverse_1 rfl hl (by decide) rfl (fun ls hl => ?_)
  refine lv_iload_n hx hb dX7_inverse_2 rfl (lv_at hl 2 rfl) ?_
  refine lv_istore_n (lv' := [(3, .int i1), (2, .int 1), (0, .ref o0), (1, .int i1)]) hx hb dX7_inverse_3 rfl hl (by decide) rfl (fun ls hl => ?_)
  refine lv_aload_n hx hb dX7_inverse_4 rfl (lv_at hl 2 rfl) ?_
  obtain ⟨hs7, hwp⟩ := hwp
  refine sw_get (C := RX7) (T := TX7) (N := 25) (v := .int (I o0 19)) hx hb hts hw0 hown hK hz hs7 rfl 19 (by decide) hw1 (fun _ h9 => h9) rfl dX7_inverse_5 ?_
  refine lv_iconst (v := 2) hx hb dX7_inverse_8 (by decide) ?_
  refine lv_isub hx hb dX7_inverse_9 ?_
  refine lv_topi (fun v8 q_v8 => ?_)
  have hwp := hwp v8 q_v8
  refine lv_istore (lv' := [(4, .int v8), (3, .int i1), (2, .int 1), (0, .ref o0), (1, .int i1)]) hx hb dX7_inverse_10 hl (by decide) rfl (fun ls hl => ?_)
  exact wL12 _ _ _ _ _ _ _ _ _ hwp hz (lv_sub hl [3, 2, 1, 0] rfl)

def wp_X7_isPrime_20 (K : Cx) (i0 : Int32) (I : TI) (L : TL) (A : TA) (x1 : Int32) (x2 : Int32) (Q : Int32 → TI → TL → TA → Prop) : Prop := ∃ (Inv : Nat → TI → TL → TA → Int32 → Int32 → Prop) (μ : Nat), Inv μ I L A x1 x2 ∧ ∀ (μ : Nat) (C20 : TI → TL → TA → Int32 → Int32 → Prop), (∀ (μ' : Nat) (I : TI) (L : TL) (A : TA) (x1 : Int32) (x2 : Int32) , μ' < μ → Inv μ' I L A x1 x2 → C20 I L A x1 x2) → ∀ (I : TI) (L : TL) (A : TA) (x1 : Int32) (x2 : Int32) , Inv μ I L A x1 x2 → ((i0 < (x2 * x2) → (x1 = 0 ∨ x1 = 1) ∧ Q x1 I L A) ∧ (¬ i0 < (x2 * x2) → ((x1 = 0 → (x1 = 0 ∨ x1 = 1) ∧ Q x1 I L A) ∧ (¬ x1 = 0 → ¬ x2 = 0 ∧ (((i0 - i0 / x2 * x2) = 0 → ∀ v2 : Int32, v2 = x2 + 1 → C20 I L A 0 v2) ∧ (¬ (i0 - i0 / x2 * x2) = 0 → ∀ v3 : Int32, v3 = x2 + 1 → C20 I L A 1 v3))))))
def wp_X7_isPrime (K : Cx) (I : TI) (L : TL) (A : TA) (i0 : Int32) (Q : Int32 → TI → TL → TA → Prop) : Prop := ((i0 < 2 → wp_X7_isPrime_20 K i0 I L A 0 2 Q) ∧ (¬ i0 < 2 → ((997 < i0 → wp_X7_isPrime_20 K i0 I L A 0 2 Q) ∧ (¬ 997 < i0 → wp_X7_isPrime_20 K i0 I L A 1 2 Q))))
set_option maxHeartbeats 1000000 in
set_option maxRecDepth 100000 in
theorem w_X7_isPrime (K : Cx) (I : TI) (L : TL) (A : TA) (i0 : Int32) (Q : Int32 → TI → TL → TA → Prop) (hwp : wp_X7_isPrime K I L A i0 Q) : ConI K yX7_isPrime wsX7_isPrime 0 0 I L A [.int i0] Q := by
  intro hK sz
  refine Met.ofW (cc := cX7_isPrime) (maxL := 3) (ret := (some .boolean)) (by decide) rfl ?_
  intro p e s m args below meth c s₁ B hml hv
  obtain ⟨rfl, hsz, hB⟩ := hv
  have hx := B.exec
  have hb := B.bytes
  have hret := B.returns
  have hts := atoms_spec (ws := wsX7_isPrime) B.pre
  have hown : s.vm.findClass RX7 = some m.cls := findClass_of_methodNamed B.named
  have hlocks := B.notSynchronized
  subst hsz
  have hz : SS K s I L A s.heap [] := PS.start hB
  have hl := lv_entry ([.int i0]) (n := 3) (Nat.le_of_ble_eq_true rfl)
  rw [lg_entry_eq]
  generalize (lg_sl ([.int i0]) ++ List.replicate (3 - (lg_sl ([.int i0])).length) Slot.unset).toArray = ls at hl ⊢
  have hl : lv_has ls 3 [(0, .int i0)] := hl
  clear hB B
  have wL20 : ∀ (I : TI) (L : TL) (A : TA) (x1 : Int32) (x2 : Int32) (H : Heap) (locs : List Loc) (ls : Array Slot), wp_X7_isPrime_20 K i0 I L A x1 x2 Q → SS K s I L A H locs → lv_has ls 3 [(0, .int i0), (1, .int x1), (2, .int x2)] → W p (cxl K) e (headSpec wsX7_isPrime (rmF 0 0)).room s m ([.int i0] : List Value).toArray below meth c H locs 0 0 (MQ below (cxQi K Q) ([.int i0] : List Value).toArray s 0 0 (PA (cxb K))) (F0 m 20 ls []) := by
    intro I L A x1 x2 H locs ls hwp hz hl
    obtain ⟨Inv, μ, hi, hst⟩ := hwp
    have key : ∀ (μ : Nat) (I : TI) (L : TL) (A : TA) (x1 : Int32) (x2 : Int32) (H : Heap) (locs : List Loc) (ls : Array Slot), Inv μ I L A x1 x2 → SS K s I L A H locs → lv_has ls 3 [(0, .int i0), (1, .int x1), (2, .int x2)] → W p (cxl K) e (headSpec wsX7_isPrime (rmF 0 0)).room s m ([.int i0] : List Value).toArray below meth c H locs 0 0 (MQ below (cxQi K Q) ([.int i0] : List Value).toArray s 0 0 (PA (cxb K))) (F0 m 20 ls []) := by
      clear hi hz hl
      intro μ
      induction μ using Nat.strongRecOn with | ind μ ih => ?_
      intro I L A x1 x2 H locs ls hi hz hl
      obtain ⟨C20, hCd⟩ : ∃ C : TI → TL → TA → Int32 → Int32 → Prop, C = fun I L A x1 x2 => ∃ μ', μ' < μ ∧ Inv μ' I L A x1 x2 := ⟨_, rfl⟩
      have hC20 : ∀ (I : TI) (L : TL) (A : TA) (x1 : Int32) (x2 : Int32) (H : Heap) (locs : List Loc) (ls : Array Slot), C20 I L A x1 x2 → SS K s I L A H locs → lv_has ls 3 [(0, .int i0), (1, .int x1), (2, .int x2)] → W p (cxl K) e (headSpec wsX7_isPrime (rmF 0 0)).room s m ([.int i0] : List Value).toArray below meth c H locs 0 0 (MQ below (cxQi K Q) ([.int i0] : List Value).toArray s 0 0 (PA (cxb K))) (F0 m 20 ls []) := by
        intro I L A x1 x2 H locs ls hc hz hl
        rw [hCd] at hc
        obtain ⟨μ', hlt, hc⟩ := hc
        exact ih μ' hlt I L A x1 x2 H locs ls hc hz hl
      have hwp := hst μ C20 (fun μ' I L A x1 x2 hlt hc => by rw [hCd]; exact ⟨μ', hlt, hc⟩) I L A x1 x2 hi
      refine lv_iload_n hx hb dX7_isPrime_20 rfl (lv_at hl 2 rfl) ?_
      refine lv_iload_n hx hb dX7_isPrime_21 rfl (lv_at hl 2 rfl) ?_
      refine lv_imul hx hb dX7_isPrime_22 ?_
      refine lv_iload_n hx hb dX7_isPrime_23 rfl (lv_at hl 0 rfl) ?_
      refine lv_icmp_gt (tgt := 49) hx hb dX7_isPrime_24 (by decide) (fun q => ?_) (fun q => ?_)
      · have hwp := hwp.1 q
        refine lv_iload_n hx hb dX7_isPrime_49 rfl (lv_at hl 1 rfl) ?_
        exact sw_zret hx hb hret hlocks hz hwp.1 hwp.2 dX7_isPrime_50
      · have hwp := hwp.2 q
        refine lv_iload_n hx hb dX7_isPrime_27 rfl (lv_at hl 1 rfl) ?_
        refine lv_if_eq (tgt := 49) hx hb dX7_isPrime_28 (by decide) (fun q => ?_) (fun q => ?_)
        · have hwp := hwp.1 q
          refine lv_iload_n hx hb dX7_isPrime_49 rfl (lv_at hl 1 rfl) ?_
          exact sw_zret hx hb hret hlocks hz hwp.1 hwp.2 dX7_isPrime_50
        · have hwp := hwp.2 q
          refine lv_iload_n hx hb dX7_isPrime_31 rfl (lv_at hl 0 rfl) ?_
          refine lv_iload_n hx hb dX7_isPrime_32 rfl (lv_at hl 2 rfl) ?_
          obtain ⟨hn1, hwp⟩ := hwp
          refine lv_irem hx hb dX7_isPrime_33 hn1 ?_
          refine lv_if_eq (tgt := 41) hx hb dX7_isPrime_34 (by decide) (fun q => ?_) (fun q => ?_)
          · have hwp := hwp.1 q
            refine lv_iconst (v := 0) hx hb dX7_isPrime_41 (by decide) ?_
            refine lv_istore_n (lv' := [(1, .int 0), (0, .int i0), (2, .int x2)]) hx hb dX7_isPrime_42 rfl hl (by decide) rfl (fun ls hl => ?_)
            obtain ⟨v2, q_v2⟩ : ∃ y : Int32, y = x2 + 1 := ⟨_, rfl⟩
            have hwp := hwp v2 q_v2
            refine lv_iinc (v := v2) (lv' := [(2, .int v2), (1, .int 0), (0, .int i0)]) hx hb dX7_isPrime_43 hl (k := 2) rfl (by rw [q_v2]; rfl) (by decide) rfl (fun ls hl => ?_)
            refine lv_goto (tgt := 20) hx hb dX7_isPrime_46 (by decide) ?_
            exact hC20 _ _ _ _ _ _ _ _ hwp hz (lv_sub hl [2, 1, 0] rfl)
          · have hwp := hwp.2 q
            refine lv_iconst (v := 1) hx hb dX7_isPrime_37 (by decide) ?_
            refine lv_goto (tgt := 42) hx hb dX7_isPrime_38 (by decide) ?_
            refine lv_istore_n (lv' := [(1, .int 1), (0, .int i0), (2, .int x2)]) hx hb dX7_isPrime_42 rfl hl (by decide) rfl (fun ls hl => ?_)
            obtain ⟨v3, q_v3⟩ : ∃ y : Int32, y = x2 + 1 := ⟨_, rfl⟩
            have hwp := hwp v3 q_v3
            refine lv_iinc (v := v3) (lv' := [(2, .int v3), (1, .int 1), (0, .int i0)]) hx hb dX7_isPrime_43 hl (k := 2) rfl (by rw [q_v3]; rfl) (by decide) rfl (fun ls hl => ?_)
            refine lv_goto (tgt := 20) hx hb dX7_isPrime_46 (by decide) ?_
            exact hC20 _ _ _ _ _ _ _ _ hwp hz (lv_sub hl [2, 1, 0] rfl)
    exact key μ I L A x1 x2 H locs ls hi hz hl
  refine lv_iload_n hx hb dX7_isPrime_0 rfl (lv_at hl 0 rfl) ?_
  refine lv_iconst (v := 2) hx hb dX7_isPrime_1 (by decide) ?_
  refine lv_icmp_lt (tgt := 16) hx hb dX7_isPrime_2 (by decide) (fun q => ?_) (fun q => ?_)
  · have hwp := hwp.1 q
    refine lv_iconst (v := 0) hx hb dX7_isPrime_16 (by decide) ?_
    refine lv_istore_n (lv' := [(1, .int 0), (0, .int i0)]) hx hb dX7_isPrime_17 rfl hl (by decide) rfl (fun ls hl => ?_)
    refine lv_iconst (v := 2) hx hb dX7_isPrime_18 (by decide) ?_
    refine lv_istore_n (lv' := [(2, .int 2), (1, .int 0), (0, .int i0)]) hx hb dX7_isPrime_19 rfl hl (by decide) rfl (fun ls hl => ?_)
    exact wL20 _ _ _ _ _ _ _ _ hwp hz (lv_sub hl [2, 1, 0] rfl)
  · have hwp := hwp.2 q
    refine lv_iload_n hx hb dX7_isPrime_5 rfl (lv_at hl 0 rfl) ?_
    refine lv_sipush (v := 997) hx hb dX7_isPrime_6 (by decide) ?_
    refine lv_icmp_gt (tgt := 16) hx hb dX7_isPrime_9 (by decide) (fun q => ?_) (fun q => ?_)
    · have hwp := hwp.1 q
      refine lv_iconst (v := 0) hx hb dX7_isPrime_16 (by decide) ?_
      refine lv_istore_n (lv' := [(1, .int 0), (0, .int i0)]) hx hb dX7_isPrime_17 rfl hl (by decide) rfl (fun ls hl => ?_)
      refine lv_iconst (v := 2) hx hb dX7_isPrime_18 (by decide) ?_
      refine lv_istore_n (lv' := [(2, .int 2), (1, .int 0), (0, .int i0)]) hx hb dX7_isPrime_19 rfl hl (by decide) rfl (fun ls hl => ?_)
      exact wL20 _ _ _ _ _ _ _ _ hwp hz (lv_sub hl [2, 1, 0] rfl)
    · have hwp := hwp.2 q
      refine lv_iconst (v := 1) hx hb dX7_isPrime_12 (by decide) ?_
      refine lv_goto (tgt := 17) hx hb dX7_isPrime_13 (by decide) ?_
      refine lv_istore_n (lv' := [(1, .int 1), (0, .int i0)]) hx hb dX7_isPrime_17 rfl hl (by decide) rfl (fun ls hl => ?_)
      refine lv_iconst (v := 2) hx hb dX7_isPrime_18 (by decide) ?_
      refine lv_istore_n (lv' := [(2, .int 2), (1, .int 1), (0, .int i0)]) hx hb dX7_isPrime_19 rfl hl (by decide) rfl (fun ls hl => ?_)
      exact wL20 _ _ _ _ _ _ _ _ hwp hz (lv_sub hl [2, 1, 0] rfl)

def wp_X7_modDegree_3 (K : Cx) (o0 : Nat) (i1 : Int32) (I : TI) (L : TL) (A : TA) (x2 : Int32) (Q : Int32 → TI → TL → TA → Prop) : Prop := ∃ (Inv : Nat → TI → TL → TA → Int32 → Prop) (μ : Nat), Inv μ I L A x2 ∧ ∀ (μ : Nat) (C3 : TI → TL → TA → Int32 → Prop), (∀ (μ' : Nat) (I : TI) (L : TL) (A : TA) (x2 : Int32) , μ' < μ → Inv μ' I L A x2 → C3 I L A x2) → ∀ (I : TI) (L : TL) (A : TA) (x2 : Int32) , Inv μ I L A x2 → ((x2 < 0 → Q x2 I L A) ∧ (¬ x2 < 0 → cxS K o0 = shX7 o0 ∧ aok (cxS K) (o0 + 8) 0 ((16 * i1) + x2) ∧ (((I (o0 + 8) (ix ((16 * i1) + x2))) = 0 → ∀ v3 : Int32, v3 = x2 + (-1) → C3 I L A v3) ∧ (¬ (I (o0 + 8) (ix ((16 * i1) + x2))) = 0 → Q x2 I L A))))
def wp_X7_modDegree (K : Cx) (I : TI) (L : TL) (A : TA) (o0 : Nat) (i1 : Int32) (Q : Int32 → TI → TL → TA → Prop) : Prop := wp_X7_modDegree_3 K o0 i1 I L A 15 Q
set_option maxHeartbeats 1000000 in
set_option maxRecDepth 100000 in
theorem w_X7_modDegree (K : Cx) (I : TI) (L : TL) (A : TA) (o0 : Nat) (i1 : Int32) (Q : Int32 → TI → TL → TA → Prop) (hwp : wp_X7_modDegree K I L A o0 i1 Q) : ConI K yX7_modDegree wsX7_modDegree 0 0 I L A [.ref o0, .int i1] Q := by
  intro hK sz
  refine Met.ofW (cc := cX7_modDegree) (maxL := 3) (ret := (some .int)) (by decide) rfl ?_
  intro p e s m args below meth c s₁ B hml hv
  obtain ⟨rfl, hsz, hB⟩ := hv
  have hx := B.exec
  have hb := B.bytes
  have hret := B.returns
  have hts := atoms_spec (ws := wsX7_modDegree) B.pre
  have hown : s.vm.findClass RX7 = some m.cls := findClass_of_methodNamed B.named
  have hlocks := B.notSynchronized
  subst hsz
  have hz : SS K s I L A s.heap [] := PS.start hB
  have hl := lv_entry ([.ref o0, .int i1]) (n := 3) (Nat.le_of_ble_eq_true rfl)
  rw [lg_entry_eq]
  generalize (lg_sl ([.ref o0, .int i1]) ++ List.replicate (3 - (lg_sl ([.ref o0, .int i1])).length) Slot.unset).toArray = ls at hl ⊢
  have hl : lv_has ls 3 [(0, .ref o0), (1, .int i1)] := hl
  have hw0 : ∀ w ∈ u_ws RX7 TX7 25, w ∈ wsX7_modDegree := by decide +kernel
  have hw1 := hts (.fieldLink RX7 32 "GaloisDeskModel" "mod" "[I") (by decide +kernel)
  clear hB B
  have wL3 : ∀ (I : TI) (L : TL) (A : TA) (x2 : Int32) (H : Heap) (locs : List Loc) (ls : Array Slot), wp_X7_modDegree_3 K o0 i1 I L A x2 Q → SS K s I L A H locs → lv_has ls 3 [(0, .ref o0), (1, .int i1), (2, .int x2)] → W p (cxl K) e (headSpec wsX7_modDegree (rmF 0 0)).room s m ([.ref o0, .int i1] : List Value).toArray below meth c H locs 0 0 (MQ below (cxQi K Q) ([.ref o0, .int i1] : List Value).toArray s 0 0 (PA (cxb K))) (F0 m 3 ls []) := by
    intro I L A x2 H locs ls hwp hz hl
    obtain ⟨Inv, μ, hi, hst⟩ := hwp
    have key : ∀ (μ : Nat) (I : TI) (L : TL) (A : TA) (x2 : Int32) (H : Heap) (locs : List Loc) (ls : Array Slot), Inv μ I L A x2 → SS K s I L A H locs → lv_has ls 3 [(0, .ref o0), (1, .int i1), (2, .int x2)] → W p (cxl K) e (headSpec wsX7_modDegree (rmF 0 0)).room s m ([.ref o0, .int i1] : List Value).toArray below meth c H locs 0 0 (MQ below (cxQi K Q) ([.ref o0, .int i1] : List Value).toArray s 0 0 (PA (cxb K))) (F0 m 3 ls []) := by
      clear hi hz hl
      intro μ
      induction μ using Nat.strongRecOn with | ind μ ih => ?_
      intro I L A x2 H locs ls hi hz hl
      obtain ⟨C3, hCd⟩ : ∃ C : TI → TL → TA → Int32 → Prop, C = fun I L A x2 => ∃ μ', μ' < μ ∧ Inv μ' I L A x2 := ⟨_, rfl⟩
      have hC3 : ∀ (I : TI) (L : TL) (A : TA) (x2 : Int32) (H : Heap) (locs : List Loc) (ls : Array Slot), C3 I L A x2 → SS K s I L A H locs → lv_has ls 3 [(0, .ref o0), (1, .int i1), (2, .int x2)] → W p (cxl K) e (headSpec wsX7_modDegree (rmF 0 0)).room s m ([.ref o0, .int i1] : List Value).toArray below meth c H locs 0 0 (MQ below (cxQi K Q) ([.ref o0, .int i1] : List Value).toArray s 0 0 (PA (cxb K))) (F0 m 3 ls []) := by
        intro I L A x2 H locs ls hc hz hl
        rw [hCd] at hc
        obtain ⟨μ', hlt, hc⟩ := hc
        exact ih μ' hlt I L A x2 H locs ls hc hz hl
      have hwp := hst μ C3 (fun μ' I L A x2 hlt hc => by rw [hCd]; exact ⟨μ', hlt, hc⟩) I L A x2 hi
      refine lv_iload_n hx hb dX7_modDegree_3 rfl (lv_at hl 2 rfl) ?_
      refine lv_if_lt (tgt := 27) hx hb dX7_modDegree_4 (by decide) (fun q => ?_) (fun q => ?_)
      · have hwp := hwp.1 q
        refine lv_iload_n hx hb dX7_modDegree_27 rfl (lv_at hl 2 rfl) ?_
        exact sw_iret hx hb hret hlocks hz hwp dX7_modDegree_28
      · have hwp := hwp.2 q
        refine lv_aload_n hx hb dX7_modDegree_7 rfl (lv_at hl 0 rfl) ?_
        obtain ⟨hs1, hwp⟩ := hwp
        refine sw_get (C := RX7) (T := TX7) (N := 25) (v := .ref (o0 + 8)) hx hb hts hw0 hown hK hz hs1 rfl 18 (by decide) hw1 (fun _ h9 => h9) rfl dX7_modDegree_8 ?_
        refine lv_bipush (v := 16) hx hb dX7_modDegree_11 (by decide) ?_
        refine lv_iload_n hx hb dX7_modDegree_13 rfl (lv_at hl 1 rfl) ?_
        refine lv_imul hx hb dX7_modDegree_14 ?_
        refine lv_iload_n hx hb dX7_modDegree_15 rfl (lv_at hl 2 rfl) ?_
        refine lv_iadd hx hb dX7_modDegree_16 ?_
        obtain ⟨ho2, hwp⟩ := hwp
        refine sw_iald hx hb hK hz ho2 dX7_modDegree_17 ?_
        refine lv_if_ne (tgt := 27) hx hb dX7_modDegree_18 (by decide) (fun q => ?_) (fun q => ?_)
        · have hwp := hwp.2 q
          refine lv_iload_n hx hb dX7_modDegree_27 rfl (lv_at hl 2 rfl) ?_
          exact sw_iret hx hb hret hlocks hz hwp dX7_modDegree_28
        · have hwp := hwp.1 q
          obtain ⟨v3, q_v3⟩ : ∃ y : Int32, y = x2 + (-1) := ⟨_, rfl⟩
          have hwp := hwp v3 q_v3
          refine lv_iinc (v := v3) (lv' := [(2, .int v3), (0, .ref o0), (1, .int i1)]) hx hb dX7_modDegree_21 hl (k := 2) rfl (by rw [q_v3]; rfl) (by decide) rfl (fun ls hl => ?_)
          refine lv_goto (tgt := 3) hx hb dX7_modDegree_24 (by decide) ?_
          exact hC3 _ _ _ _ _ _ _ hwp hz (lv_sub hl [1, 2, 0] rfl)
    exact key μ I L A x2 H locs ls hi hz hl
  refine lv_bipush (v := 15) hx hb dX7_modDegree_0 (by decide) ?_
  refine lv_istore_n (lv' := [(2, .int 15), (0, .ref o0), (1, .int i1)]) hx hb dX7_modDegree_2 rfl hl (by decide) rfl (fun ls hl => ?_)
  exact wL3 _ _ _ _ _ _ _ hwp hz (lv_sub hl [1, 2, 0] rfl)

def wp_X7_reduce_105 (K : Cx) (o0 : Nat) (i1 : Int32) (i2 : Int32) (C60 : TI → TL → TA → Int32 → Int32 → Int32 → Prop) (I : TI) (L : TL) (A : TA) (x3 : Int32) (x4 : Int32) (x5 : Int32) (x6 : Int32) (x7 : Int32) (Q : TI → TL → TA → Prop) : Prop := ∃ (Inv : Nat → TI → TL → TA → Int32 → Int32 → Int32 → Int32 → Int32 → Prop) (μ : Nat), Inv μ I L A x3 x4 x5 x6 x7 ∧ ∀ (μ : Nat) (C105 : TI → TL → TA → Int32 → Int32 → Int32 → Int32 → Int32 → Prop), (∀ (μ' : Nat) (I : TI) (L : TL) (A : TA) (x3 : Int32) (x4 : Int32) (x5 : Int32) (x6 : Int32) (x7 : Int32) , μ' < μ → Inv μ' I L A x3 x4 x5 x6 x7 → C105 I L A x3 x4 x5 x6 x7) → ∀ (I : TI) (L : TL) (A : TA) (x3 : Int32) (x4 : Int32) (x5 : Int32) (x6 : Int32) (x7 : Int32) , Inv μ I L A x3 x4 x5 x6 x7 → ((x3 < x7 → ∀ v1 : Int32, v1 = x5 + (-1) → C60 I L A x3 x4 v1) ∧ (¬ x3 < x7 → cxS K o0 = shX7 o0 ∧ aok (cxS K) (o0 + 8) 0 (((16 * i1) + x5) + x7) ∧ aok (cxS K) (o0 + 8) 0 ((16 * i2) + x7) ∧ ¬ (I o0 19) = 0 ∧ aok (cxS K) (o0 + 8) 0 (((16 * i1) + x5) + x7) ∧ ∀ I7 : TI, I7 = u2 I (o0 + 8) (ix (((16 * i1) + x5) + x7)) (((I (o0 + 8) (ix (((16 * i1) + x5) + x7))) + (((I o0 19) - x6) * (I (o0 + 8) (ix ((16 * i2) + x7))))) - ((I (o0 + 8) (ix (((16 * i1) + x5) + x7))) + (((I o0 19) - x6) * (I (o0 + 8) (ix ((16 * i2) + x7))))) / (I o0 19) * (I o0 19)) → ∀ v8 : Int32, v8 = x7 + 1 → C105 I7 L A x3 x4 x5 x6 v8))
def wp_X7_reduce_60 (K : Cx) (o0 : Nat) (i1 : Int32) (i2 : Int32) (I : TI) (L : TL) (A : TA) (x3 : Int32) (x4 : Int32) (x5 : Int32) (Q : TI → TL → TA → Prop) : Prop := ∃ (Inv : Nat → TI → TL → TA → Int32 → Int32 → Int32 → Prop) (μ : Nat), Inv μ I L A x3 x4 x5 ∧ ∀ (μ : Nat) (C60 : TI → TL → TA → Int32 → Int32 → Int32 → Prop), (∀ (μ' : Nat) (I : TI) (L : TL) (A : TA) (x3 : Int32) (x4 : Int32) (x5 : Int32) , μ' < μ → Inv μ' I L A x3 x4 x5 → C60 I L A x3 x4 x5) → ∀ (I : TI) (L : TL) (A : TA) (x3 : Int32) (x4 : Int32) (x5 : Int32) , Inv μ I L A x3 x4 x5 → ((x5 < 0 → Q I L A) ∧ (¬ x5 < 0 → cxS K o0 = shX7 o0 ∧ aok (cxS K) (o0 + 8) 0 (((16 * i1) + x5) + x3) ∧ ¬ (I o0 19) = 0 ∧ ∀ v12 : Int32, v12 = (((I (o0 + 8) (ix (((16 * i1) + x5) + x3))) * x4) - ((I (o0 + 8) (ix (((16 * i1) + x5) + x3))) * x4) / (I o0 19) * (I o0 19)) → aok (cxS K) (o0 + 8) 0 (144 + x5) ∧ ∀ I14 : TI, I14 = u2 I (o0 + 8) (ix (144 + x5)) v12 → wp_X7_reduce_105 K o0 i1 i2 C60 I14 L A x3 x4 x5 v12 0 Q))
def wp_X7_reduce_26 (K : Cx) (o0 : Nat) (i1 : Int32) (i2 : Int32) (I : TI) (L : TL) (A : TA) (x3 : Int32) (x4 : Int32) (x5 : Int32) (Q : TI → TL → TA → Prop) : Prop := ∃ (Inv : Nat → TI → TL → TA → Int32 → Int32 → Int32 → Prop) (μ : Nat), Inv μ I L A x3 x4 x5 ∧ ∀ (μ : Nat) (C26 : TI → TL → TA → Int32 → Int32 → Int32 → Prop), (∀ (μ' : Nat) (I : TI) (L : TL) (A : TA) (x3 : Int32) (x4 : Int32) (x5 : Int32) , μ' < μ → Inv μ' I L A x3 x4 x5 → C26 I L A x3 x4 x5) → ∀ (I : TI) (L : TL) (A : TA) (x3 : Int32) (x4 : Int32) (x5 : Int32) , Inv μ I L A x3 x4 x5 → ((16 ≤ x5 → cxS K o0 = shX7 o0 ∧ ∃ P16 : Int32 → TI → TL → TA → Prop, ConI K yX7_modDegree wsX7_modDegree 0 0 I L A [.ref o0, .int i1] P16 ∧ ∀ (r21 : Int32) (I18 : TI) (L19 : TL) (A20 : TA), P16 r21 I18 L19 A20 → ∀ v22 : Int32, v22 = (r21 - x3) → wp_X7_reduce_60 K o0 i1 i2 I18 L19 A20 x3 x4 v22 Q) ∧ (¬ 16 ≤ x5 → cxS K o0 = shX7 o0 ∧ aok (cxS K) (o0 + 8) 0 (144 + x5) ∧ ∀ I25 : TI, I25 = u2 I (o0 + 8) (ix (144 + x5)) 0 → ∀ v26 : Int32, v26 = x5 + 1 → C26 I25 L A x3 x4 v26))
def wp_X7_reduce (K : Cx) (I : TI) (L : TL) (A : TA) (o0 : Nat) (i1 : Int32) (i2 : Int32) (Q : TI → TL → TA → Prop) : Prop := cxS K o0 = shX7 o0 ∧ ∃ P28 : Int32 → TI → TL → TA → Prop, ConI K yX7_modDegree wsX7_modDegree 0 0 I L A [.ref o0, .int i2] P28 ∧ ∀ (r33 : Int32) (I30 : TI) (L31 : TL) (A32 : TA), P28 r33 I30 L31 A32 → aok (cxS K) (o0 + 8) 0 ((16 * i2) + r33) ∧ ∃ P35 : Int32 → TI → TL → TA → Prop, ConI K yX7_inverse wsX7_inverse 0 0 I30 L31 A32 [.ref o0, .int (I30 (o0 + 8) (ix ((16 * i2) + r33)))] P35 ∧ ∀ (r40 : Int32) (I37 : TI) (L38 : TL) (A39 : TA), P35 r40 I37 L38 A39 → wp_X7_reduce_26 K o0 i1 i2 I37 L38 A39 r33 r40 0 Q
set_option maxHeartbeats 1000000 in
set_option maxRecDepth 100000 in
theorem w_X7_reduce (K : Cx) (I : TI) (L : TL) (A : TA) (o0 : Nat) (i1 : Int32) (i2 : Int32) (Q : TI → TL → TA → Prop) (hwp : wp_X7_reduce K I L A o0 i1 i2 Q) : ConV K yX7_reduce wsX7_reduce 1 24 I L A [.ref o0, .int i1, .int i2] Q := by
  intro hK sz
  refine Met.ofW (cc := cX7_reduce) (maxL := 8) (ret := none) (by decide) rfl ?_
  intro p e s m args below meth c s₁ B hml hv
  obtain ⟨rfl, hsz, hB⟩ := hv
  have hx := B.exec
  have hb := B.bytes
  have hret := B.returns
  have hts := atoms_spec (ws := wsX7_reduce) B.pre
  have hown : s.vm.findClass RX7 = some m.cls := findClass_of_methodNamed B.named
  have hlocks := B.notSynchronized
  subst hsz
  have hz : SS K s I L A s.heap [] := PS.start hB
  have hl := lv_entry ([.ref o0, .int i1, .int i2]) (n := 8) (Nat.le_of_ble_eq_true rfl)
  rw [lg_entry_eq]
  generalize (lg_sl ([.ref o0, .int i1, .int i2]) ++ List.replicate (8 - (lg_sl ([.ref o0, .int i1, .int i2])).length) Slot.unset).toArray = ls at hl ⊢
  have hl : lv_has ls 8 [(0, .ref o0), (1, .int i1), (2, .int i2)] := hl
  have hw0 : ∀ w ∈ u_ws RX7 TX7 25, w ∈ wsX7_reduce := by decide +kernel
  have hw1 := hts (.fieldLink RX7 32 "GaloisDeskModel" "mod" "[I") (by decide +kernel)
  have hw2 := hts (.fieldLink RX7 167 "GaloisDeskModel" "prime" "I") (by decide +kernel)
  clear hB B
  have wL105 : ∀ (C60 : TI → TL → TA → Int32 → Int32 → Int32 → Prop) (hC60 : ∀ (I : TI) (L : TL) (A : TA) (x3 : Int32) (x4 : Int32) (x5 : Int32) (H : Heap) (locs : List Loc) (ls : Array Slot), C60 I L A x3 x4 x5 → SS K s I L A H locs → lv_has ls 8 [(0, .ref o0), (1, .int i1), (2, .int i2), (3, .int x3), (4, .int x4), (5, .int x5)] → W p (cxl K) e (headSpec wsX7_reduce (rmF 1 24)).room s m ([.ref o0, .int i1, .int i2] : List Value).toArray below meth c H locs 0 0 (MQ below (cxQv K Q) ([.ref o0, .int i1, .int i2] : List Value).toArray s 0 0 (PA (cxb K))) (F0 m 60 ls [])) (I : TI) (L : TL) (A : TA) (x3 : Int32) (x4 : Int32) (x5 : Int32) (x6 : Int32) (x7 : Int32) (H : Heap) (locs : List Loc) (ls : Array Slot), wp_X7_reduce_105 K o0 i1 i2 C60 I L A x3 x4 x5 x6 x7 Q → SS K s I L A H locs → lv_has ls 8 [(0, .ref o0), (1, .int i1), (2, .int i2), (3, .int x3), (4, .int x4), (5, .int x5), (6, .int x6), (7, .int x7)] → W p (cxl K) e (headSpec wsX7_reduce (rmF 1 24)).room s m ([.ref o0, .int i1, .int i2] : List Value).toArray below meth c H locs 0 0 (MQ below (cxQv K Q) ([.ref o0, .int i1, .int i2] : List Value).toArray s 0 0 (PA (cxb K))) (F0 m 105 ls []) := by
    intro C60 hC60 I L A x3 x4 x5 x6 x7 H locs ls hwp hz hl
    obtain ⟨Inv, μ, hi, hst⟩ := hwp
    have key : ∀ (μ : Nat) (I : TI) (L : TL) (A : TA) (x3 : Int32) (x4 : Int32) (x5 : Int32) (x6 : Int32) (x7 : Int32) (H : Heap) (locs : List Loc) (ls : Array Slot), Inv μ I L A x3 x4 x5 x6 x7 → SS K s I L A H locs → lv_has ls 8 [(0, .ref o0), (1, .int i1), (2, .int i2), (3, .int x3), (4, .int x4), (5, .int x5), (6, .int x6), (7, .int x7)] → W p (cxl K) e (headSpec wsX7_reduce (rmF 1 24)).room s m ([.ref o0, .int i1, .int i2] : List Value).toArray below meth c H locs 0 0 (MQ below (cxQv K Q) ([.ref o0, .int i1, .int i2] : List Value).toArray s 0 0 (PA (cxb K))) (F0 m 105 ls []) := by
      clear hi hz hl
      intro μ
      induction μ using Nat.strongRecOn with | ind μ ih => ?_
      intro I L A x3 x4 x5 x6 x7 H locs ls hi hz hl
      obtain ⟨C105, hCd⟩ : ∃ C : TI → TL → TA → Int32 → Int32 → Int32 → Int32 → Int32 → Prop, C = fun I L A x3 x4 x5 x6 x7 => ∃ μ', μ' < μ ∧ Inv μ' I L A x3 x4 x5 x6 x7 := ⟨_, rfl⟩
      have hC105 : ∀ (I : TI) (L : TL) (A : TA) (x3 : Int32) (x4 : Int32) (x5 : Int32) (x6 : Int32) (x7 : Int32) (H : Heap) (locs : List Loc) (ls : Array Slot), C105 I L A x3 x4 x5 x6 x7 → SS K s I L A H locs → lv_has ls 8 [(0, .ref o0), (1, .int i1), (2, .int i2), (3, .int x3), (4, .int x4), (5, .int x5), (6, .int x6), (7, .int x7)] → W p (cxl K) e (headSpec wsX7_reduce (rmF 1 24)).room s m ([.ref o0, .int i1, .int i2] : List Value).toArray below meth c H locs 0 0 (MQ below (cxQv K Q) ([.ref o0, .int i1, .int i2] : List Value).toArray s 0 0 (PA (cxb K))) (F0 m 105 ls []) := by
        intro I L A x3 x4 x5 x6 x7 H locs ls hc hz hl
        rw [hCd] at hc
        obtain ⟨μ', hlt, hc⟩ := hc
        exact ih μ' hlt I L A x3 x4 x5 x6 x7 H locs ls hc hz hl
      have hwp := hst μ C105 (fun μ' I L A x3 x4 x5 x6 x7 hlt hc => by rw [hCd]; exact ⟨μ', hlt, hc⟩) I L A x3 x4 x5 x6 x7 hi
      refine lv_iload hx hb dX7_reduce_105 (lv_at hl 7 rfl) ?_
      refine lv_iload_n hx hb dX7_reduce_107 rfl (lv_at hl 3 rfl) ?_
      refine lv_icmp_gt (tgt := 173) hx hb dX7_reduce_108 (by decide) (fun q => ?_) (fun q => ?_)
      · have hwp := hwp.1 q
        obtain ⟨v1, q_v1⟩ : ∃ y : Int32, y = x5 + (-1) := ⟨_, rfl⟩
        have hwp := hwp v1 q_v1
        refine lv_iinc (v := v1) (lv' := [(5, .int v1), (0, .ref o0), (1, .int i1), (2, .int i2), (3, .int x3), (4, .int x4), (6, .int x6), (7, .int x7)]) hx hb dX7_reduce_173 hl (k := 5) rfl (by rw [q_v1]; rfl) (by decide) rfl (fun ls hl => ?_)
        refine lv_goto (tgt := 60) hx hb dX7_reduce_176 (by decide) ?_
        exact hC60 _ _ _ _ _ _ _ _ _ hwp hz (lv_sub hl [1, 2, 3, 4, 5, 0] rfl)
      · have hwp := hwp.2 q
        refine lv_aload_n hx hb dX7_reduce_111 rfl (lv_at hl 0 rfl) ?_
        obtain ⟨hs2, hwp⟩ := hwp
        refine sw_get (C := RX7) (T := TX7) (N := 25) (v := .ref (o0 + 8)) hx hb hts hw0 hown hK hz hs2 rfl 18 (by decide) hw1 (fun _ h9 => h9) rfl dX7_reduce_112 ?_
        refine lv_bipush (v := 16) hx hb dX7_reduce_115 (by decide) ?_
        refine lv_iload_n hx hb dX7_reduce_117 rfl (lv_at hl 1 rfl) ?_
        refine lv_imul hx hb dX7_reduce_118 ?_
        refine lv_iload hx hb dX7_reduce_119 (lv_at hl 5 rfl) ?_
        refine lv_iadd hx hb dX7_reduce_121 ?_
        refine lv_iload hx hb dX7_reduce_122 (lv_at hl 7 rfl) ?_
        refine lv_iadd hx hb dX7_reduce_124 ?_
        refine lv_aload_n hx hb dX7_reduce_125 rfl (lv_at hl 0 rfl) ?_
        refine sw_get (C := RX7) (T := TX7) (N := 25) (v := .ref (o0 + 8)) hx hb hts hw0 hown hK hz hs2 rfl 18 (by decide) hw1 (fun _ h9 => h9) rfl dX7_reduce_126 ?_
        refine lv_bipush (v := 16) hx hb dX7_reduce_129 (by decide) ?_
        refine lv_iload_n hx hb dX7_reduce_131 rfl (lv_at hl 1 rfl) ?_
        refine lv_imul hx hb dX7_reduce_132 ?_
        refine lv_iload hx hb dX7_reduce_133 (lv_at hl 5 rfl) ?_
        refine lv_iadd hx hb dX7_reduce_135 ?_
        refine lv_iload hx hb dX7_reduce_136 (lv_at hl 7 rfl) ?_
        refine lv_iadd hx hb dX7_reduce_138 ?_
        obtain ⟨ho3, hwp⟩ := hwp
        refine sw_iald hx hb hK hz ho3 dX7_reduce_139 ?_
        refine lv_aload_n hx hb dX7_reduce_140 rfl (lv_at hl 0 rfl) ?_
        refine sw_get (C := RX7) (T := TX7) (N := 25) (v := .int (I o0 19)) hx hb hts hw0 hown hK hz hs2 rfl 19 (by decide) hw2 (fun _ h9 => h9) rfl dX7_reduce_141 ?_
        refine lv_iload hx hb dX7_reduce_144 (lv_at hl 6 rfl) ?_
        refine lv_isub hx hb dX7_reduce_146 ?_
        refine lv_aload_n hx hb dX7_reduce_147 rfl (lv_at hl 0 rfl) ?_
        refine sw_get (C := RX7) (T := TX7) (N := 25) (v := .ref (o0 + 8)) hx hb hts hw0 hown hK hz hs2 rfl 18 (by decide) hw1 (fun _ h9 => h9) rfl dX7_reduce_148 ?_
        refine lv_bipush (v := 16) hx hb dX7_reduce_151 (by decide) ?_
        refine lv_iload_n hx hb dX7_reduce_153 rfl (lv_at hl 2 rfl) ?_
        refine lv_imul hx hb dX7_reduce_154 ?_
        refine lv_iload hx hb dX7_reduce_155 (lv_at hl 7 rfl) ?_
        refine lv_iadd hx hb dX7_reduce_157 ?_
        obtain ⟨ho4, hwp⟩ := hwp
        refine sw_iald hx hb hK hz ho4 dX7_reduce_158 ?_
        refine lv_imul hx hb dX7_reduce_159 ?_
        refine lv_iadd hx hb dX7_reduce_160 ?_
        refine lv_aload_n hx hb dX7_reduce_161 rfl (lv_at hl 0 rfl) ?_
        refine sw_get (C := RX7) (T := TX7) (N := 25) (v := .int (I o0 19)) hx hb hts hw0 hown hK hz hs2 rfl 19 (by decide) hw2 (fun _ h9 => h9) rfl dX7_reduce_162 ?_
        obtain ⟨hn5, hwp⟩ := hwp
        refine lv_irem hx hb dX7_reduce_165 hn5 ?_
        obtain ⟨ho6, hwp⟩ := hwp
        refine sw_iast hx hb hK hz ho6 dX7_reduce_166 (fun H locs I7 e_I7 hz => ?_)
        have hwp := hwp I7 e_I7
        obtain ⟨v8, q_v8⟩ : ∃ y : Int32, y = x7 + 1 := ⟨_, rfl⟩
        have hwp := hwp v8 q_v8
        refine lv_iinc (v := v8) (lv' := [(7, .int v8), (0, .ref o0), (1, .int i1), (2, .int i2), (3, .int x3), (4, .int x4), (5, .int x5), (6, .int x6)]) hx hb dX7_reduce_167 hl (k := 7) rfl (by rw [q_v8]; rfl) (by decide) rfl (fun ls hl => ?_)
        refine lv_goto (tgt := 105) hx hb dX7_reduce_170 (by decide) ?_
        exact hC105 _ _ _ _ _ _ _ _ _ _ _ hwp hz (lv_sub hl [1, 2, 3, 4, 5, 6, 7, 0] rfl)
    exact key μ I L A x3 x4 x5 x6 x7 H locs ls hi hz hl
  have wL60 : ∀ (I : TI) (L : TL) (A : TA) (x3 : Int32) (x4 : Int32) (x5 : Int32) (H : Heap) (locs : List Loc) (ls : Array Slot), wp_X7_reduce_60 K o0 i1 i2 I L A x3 x4 x5 Q → SS K s I L A H locs → lv_has ls 8 [(0, .ref o0), (1, .int i1), (2, .int i2), (3, .int x3), (4, .int x4), (5, .int x5)] → W p (cxl K) e (headSpec wsX7_reduce (rmF 1 24)).room s m ([.ref o0, .int i1, .int i2] : List Value).toArray below meth c H locs 0 0 (MQ below (cxQv K Q) ([.ref o0, .int i1, .int i2] : List Value).toArray s 0 0 (PA (cxb K))) (F0 m 60 ls []) := by
    intro I L A x3 x4 x5 H locs ls hwp hz hl
    obtain ⟨Inv, μ, hi, hst⟩ := hwp
    have key : ∀ (μ : Nat) (I : TI) (L : TL) (A : TA) (x3 : Int32) (x4 : Int32) (x5 : Int32) (H : Heap) (locs : List Loc) (ls : Array Slot), Inv μ I L A x3 x4 x5 → SS K s I L A H locs → lv_has ls 8 [(0, .ref o0), (1, .int i1), (2, .int i2), (3, .int x3), (4, .int x4), (5, .int x5)] → W p (cxl K) e (headSpec wsX7_reduce (rmF 1 24)).room s m ([.ref o0, .int i1, .int i2] : List Value).toArray below meth c H locs 0 0 (MQ below (cxQv K Q) ([.ref o0, .int i1, .int i2] : List Value).toArray s 0 0 (PA (cxb K))) (F0 m 60 ls []) := by
      clear hi hz hl
      intro μ
      induction μ using Nat.strongRecOn with | ind μ ih => ?_
      intro I L A x3 x4 x5 H locs ls hi hz hl
      obtain ⟨C60, hCd⟩ : ∃ C : TI → TL → TA → Int32 → Int32 → Int32 → Prop, C = fun I L A x3 x4 x5 => ∃ μ', μ' < μ ∧ Inv μ' I L A x3 x4 x5 := ⟨_, rfl⟩
      have hC60 : ∀ (I : TI) (L : TL) (A : TA) (x3 : Int32) (x4 : Int32) (x5 : Int32) (H : Heap) (locs : List Loc) (ls : Array Slot), C60 I L A x3 x4 x5 → SS K s I L A H locs → lv_has ls 8 [(0, .ref o0), (1, .int i1), (2, .int i2), (3, .int x3), (4, .int x4), (5, .int x5)] → W p (cxl K) e (headSpec wsX7_reduce (rmF 1 24)).room s m ([.ref o0, .int i1, .int i2] : List Value).toArray below meth c H locs 0 0 (MQ below (cxQv K Q) ([.ref o0, .int i1, .int i2] : List Value).toArray s 0 0 (PA (cxb K))) (F0 m 60 ls []) := by
        intro I L A x3 x4 x5 H locs ls hc hz hl
        rw [hCd] at hc
        obtain ⟨μ', hlt, hc⟩ := hc
        exact ih μ' hlt I L A x3 x4 x5 H locs ls hc hz hl
      have hwp := hst μ C60 (fun μ' I L A x3 x4 x5 hlt hc => by rw [hCd]; exact ⟨μ', hlt, hc⟩) I L A x3 x4 x5 hi
      refine lv_iload hx hb dX7_reduce_60 (lv_at hl 5 rfl) ?_
      refine lv_if_lt (tgt := 179) hx hb dX7_reduce_62 (by decide) (fun q => ?_) (fun q => ?_)
      · have hwp := hwp.1 q
        exact sw_vret hx hb hret hlocks hz hwp dX7_reduce_179
      · have hwp := hwp.2 q
        refine lv_aload_n hx hb dX7_reduce_65 rfl (lv_at hl 0 rfl) ?_
        obtain ⟨hs9, hwp⟩ := hwp
        refine sw_get (C := RX7) (T := TX7) (N := 25) (v := .ref (o0 + 8)) hx hb hts hw0 hown hK hz hs9 rfl 18 (by decide) hw1 (fun _ h9 => h9) rfl dX7_reduce_66 ?_
        refine lv_bipush (v := 16) hx hb dX7_reduce_69 (by decide) ?_
        refine lv_iload_n hx hb dX7_reduce_71 rfl (lv_at hl 1 rfl) ?_
        refine lv_imul hx hb dX7_reduce_72 ?_
        refine lv_iload hx hb dX7_reduce_73 (lv_at hl 5 rfl) ?_
        refine lv_iadd hx hb dX7_reduce_75 ?_
        refine lv_iload_n hx hb dX7_reduce_76 rfl (lv_at hl 3 rfl) ?_
        refine lv_iadd hx hb dX7_reduce_77 ?_
        obtain ⟨ho10, hwp⟩ := hwp
        refine sw_iald hx hb hK hz ho10 dX7_reduce_78 ?_
        refine lv_iload hx hb dX7_reduce_79 (lv_at hl 4 rfl) ?_
        refine lv_imul hx hb dX7_reduce_81 ?_
        refine lv_aload_n hx hb dX7_reduce_82 rfl (lv_at hl 0 rfl) ?_
        refine sw_get (C := RX7) (T := TX7) (N := 25) (v := .int (I o0 19)) hx hb hts hw0 hown hK hz hs9 rfl 19 (by decide) hw2 (fun _ h9 => h9) rfl dX7_reduce_83 ?_
        obtain ⟨hn11, hwp⟩ := hwp
        refine lv_irem hx hb dX7_reduce_86 hn11 ?_
        refine lv_topi (fun v12 q_v12 => ?_)
        have hwp := hwp v12 q_v12
        refine lv_istore (lv' := [(6, .int v12), (0, .ref o0), (1, .int i1), (2, .int i2), (3, .int x3), (4, .int x4), (5, .int x5)]) hx hb dX7_reduce_87 hl (by decide) rfl (fun ls hl => ?_)
        refine lv_aload_n hx hb dX7_reduce_89 rfl (lv_at hl 1 rfl) ?_
        refine sw_get (C := RX7) (T := TX7) (N := 25) (v := .ref (o0 + 8)) hx hb hts hw0 hown hK hz hs9 rfl 18 (by decide) hw1 (fun _ h9 => h9) rfl dX7_reduce_90 ?_
        refine lv_sipush (v := 144) hx hb dX7_reduce_93 (by decide) ?_
        refine lv_iload hx hb dX7_reduce_96 (lv_at hl 6 rfl) ?_
        refine lv_iadd hx hb dX7_reduce_98 ?_
        refine lv_iload hx hb dX7_reduce_99 (lv_at hl 0 rfl) ?_
        obtain ⟨ho13, hwp⟩ := hwp
        refine sw_iast hx hb hK hz ho13 dX7_reduce_101 (fun H locs I14 e_I14 hz => ?_)
        have hwp := hwp I14 e_I14
        refine lv_iconst (v := 0) hx hb dX7_reduce_102 (by decide) ?_
        refine lv_istore (lv' := [(7, .int 0), (6, .int v12), (0, .ref o0), (1, .int i1), (2, .int i2), (3, .int x3), (4, .int x4), (5, .int x5)]) hx hb dX7_reduce_103 hl (by decide) rfl (fun ls hl => ?_)
        exact wL105 _ hC60 _ _ _ _ _ _ _ _ _ _ _ hwp hz (lv_sub hl [2, 3, 4, 5, 6, 7, 1, 0] rfl)
    exact key μ I L A x3 x4 x5 H locs ls hi hz hl
  have wL26 : ∀ (I : TI) (L : TL) (A : TA) (x3 : Int32) (x4 : Int32) (x5 : Int32) (H : Heap) (locs : List Loc) (ls : Array Slot), wp_X7_reduce_26 K o0 i1 i2 I L A x3 x4 x5 Q → SS K s I L A H locs → lv_has ls 8 [(0, .ref o0), (1, .int i1), (2, .int i2), (3, .int x3), (4, .int x4), (5, .int x5)] → W p (cxl K) e (headSpec wsX7_reduce (rmF 1 24)).room s m ([.ref o0, .int i1, .int i2] : List Value).toArray below meth c H locs 0 0 (MQ below (cxQv K Q) ([.ref o0, .int i1, .int i2] : List Value).toArray s 0 0 (PA (cxb K))) (F0 m 26 ls []) := by
    intro I L A x3 x4 x5 H locs ls hwp hz hl
    obtain ⟨Inv, μ, hi, hst⟩ := hwp
    have key : ∀ (μ : Nat) (I : TI) (L : TL) (A : TA) (x3 : Int32) (x4 : Int32) (x5 : Int32) (H : Heap) (locs : List Loc) (ls : Array Slot), Inv μ I L A x3 x4 x5 → SS K s I L A H locs → lv_has ls 8 [(0, .ref o0), (1, .int i1), (2, .int i2), (3, .int x3), (4, .int x4), (5, .int x5)] → W p (cxl K) e (headSpec wsX7_reduce (rmF 1 24)).room s m ([.ref o0, .int i1, .int i2] : List Value).toArray below meth c H locs 0 0 (MQ below (cxQv K Q) ([.ref o0, .int i1, .int i2] : List Value).toArray s 0 0 (PA (cxb K))) (F0 m 26 ls []) := by
      clear hi hz hl
      intro μ
      induction μ using Nat.strongRecOn with | ind μ ih => ?_
      intro I L A x3 x4 x5 H locs ls hi hz hl
      obtain ⟨C26, hCd⟩ : ∃ C : TI → TL → TA → Int32 → Int32 → Int32 → Prop, C = fun I L A x3 x4 x5 => ∃ μ', μ' < μ ∧ Inv μ' I L A x3 x4 x5 := ⟨_, rfl⟩
      have hC26 : ∀ (I : TI) (L : TL) (A : TA) (x3 : Int32) (x4 : Int32) (x5 : Int32) (H : Heap) (locs : List Loc) (ls : Array Slot), C26 I L A x3 x4 x5 → SS K s I L A H locs → lv_has ls 8 [(0, .ref o0), (1, .int i1), (2, .int i2), (3, .int x3), (4, .int x4), (5, .int x5)] → W p (cxl K) e (headSpec wsX7_reduce (rmF 1 24)).room s m ([.ref o0, .int i1, .int i2] : List Value).toArray below meth c H locs 0 0 (MQ below (cxQv K Q) ([.ref o0, .int i1, .int i2] : List Value).toArray s 0 0 (PA (cxb K))) (F0 m 26 ls []) := by
        intro I L A x3 x4 x5 H locs ls hc hz hl
        rw [hCd] at hc
        obtain ⟨μ', hlt, hc⟩ := hc
        exact ih μ' hlt I L A x3 x4 x5 H locs ls hc hz hl
      have hwp := hst μ C26 (fun μ' I L A x3 x4 x5 hlt hc => by rw [hCd]; exact ⟨μ', hlt, hc⟩) I L A x3 x4 x5 hi
      refine lv_iload hx hb dX7_reduce_26 (lv_at hl 5 rfl) ?_
      refine lv_bipush (v := 16) hx hb dX7_reduce_28 (by decide) ?_
      refine lv_icmp_ge (tgt := 51) hx hb dX7_reduce_30 (by decide) (fun q => ?_) (fun q => ?_)
      · have hwp := hwp.1 q
        refine lv_aload_n hx hb dX7_reduce_51 rfl (lv_at hl 0 rfl) ?_
        refine lv_iload_n hx hb dX7_reduce_52 rfl (lv_at hl 1 rfl) ?_
        obtain ⟨hs15, hwp⟩ := hwp
        obtain ⟨P16, hc17, hwp⟩ := hwp
        refine sw_calli hz (va_runV (As := [.int i1]) (rest := []) ⟨hx, hb, hml, hown, hts⟩ (hc17 hK _) (cwV 1 hts gX7_reduce_X7_modDegree rfl rfl rfl (by decide +kernel) ⟨Nat.le_of_ble_eq_true rfl, Nat.le_of_ble_eq_true rfl⟩) (hz.preV hK hs15 rfl) rfl rfl hl.1 rfl (lv_room (Nat.le_of_ble_eq_true rfl)) dX7_reduce_53 ⟨Nat.le_of_ble_eq_true rfl, Nat.le_of_ble_eq_true rfl⟩) (fun r21 I18 L19 A20 H locs hp hz => ?_)
        have hwp := hwp r21 I18 L19 A20 hp
        refine lv_iload_n hx hb dX7_reduce_56 rfl (lv_at hl 3 rfl) ?_
        refine lv_isub hx hb dX7_reduce_57 ?_
        refine lv_topi (fun v22 q_v22 => ?_)
        have hwp := hwp v22 q_v22
        refine lv_istore (lv' := [(5, .int v22), (0, .ref o0), (1, .int i1), (2, .int i2), (3, .int x3), (4, .int x4)]) hx hb dX7_reduce_58 hl (by decide) rfl (fun ls hl => ?_)
        exact wL60 _ _ _ _ _ _ _ _ _ hwp hz (lv_sub hl [1, 2, 3, 4, 5, 0] rfl)
      · have hwp := hwp.2 q
        refine lv_aload_n hx hb dX7_reduce_33 rfl (lv_at hl 0 rfl) ?_
        obtain ⟨hs23, hwp⟩ := hwp
        refine sw_get (C := RX7) (T := TX7) (N := 25) (v := .ref (o0 + 8)) hx hb hts hw0 hown hK hz hs23 rfl 18 (by decide) hw1 (fun _ h9 => h9) rfl dX7_reduce_34 ?_
        refine lv_sipush (v := 144) hx hb dX7_reduce_37 (by decide) ?_
        refine lv_iload hx hb dX7_reduce_40 (lv_at hl 5 rfl) ?_
        refine lv_iadd hx hb dX7_reduce_42 ?_
        refine lv_iconst (v := 0) hx hb dX7_reduce_43 (by decide) ?_
        obtain ⟨ho24, hwp⟩ := hwp
        refine sw_iast hx hb hK hz ho24 dX7_reduce_44 (fun H locs I25 e_I25 hz => ?_)
        have hwp := hwp I25 e_I25
        obtain ⟨v26, q_v26⟩ : ∃ y : Int32, y = x5 + 1 := ⟨_, rfl⟩
        have hwp := hwp v26 q_v26
        refine lv_iinc (v := v26) (lv' := [(5, .int v26), (0, .ref o0), (1, .int i1), (2, .int i2), (3, .int x3), (4, .int x4)]) hx hb dX7_reduce_45 hl (k := 5) rfl (by rw [q_v26]; rfl) (by decide) rfl (fun ls hl => ?_)
        refine lv_goto (tgt := 26) hx hb dX7_reduce_48 (by decide) ?_
        exact hC26 _ _ _ _ _ _ _ _ _ hwp hz (lv_sub hl [1, 2, 3, 4, 5, 0] rfl)
    exact key μ I L A x3 x4 x5 H locs ls hi hz hl
  refine lv_aload_n hx hb dX7_reduce_0 rfl (lv_at hl 0 rfl) ?_
  refine lv_iload_n hx hb dX7_reduce_1 rfl (lv_at hl 2 rfl) ?_
  obtain ⟨hs27, hwp⟩ := hwp
  obtain ⟨P28, hc29, hwp⟩ := hwp
  refine sw_calli hz (va_runV (As := [.int i2]) (rest := []) ⟨hx, hb, hml, hown, hts⟩ (hc29 hK _) (cwV 1 hts gX7_reduce_X7_modDegree rfl rfl rfl (by decide +kernel) ⟨Nat.le_of_ble_eq_true rfl, Nat.le_of_ble_eq_true rfl⟩) (hz.preV hK hs27 rfl) rfl rfl hl.1 rfl (lv_room (Nat.le_of_ble_eq_true rfl)) dX7_reduce_2 ⟨Nat.le_of_ble_eq_true rfl, Nat.le_of_ble_eq_true rfl⟩) (fun r33 I30 L31 A32 H locs hp hz => ?_)
  have hwp := hwp r33 I30 L31 A32 hp
  refine lv_istore_n (lv' := [(3, .int r33), (0, .ref o0), (1, .int i1), (2, .int i2)]) hx hb dX7_reduce_5 rfl hl (by decide) rfl (fun ls hl => ?_)
  refine lv_aload_n hx hb dX7_reduce_6 rfl (lv_at hl 1 rfl) ?_
  refine lv_aload_n hx hb dX7_reduce_7 rfl (lv_at hl 1 rfl) ?_
  refine sw_get (C := RX7) (T := TX7) (N := 25) (v := .ref (o0 + 8)) hx hb hts hw0 hown hK hz hs27 rfl 18 (by decide) hw1 (fun _ h9 => h9) rfl dX7_reduce_8 ?_
  refine lv_bipush (v := 16) hx hb dX7_reduce_11 (by decide) ?_
  refine lv_iload_n hx hb dX7_reduce_13 rfl (lv_at hl 3 rfl) ?_
  refine lv_imul hx hb dX7_reduce_14 ?_
  refine lv_iload_n hx hb dX7_reduce_15 rfl (lv_at hl 0 rfl) ?_
  refine lv_iadd hx hb dX7_reduce_16 ?_
  obtain ⟨ho34, hwp⟩ := hwp
  refine sw_iald hx hb hK hz ho34 dX7_reduce_17 ?_
  obtain ⟨P35, hc36, hwp⟩ := hwp
  refine sw_calli hz (va_runV (As := [.int (I30 (o0 + 8) (ix ((16 * i2) + r33)))]) (rest := []) ⟨hx, hb, hml, hown, hts⟩ (hc36 hK _) (cwV 1 hts gX7_reduce_X7_inverse rfl rfl rfl (by decide +kernel) ⟨Nat.le_of_ble_eq_true rfl, Nat.le_of_ble_eq_true rfl⟩) (hz.preV hK hs27 rfl) rfl rfl hl.1 rfl (lv_room (Nat.le_of_ble_eq_true rfl)) dX7_reduce_18 ⟨Nat.le_of_ble_eq_true rfl, Nat.le_of_ble_eq_true rfl⟩) (fun r40 I37 L38 A39 H locs hp hz => ?_)
  have hwp := hwp r40 I37 L38 A39 hp
  refine lv_istore (lv' := [(4, .int r40), (3, .int r33), (0, .ref o0), (1, .int i1), (2, .int i2)]) hx hb dX7_reduce_21 hl (by decide) rfl (fun ls hl => ?_)
  refine lv_iconst (v := 0) hx hb dX7_reduce_23 (by decide) ?_
  refine lv_istore (lv' := [(5, .int 0), (4, .int r40), (3, .int r33), (0, .ref o0), (1, .int i1), (2, .int i2)]) hx hb dX7_reduce_24 hl (by decide) rfl (fun ls hl => ?_)
  exact wL26 _ _ _ _ _ _ _ _ _ hwp hz (lv_sub hl [3, 4, 5, 2, 1, 0] rfl)

def wp_X7_modCopy_2 (K : Cx) (o0 : Nat) (i1 : Int32) (i2 : Int32) (I : TI) (L : TL) (A : TA) (x3 : Int32) (Q : TI → TL → TA → Prop) : Prop := ∃ (Inv : Nat → TI → TL → TA → Int32 → Prop) (μ : Nat), Inv μ I L A x3 ∧ ∀ (μ : Nat) (C2 : TI → TL → TA → Int32 → Prop), (∀ (μ' : Nat) (I : TI) (L : TL) (A : TA) (x3 : Int32) , μ' < μ → Inv μ' I L A x3 → C2 I L A x3) → ∀ (I : TI) (L : TL) (A : TA) (x3 : Int32) , Inv μ I L A x3 → ((16 ≤ x3 → Q I L A) ∧ (¬ 16 ≤ x3 → cxS K o0 = shX7 o0 ∧ aok (cxS K) (o0 + 8) 0 ((16 * i2) + x3) ∧ aok (cxS K) (o0 + 8) 0 ((16 * i1) + x3) ∧ ∀ I4 : TI, I4 = u2 I (o0 + 8) (ix ((16 * i1) + x3)) (I (o0 + 8) (ix ((16 * i2) + x3))) → ∀ v5 : Int32, v5 = x3 + 1 → C2 I4 L A v5))
def wp_X7_modCopy (K : Cx) (I : TI) (L : TL) (A : TA) (o0 : Nat) (i1 : Int32) (i2 : Int32) (Q : TI → TL → TA → Prop) : Prop := wp_X7_modCopy_2 K o0 i1 i2 I L A 0 Q
set_option maxHeartbeats 1000000 in
set_option maxRecDepth 100000 in
theorem w_X7_modCopy (K : Cx) (I : TI) (L : TL) (A : TA) (o0 : Nat) (i1 : Int32) (i2 : Int32) (Q : TI → TL → TA → Prop) (hwp : wp_X7_modCopy K I L A o0 i1 i2 Q) : ConV K yX7_modCopy wsX7_modCopy 0 0 I L A [.ref o0, .int i1, .int i2] Q := by
  intro hK sz
  refine Met.ofW (cc := cX7_modCopy) (maxL := 4) (ret := none) (by decide) rfl ?_
  intro p e s m args below meth c s₁ B hml hv
  obtain ⟨rfl, hsz, hB⟩ := hv
  have hx := B.exec
  have hb := B.bytes
  have hret := B.returns
  have hts := atoms_spec (ws := wsX7_modCopy) B.pre
  have hown : s.vm.findClass RX7 = some m.cls := findClass_of_methodNamed B.named
  have hlocks := B.notSynchronized
  subst hsz
  have hz : SS K s I L A s.heap [] := PS.start hB
  have hl := lv_entry ([.ref o0, .int i1, .int i2]) (n := 4) (Nat.le_of_ble_eq_true rfl)
  rw [lg_entry_eq]
  generalize (lg_sl ([.ref o0, .int i1, .int i2]) ++ List.replicate (4 - (lg_sl ([.ref o0, .int i1, .int i2])).length) Slot.unset).toArray = ls at hl ⊢
  have hl : lv_has ls 4 [(0, .ref o0), (1, .int i1), (2, .int i2)] := hl
  have hw0 : ∀ w ∈ u_ws RX7 TX7 25, w ∈ wsX7_modCopy := by decide +kernel
  have hw1 := hts (.fieldLink RX7 32 "GaloisDeskModel" "mod" "[I") (by decide +kernel)
  clear hB B
  have wL2 : ∀ (I : TI) (L : TL) (A : TA) (x3 : Int32) (H : Heap) (locs : List Loc) (ls : Array Slot), wp_X7_modCopy_2 K o0 i1 i2 I L A x3 Q → SS K s I L A H locs → lv_has ls 4 [(0, .ref o0), (1, .int i1), (2, .int i2), (3, .int x3)] → W p (cxl K) e (headSpec wsX7_modCopy (rmF 0 0)).room s m ([.ref o0, .int i1, .int i2] : List Value).toArray below meth c H locs 0 0 (MQ below (cxQv K Q) ([.ref o0, .int i1, .int i2] : List Value).toArray s 0 0 (PA (cxb K))) (F0 m 2 ls []) := by
    intro I L A x3 H locs ls hwp hz hl
    obtain ⟨Inv, μ, hi, hst⟩ := hwp
    have key : ∀ (μ : Nat) (I : TI) (L : TL) (A : TA) (x3 : Int32) (H : Heap) (locs : List Loc) (ls : Array Slot), Inv μ I L A x3 → SS K s I L A H locs → lv_has ls 4 [(0, .ref o0), (1, .int i1), (2, .int i2), (3, .int x3)] → W p (cxl K) e (headSpec wsX7_modCopy (rmF 0 0)).room s m ([.ref o0, .int i1, .int i2] : List Value).toArray below meth c H locs 0 0 (MQ below (cxQv K Q) ([.ref o0, .int i1, .int i2] : List Value).toArray s 0 0 (PA (cxb K))) (F0 m 2 ls []) := by
      clear hi hz hl
      intro μ
      induction μ using Nat.strongRecOn with | ind μ ih => ?_
      intro I L A x3 H locs ls hi hz hl
      obtain ⟨C2, hCd⟩ : ∃ C : TI → TL → TA → Int32 → Prop, C = fun I L A x3 => ∃ μ', μ' < μ ∧ Inv μ' I L A x3 := ⟨_, rfl⟩
      have hC2 : ∀ (I : TI) (L : TL) (A : TA) (x3 : Int32) (H : Heap) (locs : List Loc) (ls : Array Slot), C2 I L A x3 → SS K s I L A H locs → lv_has ls 4 [(0, .ref o0), (1, .int i1), (2, .int i2), (3, .int x3)] → W p (cxl K) e (headSpec wsX7_modCopy (rmF 0 0)).room s m ([.ref o0, .int i1, .int i2] : List Value).toArray below meth c H locs 0 0 (MQ below (cxQv K Q) ([.ref o0, .int i1, .int i2] : List Value).toArray s 0 0 (PA (cxb K))) (F0 m 2 ls []) := by
        intro I L A x3 H locs ls hc hz hl
        rw [hCd] at hc
        obtain ⟨μ', hlt, hc⟩ := hc
        exact ih μ' hlt I L A x3 H locs ls hc hz hl
      have hwp := hst μ C2 (fun μ' I L A x3 hlt hc => by rw [hCd]; exact ⟨μ', hlt, hc⟩) I L A x3 hi
      refine lv_iload_n hx hb dX7_modCopy_2 rfl (lv_at hl 3 rfl) ?_
      refine lv_bipush (v := 16) hx hb dX7_modCopy_3 (by decide) ?_
      refine lv_icmp_ge (tgt := 36) hx hb dX7_modCopy_5 (by decide) (fun q => ?_) (fun q => ?_)
      · have hwp := hwp.1 q
        exact sw_vret hx hb hret hlocks hz hwp dX7_modCopy_36
      · have hwp := hwp.2 q
        refine lv_aload_n hx hb dX7_modCopy_8 rfl (lv_at hl 0 rfl) ?_
        obtain ⟨hs1, hwp⟩ := hwp
        refine sw_get (C := RX7) (T := TX7) (N := 25) (v := .ref (o0 + 8)) hx hb hts hw0 hown hK hz hs1 rfl 18 (by decide) hw1 (fun _ h9 => h9) rfl dX7_modCopy_9 ?_
        refine lv_bipush (v := 16) hx hb dX7_modCopy_12 (by decide) ?_
        refine lv_iload_n hx hb dX7_modCopy_14 rfl (lv_at hl 1 rfl) ?_
        refine lv_imul hx hb dX7_modCopy_15 ?_
        refine lv_iload_n hx hb dX7_modCopy_16 rfl (lv_at hl 3 rfl) ?_
        refine lv_iadd hx hb dX7_modCopy_17 ?_
        refine lv_aload_n hx hb dX7_modCopy_18 rfl (lv_at hl 0 rfl) ?_
        refine sw_get (C := RX7) (T := TX7) (N := 25) (v := .ref (o0 + 8)) hx hb hts hw0 hown hK hz hs1 rfl 18 (by decide) hw1 (fun _ h9 => h9) rfl dX7_modCopy_19 ?_
        refine lv_bipush (v := 16) hx hb dX7_modCopy_22 (by decide) ?_
        refine lv_iload_n hx hb dX7_modCopy_24 rfl (lv_at hl 2 rfl) ?_
        refine lv_imul hx hb dX7_modCopy_25 ?_
        refine lv_iload_n hx hb dX7_modCopy_26 rfl (lv_at hl 3 rfl) ?_
        refine lv_iadd hx hb dX7_modCopy_27 ?_
        obtain ⟨ho2, hwp⟩ := hwp
        refine sw_iald hx hb hK hz ho2 dX7_modCopy_28 ?_
        obtain ⟨ho3, hwp⟩ := hwp
        refine sw_iast hx hb hK hz ho3 dX7_modCopy_29 (fun H locs I4 e_I4 hz => ?_)
        have hwp := hwp I4 e_I4
        obtain ⟨v5, q_v5⟩ : ∃ y : Int32, y = x3 + 1 := ⟨_, rfl⟩
        have hwp := hwp v5 q_v5
        refine lv_iinc (v := v5) (lv' := [(3, .int v5), (0, .ref o0), (1, .int i1), (2, .int i2)]) hx hb dX7_modCopy_30 hl (k := 3) rfl (by rw [q_v5]; rfl) (by decide) rfl (fun ls hl => ?_)
        refine lv_goto (tgt := 2) hx hb dX7_modCopy_33 (by decide) ?_
        exact hC2 _ _ _ _ _ _ _ hwp hz (lv_sub hl [1, 2, 3, 0] rfl)
    exact key μ I L A x3 H locs ls hi hz hl
  refine lv_iconst (v := 0) hx hb dX7_modCopy_0 (by decide) ?_
  refine lv_istore_n (lv' := [(3, .int 0), (0, .ref o0), (1, .int i1), (2, .int i2)]) hx hb dX7_modCopy_1 rfl hl (by decide) rfl (fun ls hl => ?_)
  exact wL2 _ _ _ _ _ _ _ hwp hz (lv_sub hl [1, 2, 3, 0] rfl)

def wp_X7_modCommon_0 (K : Cx) (o0 : Nat) (I : TI) (L : TL) (A : TA) (Q : TI → TL → TA → Prop) : Prop := ∃ (Inv : Nat → TI → TL → TA → Prop) (μ : Nat), Inv μ I L A ∧ ∀ (μ : Nat) (C0 : TI → TL → TA → Prop), (∀ (μ' : Nat) (I : TI) (L : TL) (A : TA) , μ' < μ → Inv μ' I L A → C0 I L A) → ∀ (I : TI) (L : TL) (A : TA) , Inv μ I L A → cxS K o0 = shX7 o0 ∧ ∃ P2 : Int32 → TI → TL → TA → Prop, ConI K yX7_modDegree wsX7_modDegree 0 0 I L A [.ref o0, .int 2] P2 ∧ ∀ (r7 : Int32) (I4 : TI) (L5 : TL) (A6 : TA), P2 r7 I4 L5 A6 → ((r7 < 0 → ∃ P8 : TI → TL → TA → Prop, ConV K yX7_modCopy wsX7_modCopy 0 0 I4 L5 A6 [.ref o0, .int 3, .int 1] P8 ∧ ∀ (I10 : TI) (L11 : TL) (A12 : TA), P8 I10 L11 A12 → Q I10 L11 A12) ∧ (¬ r7 < 0 → ∃ P13 : TI → TL → TA → Prop, ConV K yX7_reduce wsX7_reduce 1 24 I4 L5 A6 [.ref o0, .int 1, .int 2] P13 ∧ ∀ (I15 : TI) (L16 : TL) (A17 : TA), P13 I15 L16 A17 → ∃ P18 : TI → TL → TA → Prop, ConV K yX7_modCopy wsX7_modCopy 0 0 I15 L16 A17 [.ref o0, .int 3, .int 1] P18 ∧ ∀ (I20 : TI) (L21 : TL) (A22 : TA), P18 I20 L21 A22 → ∃ P23 : TI → TL → TA → Prop, ConV K yX7_modCopy wsX7_modCopy 0 0 I20 L21 A22 [.ref o0, .int 1, .int 2] P23 ∧ ∀ (I25 : TI) (L26 : TL) (A27 : TA), P23 I25 L26 A27 → ∃ P28 : TI → TL → TA → Prop, ConV K yX7_modCopy wsX7_modCopy 0 0 I25 L26 A27 [.ref o0, .int 2, .int 3] P28 ∧ ∀ (I30 : TI) (L31 : TL) (A32 : TA), P28 I30 L31 A32 → C0 I30 L31 A32))
def wp_X7_modCommon (K : Cx) (I : TI) (L : TL) (A : TA) (o0 : Nat) (Q : TI → TL → TA → Prop) : Prop := wp_X7_modCommon_0 K o0 I L A Q
set_option maxHeartbeats 1000000 in
set_option maxRecDepth 100000 in
theorem w_X7_modCommon (K : Cx) (I : TI) (L : TL) (A : TA) (o0 : Nat) (Q : TI → TL → TA → Prop) (hwp : wp_X7_modCommon K I L A o0 Q) : ConV K yX7_modCommon wsX7_modCommon 2 51 I L A [.ref o0] Q := by
  intro hK sz
  refine Met.ofW (cc := cX7_modCommon) (maxL := 1) (ret := none) (by decide) rfl ?_
  intro p e s m args below meth c s₁ B hml hv
  obtain ⟨rfl, hsz, hB⟩ := hv
  have hx := B.exec
  have hb := B.bytes
  have hret := B.returns
  have hts := atoms_spec (ws := wsX7_modCommon) B.pre
  have hown : s.vm.findClass RX7 = some m.cls := findClass_of_methodNamed B.named
  have hlocks := B.notSynchronized
  subst hsz
  have hz : SS K s I L A s.heap [] := PS.start hB
  have hl := lv_entry ([.ref o0]) (n := 1) (Nat.le_of_ble_eq_true rfl)
  rw [lg_entry_eq]
  generalize (lg_sl ([.ref o0]) ++ List.replicate (1 - (lg_sl ([.ref o0])).length) Slot.unset).toArray = ls at hl ⊢
  have hl : lv_has ls 1 [(0, .ref o0)] := hl
  clear hB B
  have wL0 : ∀ (I : TI) (L : TL) (A : TA) (H : Heap) (locs : List Loc) (ls : Array Slot), wp_X7_modCommon_0 K o0 I L A Q → SS K s I L A H locs → lv_has ls 1 [(0, .ref o0)] → W p (cxl K) e (headSpec wsX7_modCommon (rmF 2 51)).room s m ([.ref o0] : List Value).toArray below meth c H locs 0 0 (MQ below (cxQv K Q) ([.ref o0] : List Value).toArray s 0 0 (PA (cxb K))) (F0 m 0 ls []) := by
    intro I L A H locs ls hwp hz hl
    obtain ⟨Inv, μ, hi, hst⟩ := hwp
    have key : ∀ (μ : Nat) (I : TI) (L : TL) (A : TA) (H : Heap) (locs : List Loc) (ls : Array Slot), Inv μ I L A → SS K s I L A H locs → lv_has ls 1 [(0, .ref o0)] → W p (cxl K) e (headSpec wsX7_modCommon (rmF 2 51)).room s m ([.ref o0] : List Value).toArray below meth c H locs 0 0 (MQ below (cxQv K Q) ([.ref o0] : List Value).toArray s 0 0 (PA (cxb K))) (F0 m 0 ls []) := by
      clear hi hz hl
      intro μ
      induction μ using Nat.strongRecOn with | ind μ ih => ?_
      intro I L A H locs ls hi hz hl
      obtain ⟨C0, hCd⟩ : ∃ C : TI → TL → TA → Prop, C = fun I L A => ∃ μ', μ' < μ ∧ Inv μ' I L A := ⟨_, rfl⟩
      have hC0 : ∀ (I : TI) (L : TL) (A : TA) (H : Heap) (locs : List Loc) (ls : Array Slot), C0 I L A → SS K s I L A H locs → lv_has ls 1 [(0, .ref o0)] → W p (cxl K) e (headSpec wsX7_modCommon (rmF 2 51)).room s m ([.ref o0] : List Value).toArray below meth c H locs 0 0 (MQ below (cxQv K Q) ([.ref o0] : List Value).toArray s 0 0 (PA (cxb K))) (F0 m 0 ls []) := by
        intro I L A H locs ls hc hz hl
        rw [hCd] at hc
        obtain ⟨μ', hlt, hc⟩ := hc
        exact ih μ' hlt I L A H locs ls hc hz hl
      have hwp := hst μ C0 (fun μ' I L A hlt hc => by rw [hCd]; exact ⟨μ', hlt, hc⟩) I L A hi
      refine lv_aload_n hx hb dX7_modCommon_0 rfl (lv_at hl 0 rfl) ?_
      refine lv_iconst (v := 2) hx hb dX7_modCommon_1 (by decide) ?_
      obtain ⟨hs1, hwp⟩ := hwp
      obtain ⟨P2, hc3, hwp⟩ := hwp
      refine sw_calli hz (va_runV (As := [.int 2]) (rest := []) ⟨hx, hb, hml, hown, hts⟩ (hc3 hK _) (cwV 1 hts gX7_modCommon_X7_modDegree rfl rfl rfl (by decide +kernel) ⟨Nat.le_of_ble_eq_true rfl, Nat.le_of_ble_eq_true rfl⟩) (hz.preV hK hs1 rfl) rfl rfl hl.1 rfl (lv_room (Nat.le_of_ble_eq_true rfl)) dX7_modCommon_2 ⟨Nat.le_of_ble_eq_true rfl, Nat.le_of_ble_eq_true rfl⟩) (fun r7 I4 L5 A6 H locs hp hz => ?_)
      have hwp := hwp r7 I4 L5 A6 hp
      refine lv_if_lt (tgt := 35) hx hb dX7_modCommon_5 (by decide) (fun q => ?_) (fun q => ?_)
      · have hwp := hwp.1 q
        refine lv_aload_n hx hb dX7_modCommon_35 rfl (lv_at hl 0 rfl) ?_
        refine lv_iconst (v := 3) hx hb dX7_modCommon_36 (by decide) ?_
        refine lv_iconst (v := 1) hx hb dX7_modCommon_37 (by decide) ?_
        obtain ⟨P8, hc9, hwp⟩ := hwp
        refine sw_callv hz (va_runV (As := [.int 3, .int 1]) (rest := []) ⟨hx, hb, hml, hown, hts⟩ (hc9 hK _) (cwV 2 hts gX7_modCommon_X7_modCopy rfl rfl rfl (by decide +kernel) ⟨Nat.le_of_ble_eq_true rfl, Nat.le_of_ble_eq_true rfl⟩) (hz.preV hK hs1 rfl) rfl rfl hl.1 rfl (lv_room (Nat.le_of_ble_eq_true rfl)) dX7_modCommon_38 ⟨Nat.le_of_ble_eq_true rfl, Nat.le_of_ble_eq_true rfl⟩) (fun I10 L11 A12 H locs hp hz => ?_)
        have hwp := hwp I10 L11 A12 hp
        exact sw_vret hx hb hret hlocks hz hwp dX7_modCommon_41
      · have hwp := hwp.2 q
        refine lv_aload_n hx hb dX7_modCommon_8 rfl (lv_at hl 0 rfl) ?_
        refine lv_iconst (v := 1) hx hb dX7_modCommon_9 (by decide) ?_
        refine lv_iconst (v := 2) hx hb dX7_modCommon_10 (by decide) ?_
        obtain ⟨P13, hc14, hwp⟩ := hwp
        refine sw_callv hz (va_runV (As := [.int 1, .int 2]) (rest := []) ⟨hx, hb, hml, hown, hts⟩ (hc14 hK _) (cwV 2 hts gX7_modCommon_X7_reduce rfl rfl rfl (by decide +kernel) ⟨Nat.le_of_ble_eq_true rfl, Nat.le_of_ble_eq_true rfl⟩) (hz.preV hK hs1 rfl) rfl rfl hl.1 rfl (lv_room (Nat.le_of_ble_eq_true rfl)) dX7_modCommon_11 ⟨Nat.le_of_ble_eq_true rfl, Nat.le_of_ble_eq_true rfl⟩) (fun I15 L16 A17 H locs hp hz => ?_)
        have hwp := hwp I15 L16 A17 hp
        refine lv_aload_n hx hb dX7_modCommon_14 rfl (lv_at hl 0 rfl) ?_
        refine lv_iconst (v := 3) hx hb dX7_modCommon_15 (by decide) ?_
        refine lv_iconst (v := 1) hx hb dX7_modCommon_16 (by decide) ?_
        obtain ⟨P18, hc19, hwp⟩ := hwp
        refine sw_callv hz (va_runV (As := [.int 3, .int 1]) (rest := []) ⟨hx, hb, hml, hown, hts⟩ (hc19 hK _) (cwV 2 hts gX7_modCommon_X7_modCopy rfl rfl rfl (by decide +kernel) ⟨Nat.le_of_ble_eq_true rfl, Nat.le_of_ble_eq_true rfl⟩) (hz.preV hK hs1 rfl) rfl rfl hl.1 rfl (lv_room (Nat.le_of_ble_eq_true rfl)) dX7_modCommon_17 ⟨Nat.le_of_ble_eq_true rfl, Nat.le_of_ble_eq_true rfl⟩) (fun I20 L21 A22 H locs hp hz => ?_)
        have hwp := hwp I20 L21 A22 hp
        refine lv_aload_n hx hb dX7_modCommon_20 rfl (lv_at hl 0 rfl) ?_
        refine lv_iconst (v := 1) hx hb dX7_modCommon_21 (by decide) ?_
        refine lv_iconst (v := 2) hx hb dX7_modCommon_22 (by decide) ?_
        obtain ⟨P23, hc24, hwp⟩ := hwp
        refine sw_callv hz (va_runV (As := [.int 1, .int 2]) (rest := []) ⟨hx, hb, hml, hown, hts⟩ (hc24 hK _) (cwV 2 hts gX7_modCommon_X7_modCopy rfl rfl rfl (by decide +kernel) ⟨Nat.le_of_ble_eq_true rfl, Nat.le_of_ble_eq_true rfl⟩) (hz.preV hK hs1 rfl) rfl rfl hl.1 rfl (lv_room (Nat.le_of_ble_eq_true rfl)) dX7_modCommon_23 ⟨Nat.le_of_ble_eq_true rfl, Nat.le_of_ble_eq_true rfl⟩) (fun I25 L26 A27 H locs hp hz => ?_)
        have hwp := hwp I25 L26 A27 hp
        refine lv_aload_n hx hb dX7_modCommon_26 rfl (lv_at hl 0 rfl) ?_
        refine lv_iconst (v := 2) hx hb dX7_modCommon_27 (by decide) ?_
        refine lv_iconst (v := 3) hx hb dX7_modCommon_28 (by decide) ?_
        obtain ⟨P28, hc29, hwp⟩ := hwp
        refine sw_callv hz (va_runV (As := [.int 2, .int 3]) (rest := []) ⟨hx, hb, hml, hown, hts⟩ (hc29 hK _) (cwV 2 hts gX7_modCommon_X7_modCopy rfl rfl rfl (by decide +kernel) ⟨Nat.le_of_ble_eq_true rfl, Nat.le_of_ble_eq_true rfl⟩) (hz.preV hK hs1 rfl) rfl rfl hl.1 rfl (lv_room (Nat.le_of_ble_eq_true rfl)) dX7_modCommon_29 ⟨Nat.le_of_ble_eq_true rfl, Nat.le_of_ble_eq_true rfl⟩) (fun I30 L31 A32 H locs hp hz => ?_)
        have hwp := hwp I30 L31 A32 hp
        refine lv_goto (tgt := 0) hx hb dX7_modCommon_32 (by decide) ?_
        exact hC0 _ _ _ _ _ _ hwp hz (lv_sub hl [0] rfl)
    exact key μ I L A H locs ls hi hz hl
  exact wL0 _ _ _ _ _ _ hwp hz (lv_sub hl [0] rfl)

def wp_X7_modTimes_40 (K : Cx) (o0 : Nat) (i1 : Int32) (i2 : Int32) (i3 : Int32) (C30 : TI → TL → TA → Int32 → Prop) (I : TI) (L : TL) (A : TA) (x4 : Int32) (x5 : Int32) (Q : TI → TL → TA → Prop) : Prop := ∃ (Inv : Nat → TI → TL → TA → Int32 → Int32 → Prop) (μ : Nat), Inv μ I L A x4 x5 ∧ ∀ (μ : Nat) (C40 : TI → TL → TA → Int32 → Int32 → Prop), (∀ (μ' : Nat) (I : TI) (L : TL) (A : TA) (x4 : Int32) (x5 : Int32) , μ' < μ → Inv μ' I L A x4 x5 → C40 I L A x4 x5) → ∀ (I : TI) (L : TL) (A : TA) (x4 : Int32) (x5 : Int32) , Inv μ I L A x4 x5 → ((7 ≤ x5 → ∀ v1 : Int32, v1 = x4 + 1 → C30 I L A v1) ∧ (¬ 7 ≤ x5 → cxS K o0 = shX7 o0 ∧ aok (cxS K) (o0 + 8) 0 ((80 + x4) + x5) ∧ aok (cxS K) (o0 + 8) 0 ((16 * i2) + x4) ∧ aok (cxS K) (o0 + 8) 0 ((16 * i3) + x5) ∧ ¬ (I o0 19) = 0 ∧ aok (cxS K) (o0 + 8) 0 ((80 + x4) + x5) ∧ ∀ I8 : TI, I8 = u2 I (o0 + 8) (ix ((80 + x4) + x5)) (((I (o0 + 8) (ix ((80 + x4) + x5))) + ((I (o0 + 8) (ix ((16 * i2) + x4))) * (I (o0 + 8) (ix ((16 * i3) + x5))))) - ((I (o0 + 8) (ix ((80 + x4) + x5))) + ((I (o0 + 8) (ix ((16 * i2) + x4))) * (I (o0 + 8) (ix ((16 * i3) + x5))))) / (I o0 19) * (I o0 19)) → ∀ v9 : Int32, v9 = x5 + 1 → C40 I8 L A x4 v9))
def wp_X7_modTimes_30 (K : Cx) (o0 : Nat) (i1 : Int32) (i2 : Int32) (i3 : Int32) (I : TI) (L : TL) (A : TA) (x4 : Int32) (Q : TI → TL → TA → Prop) : Prop := ∃ (Inv : Nat → TI → TL → TA → Int32 → Prop) (μ : Nat), Inv μ I L A x4 ∧ ∀ (μ : Nat) (C30 : TI → TL → TA → Int32 → Prop), (∀ (μ' : Nat) (I : TI) (L : TL) (A : TA) (x4 : Int32) , μ' < μ → Inv μ' I L A x4 → C30 I L A x4) → ∀ (I : TI) (L : TL) (A : TA) (x4 : Int32) , Inv μ I L A x4 → ((7 ≤ x4 → cxS K o0 = shX7 o0 ∧ ∃ P11 : TI → TL → TA → Prop, ConV K yX7_reduce wsX7_reduce 1 24 I L A [.ref o0, .int 5, .int 0] P11 ∧ ∀ (I13 : TI) (L14 : TL) (A15 : TA), P11 I13 L14 A15 → ∃ P16 : TI → TL → TA → Prop, ConV K yX7_modCopy wsX7_modCopy 0 0 I13 L14 A15 [.ref o0, .int i1, .int 5] P16 ∧ ∀ (I18 : TI) (L19 : TL) (A20 : TA), P16 I18 L19 A20 → Q I18 L19 A20) ∧ (¬ 7 ≤ x4 → wp_X7_modTimes_40 K o0 i1 i2 i3 C30 I L A x4 0 Q))
def wp_X7_modTimes_3 (K : Cx) (o0 : Nat) (i1 : Int32) (i2 : Int32) (i3 : Int32) (I : TI) (L : TL) (A : TA) (x4 : Int32) (Q : TI → TL → TA → Prop) : Prop := ∃ (Inv : Nat → TI → TL → TA → Int32 → Prop) (μ : Nat), Inv μ I L A x4 ∧ ∀ (μ : Nat) (C3 : TI → TL → TA → Int32 → Prop), (∀ (μ' : Nat) (I : TI) (L : TL) (A : TA) (x4 : Int32) , μ' < μ → Inv μ' I L A x4 → C3 I L A x4) → ∀ (I : TI) (L : TL) (A : TA) (x4 : Int32) , Inv μ I L A x4 → ((16 ≤ x4 → wp_X7_modTimes_30 K o0 i1 i2 i3 I L A 0 Q) ∧ (¬ 16 ≤ x4 → cxS K o0 = shX7 o0 ∧ aok (cxS K) (o0 + 8) 0 (80 + x4) ∧ ∀ I23 : TI, I23 = u2 I (o0 + 8) (ix (80 + x4)) 0 → ∀ v24 : Int32, v24 = x4 + 1 → C3 I23 L A v24))
def wp_X7_modTimes (K : Cx) (I : TI) (L : TL) (A : TA) (o0 : Nat) (i1 : Int32) (i2 : Int32) (i3 : Int32) (Q : TI → TL → TA → Prop) : Prop := wp_X7_modTimes_3 K o0 i1 i2 i3 I L A 0 Q
set_option maxHeartbeats 1000000 in
set_option maxRecDepth 100000 in
theorem w_X7_modTimes (K : Cx) (I : TI) (L : TL) (A : TA) (o0 : Nat) (i1 : Int32) (i2 : Int32) (i3 : Int32) (Q : TI → TL → TA → Prop) (hwp : wp_X7_modTimes K I L A o0 i1 i2 i3 Q) : ConV K yX7_modTimes wsX7_modTimes 2 51 I L A [.ref o0, .int i1, .int i2, .int i3] Q := by
  intro hK sz
  refine Met.ofW (cc := cX7_modTimes) (maxL := 6) (ret := none) (by decide) rfl ?_
  intro p e s m args below meth c s₁ B hml hv
  obtain ⟨rfl, hsz, hB⟩ := hv
  have hx := B.exec
  have hb := B.bytes
  have hret := B.returns
  have hts := atoms_spec (ws := wsX7_modTimes) B.pre
  have hown : s.vm.findClass RX7 = some m.cls := findClass_of_methodNamed B.named
  have hlocks := B.notSynchronized
  subst hsz
  have hz : SS K s I L A s.heap [] := PS.start hB
  have hl := lv_entry ([.ref o0, .int i1, .int i2, .int i3]) (n := 6) (Nat.le_of_ble_eq_true rfl)
  rw [lg_entry_eq]
  generalize (lg_sl ([.ref o0, .int i1, .int i2, .int i3]) ++ List.replicate (6 - (lg_sl ([.ref o0, .int i1, .int i2, .int i3])).length) Slot.unset).toArray = ls at hl ⊢
  have hl : lv_has ls 6 [(0, .ref o0), (1, .int i1), (2, .int i2), (3, .int i3)] := hl
  have hw0 : ∀ w ∈ u_ws RX7 TX7 25, w ∈ wsX7_modTimes := by decide +kernel
  have hw1 := hts (.fieldLink RX7 32 "GaloisDeskModel" "mod" "[I") (by decide +kernel)
  have hw2 := hts (.fieldLink RX7 167 "GaloisDeskModel" "prime" "I") (by decide +kernel)
  clear hB B
  have wL40 : ∀ (C30 : TI → TL → TA → Int32 → Prop) (hC30 : ∀ (I : TI) (L : TL) (A : TA) (x4 : Int32) (H : Heap) (locs : List Loc) (ls : Array Slot), C30 I L A x4 → SS K s I L A H locs → lv_has ls 6 [(0, .ref o0), (1, .int i1), (2, .int i2), (3, .int i3), (4, .int x4)] → W p (cxl K) e (headSpec wsX7_modTimes (rmF 2 51)).room s m ([.ref o0, .int i1, .int i2, .int i3] : List Value).toArray below meth c H locs 0 0 (MQ below (cxQv K Q) ([.ref o0, .int i1, .int i2, .int i3] : List Value).toArray s 0 0 (PA (cxb K))) (F0 m 30 ls [])) (I : TI) (L : TL) (A : TA) (x4 : Int32) (x5 : Int32) (H : Heap) (locs : List Loc) (ls : Array Slot), wp_X7_modTimes_40 K o0 i1 i2 i3 C30 I L A x4 x5 Q → SS K s I L A H locs → lv_has ls 6 [(0, .ref o0), (1, .int i1), (2, .int i2), (3, .int i3), (4, .int x4), (5, .int x5)] → W p (cxl K) e (headSpec wsX7_modTimes (rmF 2 51)).room s m ([.ref o0, .int i1, .int i2, .int i3] : List Value).toArray below meth c H locs 0 0 (MQ below (cxQv K Q) ([.ref o0, .int i1, .int i2, .int i3] : List Value).toArray s 0 0 (PA (cxb K))) (F0 m 40 ls []) := by
    intro C30 hC30 I L A x4 x5 H locs ls hwp hz hl
    obtain ⟨Inv, μ, hi, hst⟩ := hwp
    have key : ∀ (μ : Nat) (I : TI) (L : TL) (A : TA) (x4 : Int32) (x5 : Int32) (H : Heap) (locs : List Loc) (ls : Array Slot), Inv μ I L A x4 x5 → SS K s I L A H locs → lv_has ls 6 [(0, .ref o0), (1, .int i1), (2, .int i2), (3, .int i3), (4, .int x4), (5, .int x5)] → W p (cxl K) e (headSpec wsX7_modTimes (rmF 2 51)).room s m ([.ref o0, .int i1, .int i2, .int i3] : List Value).toArray below meth c H locs 0 0 (MQ below (cxQv K Q) ([.ref o0, .int i1, .int i2, .int i3] : List Value).toArray s 0 0 (PA (cxb K))) (F0 m 40 ls []) := by
      clear hi hz hl
      intro μ
      induction μ using Nat.strongRecOn with | ind μ ih => ?_
      intro I L A x4 x5 H locs ls hi hz hl
      obtain ⟨C40, hCd⟩ : ∃ C : TI → TL → TA → Int32 → Int32 → Prop, C = fun I L A x4 x5 => ∃ μ', μ' < μ ∧ Inv μ' I L A x4 x5 := ⟨_, rfl⟩
      have hC40 : ∀ (I : TI) (L : TL) (A : TA) (x4 : Int32) (x5 : Int32) (H : Heap) (locs : List Loc) (ls : Array Slot), C40 I L A x4 x5 → SS K s I L A H locs → lv_has ls 6 [(0, .ref o0), (1, .int i1), (2, .int i2), (3, .int i3), (4, .int x4), (5, .int x5)] → W p (cxl K) e (headSpec wsX7_modTimes (rmF 2 51)).room s m ([.ref o0, .int i1, .int i2, .int i3] : List Value).toArray below meth c H locs 0 0 (MQ below (cxQv K Q) ([.ref o0, .int i1, .int i2, .int i3] : List Value).toArray s 0 0 (PA (cxb K))) (F0 m 40 ls []) := by
        intro I L A x4 x5 H locs ls hc hz hl
        rw [hCd] at hc
        obtain ⟨μ', hlt, hc⟩ := hc
        exact ih μ' hlt I L A x4 x5 H locs ls hc hz hl
      have hwp := hst μ C40 (fun μ' I L A x4 x5 hlt hc => by rw [hCd]; exact ⟨μ', hlt, hc⟩) I L A x4 x5 hi
      refine lv_iload hx hb dX7_modTimes_40 (lv_at hl 5 rfl) ?_
      refine lv_bipush (v := 7) hx hb dX7_modTimes_42 (by decide) ?_
      refine lv_icmp_ge (tgt := 110) hx hb dX7_modTimes_44 (by decide) (fun q => ?_) (fun q => ?_)
      · have hwp := hwp.1 q
        obtain ⟨v1, q_v1⟩ : ∃ y : Int32, y = x4 + 1 := ⟨_, rfl⟩
        have hwp := hwp v1 q_v1
        refine lv_iinc (v := v1) (lv' := [(4, .int v1), (0, .ref o0), (1, .int i1), (2, .int i2), (3, .int i3), (5, .int x5)]) hx hb dX7_modTimes_110 hl (k := 4) rfl (by rw [q_v1]; rfl) (by decide) rfl (fun ls hl => ?_)
        refine lv_goto (tgt := 30) hx hb dX7_modTimes_113 (by decide) ?_
        exact hC30 _ _ _ _ _ _ _ hwp hz (lv_sub hl [1, 2, 3, 4, 0] rfl)
      · have hwp := hwp.2 q
        refine lv_aload_n hx hb dX7_modTimes_47 rfl (lv_at hl 0 rfl) ?_
        obtain ⟨hs2, hwp⟩ := hwp
        refine sw_get (C := RX7) (T := TX7) (N := 25) (v := .ref (o0 + 8)) hx hb hts hw0 hown hK hz hs2 rfl 18 (by decide) hw1 (fun _ h9 => h9) rfl dX7_modTimes_48 ?_
        refine lv_bipush (v := 80) hx hb dX7_modTimes_51 (by decide) ?_
        refine lv_iload hx hb dX7_modTimes_53 (lv_at hl 4 rfl) ?_
        refine lv_iadd hx hb dX7_modTimes_55 ?_
        refine lv_iload hx hb dX7_modTimes_56 (lv_at hl 5 rfl) ?_
        refine lv_iadd hx hb dX7_modTimes_58 ?_
        refine lv_aload_n hx hb dX7_modTimes_59 rfl (lv_at hl 0 rfl) ?_
        refine sw_get (C := RX7) (T := TX7) (N := 25) (v := .ref (o0 + 8)) hx hb hts hw0 hown hK hz hs2 rfl 18 (by decide) hw1 (fun _ h9 => h9) rfl dX7_modTimes_60 ?_
        refine lv_bipush (v := 80) hx hb dX7_modTimes_63 (by decide) ?_
        refine lv_iload hx hb dX7_modTimes_65 (lv_at hl 4 rfl) ?_
        refine lv_iadd hx hb dX7_modTimes_67 ?_
        refine lv_iload hx hb dX7_modTimes_68 (lv_at hl 5 rfl) ?_
        refine lv_iadd hx hb dX7_modTimes_70 ?_
        obtain ⟨ho3, hwp⟩ := hwp
        refine sw_iald hx hb hK hz ho3 dX7_modTimes_71 ?_
        refine lv_aload_n hx hb dX7_modTimes_72 rfl (lv_at hl 0 rfl) ?_
        refine sw_get (C := RX7) (T := TX7) (N := 25) (v := .ref (o0 + 8)) hx hb hts hw0 hown hK hz hs2 rfl 18 (by decide) hw1 (fun _ h9 => h9) rfl dX7_modTimes_73 ?_
        refine lv_bipush (v := 16) hx hb dX7_modTimes_76 (by decide) ?_
        refine lv_iload_n hx hb dX7_modTimes_78 rfl (lv_at hl 2 rfl) ?_
        refine lv_imul hx hb dX7_modTimes_79 ?_
        refine lv_iload hx hb dX7_modTimes_80 (lv_at hl 4 rfl) ?_
        refine lv_iadd hx hb dX7_modTimes_82 ?_
        obtain ⟨ho4, hwp⟩ := hwp
        refine sw_iald hx hb hK hz ho4 dX7_modTimes_83 ?_
        refine lv_aload_n hx hb dX7_modTimes_84 rfl (lv_at hl 0 rfl) ?_
        refine sw_get (C := RX7) (T := TX7) (N := 25) (v := .ref (o0 + 8)) hx hb hts hw0 hown hK hz hs2 rfl 18 (by decide) hw1 (fun _ h9 => h9) rfl dX7_modTimes_85 ?_
        refine lv_bipush (v := 16) hx hb dX7_modTimes_88 (by decide) ?_
        refine lv_iload_n hx hb dX7_modTimes_90 rfl (lv_at hl 3 rfl) ?_
        refine lv_imul hx hb dX7_modTimes_91 ?_
        refine lv_iload hx hb dX7_modTimes_92 (lv_at hl 5 rfl) ?_
        refine lv_iadd hx hb dX7_modTimes_94 ?_
        obtain ⟨ho5, hwp⟩ := hwp
        refine sw_iald hx hb hK hz ho5 dX7_modTimes_95 ?_
        refine lv_imul hx hb dX7_modTimes_96 ?_
        refine lv_iadd hx hb dX7_modTimes_97 ?_
        refine lv_aload_n hx hb dX7_modTimes_98 rfl (lv_at hl 0 rfl) ?_
        refine sw_get (C := RX7) (T := TX7) (N := 25) (v := .int (I o0 19)) hx hb hts hw0 hown hK hz hs2 rfl 19 (by decide) hw2 (fun _ h9 => h9) rfl dX7_modTimes_99 ?_
        obtain ⟨hn6, hwp⟩ := hwp
        refine lv_irem hx hb dX7_modTimes_102 hn6 ?_
        obtain ⟨ho7, hwp⟩ := hwp
        refine sw_iast hx hb hK hz ho7 dX7_modTimes_103 (fun H locs I8 e_I8 hz => ?_)
        have hwp := hwp I8 e_I8
        obtain ⟨v9, q_v9⟩ : ∃ y : Int32, y = x5 + 1 := ⟨_, rfl⟩
        have hwp := hwp v9 q_v9
        refine lv_iinc (v := v9) (lv' := [(5, .int v9), (0, .ref o0), (1, .int i1), (2, .int i2), (3, .int i3), (4, .int x4)]) hx hb dX7_modTimes_104 hl (k := 5) rfl (by rw [q_v9]; rfl) (by decide) rfl (fun ls hl => ?_)
        refine lv_goto (tgt := 40) hx hb dX7_modTimes_107 (by decide) ?_
        exact hC40 _ _ _ _ _ _ _ _ hwp hz (lv_sub hl [1, 2, 3, 4, 5, 0] rfl)
    exact key μ I L A x4 x5 H locs ls hi hz hl
  have wL30 : ∀ (I : TI) (L : TL) (A : TA) (x4 : Int32) (H : Heap) (locs : List Loc) (ls : Array Slot), wp_X7_modTimes_30 K o0 i1 i2 i3 I L A x4 Q → SS K s I L A H locs → lv_has ls 6 [(0, .ref o0), (1, .int i1), (2, .int i2), (3, .int i3), (4, .int x4)] → W p (cxl K) e (headSpec wsX7_modTimes (rmF 2 51)).room s m ([.ref o0, .int i1, .int i2, .int i3] : List Value).toArray below meth c H locs 0 0 (MQ below (cxQv K Q) ([.ref o0, .int i1, .int i2, .int i3] : List Value).toArray s 0 0 (PA (cxb K))) (F0 m 30 ls []) := by
    intro I L A x4 H locs ls hwp hz hl
    obtain ⟨Inv, μ, hi, hst⟩ := hwp
    have key : ∀ (μ : Nat) (I : TI) (L : TL) (A : TA) (x4 : Int32) (H : Heap) (locs : List Loc) (ls : Array Slot), Inv μ I L A x4 → SS K s I L A H locs → lv_has ls 6 [(0, .ref o0), (1, .int i1), (2, .int i2), (3, .int i3), (4, .int x4)] → W p (cxl K) e (headSpec wsX7_modTimes (rmF 2 51)).room s m ([.ref o0, .int i1, .int i2, .int i3] : List Value).toArray below meth c H locs 0 0 (MQ below (cxQv K Q) ([.ref o0, .int i1, .int i2, .int i3] : List Value).toArray s 0 0 (PA (cxb K))) (F0 m 30 ls []) := by
      clear hi hz hl
      intro μ
      induction μ using Nat.strongRecOn with | ind μ ih => ?_
      intro I L A x4 H locs ls hi hz hl
      obtain ⟨C30, hCd⟩ : ∃ C : TI → TL → TA → Int32 → Prop, C = fun I L A x4 => ∃ μ', μ' < μ ∧ Inv μ' I L A x4 := ⟨_, rfl⟩
      have hC30 : ∀ (I : TI) (L : TL) (A : TA) (x4 : Int32) (H : Heap) (locs : List Loc) (ls : Array Slot), C30 I L A x4 → SS K s I L A H locs → lv_has ls 6 [(0, .ref o0), (1, .int i1), (2, .int i2), (3, .int i3), (4, .int x4)] → W p (cxl K) e (headSpec wsX7_modTimes (rmF 2 51)).room s m ([.ref o0, .int i1, .int i2, .int i3] : List Value).toArray below meth c H locs 0 0 (MQ below (cxQv K Q) ([.ref o0, .int i1, .int i2, .int i3] : List Value).toArray s 0 0 (PA (cxb K))) (F0 m 30 ls []) := by
        intro I L A x4 H locs ls hc hz hl
        rw [hCd] at hc
        obtain ⟨μ', hlt, hc⟩ := hc
        exact ih μ' hlt I L A x4 H locs ls hc hz hl
      have hwp := hst μ C30 (fun μ' I L A x4 hlt hc => by rw [hCd]; exact ⟨μ', hlt, hc⟩) I L A x4 hi
      refine lv_iload hx hb dX7_modTimes_30 (lv_at hl 4 rfl) ?_
      refine lv_bipush (v := 7) hx hb dX7_modTimes_32 (by decide) ?_
      refine lv_icmp_ge (tgt := 116) hx hb dX7_modTimes_34 (by decide) (fun q => ?_) (fun q => ?_)
      · have hwp := hwp.1 q
        refine lv_aload_n hx hb dX7_modTimes_116 rfl (lv_at hl 0 rfl) ?_
        refine lv_iconst (v := 5) hx hb dX7_modTimes_117 (by decide) ?_
        refine lv_iconst (v := 0) hx hb dX7_modTimes_118 (by decide) ?_
        obtain ⟨hs10, hwp⟩ := hwp
        obtain ⟨P11, hc12, hwp⟩ := hwp
        refine sw_callv hz (va_runV (As := [.int 5, .int 0]) (rest := []) ⟨hx, hb, hml, hown, hts⟩ (hc12 hK _) (cwV 2 hts gX7_modTimes_X7_reduce rfl rfl rfl (by decide +kernel) ⟨Nat.le_of_ble_eq_true rfl, Nat.le_of_ble_eq_true rfl⟩) (hz.preV hK hs10 rfl) rfl rfl hl.1 rfl (lv_room (Nat.le_of_ble_eq_true rfl)) dX7_modTimes_119 ⟨Nat.le_of_ble_eq_true rfl, Nat.le_of_ble_eq_true rfl⟩) (fun I13 L14 A15 H locs hp hz => ?_)
        have hwp := hwp I13 L14 A15 hp
        refine lv_aload_n hx hb dX7_modTimes_122 rfl (lv_at hl 0 rfl) ?_
        refine lv_iload_n hx hb dX7_modTimes_123 rfl (lv_at hl 1 rfl) ?_
        refine lv_iconst (v := 5) hx hb dX7_modTimes_124 (by decide) ?_
        obtain ⟨P16, hc17, hwp⟩ := hwp
        refine sw_callv hz (va_runV (As := [.int i1, .int 5]) (rest := []) ⟨hx, hb, hml, hown, hts⟩ (hc17 hK _) (cwV 2 hts gX7_modTimes_X7_modCopy rfl rfl rfl (by decide +kernel) ⟨Nat.le_of_ble_eq_true rfl, Nat.le_of_ble_eq_true rfl⟩) (hz.preV hK hs10 rfl) rfl rfl hl.1 rfl (lv_room (Nat.le_of_ble_eq_true rfl)) dX7_modTimes_125 ⟨Nat.le_of_ble_eq_true rfl, Nat.le_of_ble_eq_true rfl⟩) (fun I18 L19 A20 H locs hp hz => ?_)
        have hwp := hwp I18 L19 A20 hp
        exact sw_vret hx hb hret hlocks hz hwp dX7_modTimes_128
      · have hwp := hwp.2 q
        refine lv_iconst (v := 0) hx hb dX7_modTimes_37 (by decide) ?_
        refine lv_istore (lv' := [(5, .int 0), (0, .ref o0), (1, .int i1), (2, .int i2), (3, .int i3), (4, .int x4)]) hx hb dX7_modTimes_38 hl (by decide) rfl (fun ls hl => ?_)
        exact wL40 _ hC30 _ _ _ _ _ _ _ _ hwp hz (lv_sub hl [1, 2, 3, 4, 5, 0] rfl)
    exact key μ I L A x4 H locs ls hi hz hl
  have wL3 : ∀ (I : TI) (L : TL) (A : TA) (x4 : Int32) (H : Heap) (locs : List Loc) (ls : Array Slot), wp_X7_modTimes_3 K o0 i1 i2 i3 I L A x4 Q → SS K s I L A H locs → lv_has ls 6 [(0, .ref o0), (1, .int i1), (2, .int i2), (3, .int i3), (4, .int x4)] → W p (cxl K) e (headSpec wsX7_modTimes (rmF 2 51)).room s m ([.ref o0, .int i1, .int i2, .int i3] : List Value).toArray below meth c H locs 0 0 (MQ below (cxQv K Q) ([.ref o0, .int i1, .int i2, .int i3] : List Value).toArray s 0 0 (PA (cxb K))) (F0 m 3 ls []) := by
    intro I L A x4 H locs ls hwp hz hl
    obtain ⟨Inv, μ, hi, hst⟩ := hwp
    have key : ∀ (μ : Nat) (I : TI) (L : TL) (A : TA) (x4 : Int32) (H : Heap) (locs : List Loc) (ls : Array Slot), Inv μ I L A x4 → SS K s I L A H locs → lv_has ls 6 [(0, .ref o0), (1, .int i1), (2, .int i2), (3, .int i3), (4, .int x4)] → W p (cxl K) e (headSpec wsX7_modTimes (rmF 2 51)).room s m ([.ref o0, .int i1, .int i2, .int i3] : List Value).toArray below meth c H locs 0 0 (MQ below (cxQv K Q) ([.ref o0, .int i1, .int i2, .int i3] : List Value).toArray s 0 0 (PA (cxb K))) (F0 m 3 ls []) := by
      clear hi hz hl
      intro μ
      induction μ using Nat.strongRecOn with | ind μ ih => ?_
      intro I L A x4 H locs ls hi hz hl
      obtain ⟨C3, hCd⟩ : ∃ C : TI → TL → TA → Int32 → Prop, C = fun I L A x4 => ∃ μ', μ' < μ ∧ Inv μ' I L A x4 := ⟨_, rfl⟩
      have hC3 : ∀ (I : TI) (L : TL) (A : TA) (x4 : Int32) (H : Heap) (locs : List Loc) (ls : Array Slot), C3 I L A x4 → SS K s I L A H locs → lv_has ls 6 [(0, .ref o0), (1, .int i1), (2, .int i2), (3, .int i3), (4, .int x4)] → W p (cxl K) e (headSpec wsX7_modTimes (rmF 2 51)).room s m ([.ref o0, .int i1, .int i2, .int i3] : List Value).toArray below meth c H locs 0 0 (MQ below (cxQv K Q) ([.ref o0, .int i1, .int i2, .int i3] : List Value).toArray s 0 0 (PA (cxb K))) (F0 m 3 ls []) := by
        intro I L A x4 H locs ls hc hz hl
        rw [hCd] at hc
        obtain ⟨μ', hlt, hc⟩ := hc
        exact ih μ' hlt I L A x4 H locs ls hc hz hl
      have hwp := hst μ C3 (fun μ' I L A x4 hlt hc => by rw [hCd]; exact ⟨μ', hlt, hc⟩) I L A x4 hi
      refine lv_iload hx hb dX7_modTimes_3 (lv_at hl 4 rfl) ?_
      refine lv_bipush (v := 16) hx hb dX7_modTimes_5 (by decide) ?_
      refine lv_icmp_ge (tgt := 27) hx hb dX7_modTimes_7 (by decide) (fun q => ?_) (fun q => ?_)
      · have hwp := hwp.1 q
        refine lv_iconst (v := 0) hx hb dX7_modTimes_27 (by decide) ?_
        refine lv_istore (lv' := [(4, .int 0), (0, .ref o0), (1, .int i1), (2, .int i2), (3, .int i3)]) hx hb dX7_modTimes_28 hl (by decide) rfl (fun ls hl => ?_)
        exact wL30 _ _ _ _ _ _ _ hwp hz (lv_sub hl [1, 2, 3, 4, 0] rfl)
      · have hwp := hwp.2 q
        refine lv_aload_n hx hb dX7_modTimes_10 rfl (lv_at hl 0 rfl) ?_
        obtain ⟨hs21, hwp⟩ := hwp
        refine sw_get (C := RX7) (T := TX7) (N := 25) (v := .ref (o0 + 8)) hx hb hts hw0 hown hK hz hs21 rfl 18 (by decide) hw1 (fun _ h9 => h9) rfl dX7_modTimes_11 ?_
        refine lv_bipush (v := 80) hx hb dX7_modTimes_14 (by decide) ?_
        refine lv_iload hx hb dX7_modTimes_16 (lv_at hl 4 rfl) ?_
        refine lv_iadd hx hb dX7_modTimes_18 ?_
        refine lv_iconst (v := 0) hx hb dX7_modTimes_19 (by decide) ?_
        obtain ⟨ho22, hwp⟩ := hwp
        refine sw_iast hx hb hK hz ho22 dX7_modTimes_20 (fun H locs I23 e_I23 hz => ?_)
        have hwp := hwp I23 e_I23
        obtain ⟨v24, q_v24⟩ : ∃ y : Int32, y = x4 + 1 := ⟨_, rfl⟩
        have hwp := hwp v24 q_v24
        refine lv_iinc (v := v24) (lv' := [(4, .int v24), (0, .ref o0), (1, .int i1), (2, .int i2), (3, .int i3)]) hx hb dX7_modTimes_21 hl (k := 4) rfl (by rw [q_v24]; rfl) (by decide) rfl (fun ls hl => ?_)
        refine lv_goto (tgt := 3) hx hb dX7_modTimes_24 (by decide) ?_
        exact hC3 _ _ _ _ _ _ _ hwp hz (lv_sub hl [1, 2, 3, 4, 0] rfl)
    exact key μ I L A x4 H locs ls hi hz hl
  refine lv_iconst (v := 0) hx hb dX7_modTimes_0 (by decide) ?_
  refine lv_istore (lv' := [(4, .int 0), (0, .ref o0), (1, .int i1), (2, .int i2), (3, .int i3)]) hx hb dX7_modTimes_1 hl (by decide) rfl (fun ls hl => ?_)
  exact wL3 _ _ _ _ _ _ _ hwp hz (lv_sub hl [1, 2, 3, 4, 0] rfl)

def wp_X7_multiply_89 (K : Cx) (o0 : Nat) (i1 : Int32) (i2 : Int32) (i3 : Int32) (C79 : TI → TL → TA → Int32 → Prop) (I : TI) (L : TL) (A : TA) (x4 : Int32) (x5 : Int32) (Q : Int32 → TI → TL → TA → Prop) : Prop := ∃ (Inv : Nat → TI → TL → TA → Int32 → Int32 → Prop) (μ : Nat), Inv μ I L A x4 x5 ∧ ∀ (μ : Nat) (C89 : TI → TL → TA → Int32 → Int32 → Prop), (∀ (μ' : Nat) (I : TI) (L : TL) (A : TA) (x4 : Int32) (x5 : Int32) , μ' < μ → Inv μ' I L A x4 x5 → C89 I L A x4 x5) → ∀ (I : TI) (L : TL) (A : TA) (x4 : Int32) (x5 : Int32) , Inv μ I L A x4 x5 → ((7 ≤ (x4 + x5) → ∀ v1 : Int32, v1 = x4 + 1 → C79 I L A v1) ∧ (¬ 7 ≤ (x4 + x5) → cxS K o0 = shX7 o0 ∧ aok (cxS K) (o0 + 1) 1 ((64 + x4) + x5) ∧ aok (cxS K) (o0 + 1) 1 ((8 * i2) + x4) ∧ aok (cxS K) (o0 + 1) 1 ((8 * i3) + x5) ∧ aok (cxS K) (o0 + 1) 1 ((64 + x4) + x5) ∧ ∀ L7 : TL, L7 = u2 L (o0 + 1) (ix ((64 + x4) + x5)) ((L (o0 + 1) (ix ((64 + x4) + x5))) + ((L (o0 + 1) (ix ((8 * i2) + x4))) * (L (o0 + 1) (ix ((8 * i3) + x5))))) → ∀ v8 : Int32, v8 = x5 + 1 → C89 I L7 A x4 v8))
def wp_X7_multiply_79 (K : Cx) (o0 : Nat) (i1 : Int32) (i2 : Int32) (i3 : Int32) (I : TI) (L : TL) (A : TA) (x4 : Int32) (Q : Int32 → TI → TL → TA → Prop) : Prop := ∃ (Inv : Nat → TI → TL → TA → Int32 → Prop) (μ : Nat), Inv μ I L A x4 ∧ ∀ (μ : Nat) (C79 : TI → TL → TA → Int32 → Prop), (∀ (μ' : Nat) (I : TI) (L : TL) (A : TA) (x4 : Int32) , μ' < μ → Inv μ' I L A x4 → C79 I L A x4) → ∀ (I : TI) (L : TL) (A : TA) (x4 : Int32) , Inv μ I L A x4 → ((7 ≤ x4 → cxS K o0 = shX7 o0 ∧ ∃ P10 : Int32 → TI → TL → TA → Prop, ConI K yX7_finish wsX7_finish 1 23 I L A [.ref o0, .int i1] P10 ∧ ∀ (r15 : Int32) (I12 : TI) (L13 : TL) (A14 : TA), P10 r15 I12 L13 A14 → Q r15 I12 L13 A14) ∧ (¬ 7 ≤ x4 → wp_X7_multiply_89 K o0 i1 i2 i3 C79 I L A x4 0 Q))
def wp_X7_multiply_27 (K : Cx) (o0 : Nat) (i1 : Int32) (i2 : Int32) (i3 : Int32) (I : TI) (L : TL) (A : TA) (y0 : Int32) (y1 : Nat) (Q : Int32 → TI → TL → TA → Prop) : Prop := cxS K y1 = shX7 y1 ∧ ∃ P17 : Int32 → TI → TL → TA → Prop, ConI K yX7_refused wsX7_refused 0 0 I L A [.ref y1, .int y0] P17 ∧ ∀ (r22 : Int32) (I19 : TI) (L20 : TL) (A21 : TA), P17 r22 I19 L20 A21 → ((r22 = 0 → cxS K o0 = shX7 o0 ∧ ∃ P24 : TI → TL → TA → Prop, ConV K yX7_clear wsX7_clear 0 0 I19 L20 A21 [.ref o0, .int 8] P24 ∧ ∀ (I26 : TI) (L27 : TL) (A28 : TA), P24 I26 L27 A28 → ∃ P29 : Int32 → TI → TL → TA → Prop, ConI K yX7_isZero wsX7_isZero 1 22 I26 L27 A28 [.ref o0, .int i2] P29 ∧ ∀ (r34 : Int32) (I31 : TI) (L32 : TL) (A33 : TA), P29 r34 I31 L32 A33 → ((r34 = 0 → ∃ P35 : Int32 → TI → TL → TA → Prop, ConI K yX7_isZero wsX7_isZero 1 22 I31 L32 A33 [.ref o0, .int i3] P35 ∧ ∀ (r40 : Int32) (I37 : TI) (L38 : TL) (A39 : TA), P35 r40 I37 L38 A39 → ((r40 = 0 → ∃ P41 : Int32 → TI → TL → TA → Prop, ConI K yX7_degreeOf wsX7_degreeOf 0 0 I37 L38 A39 [.ref o0, .int i2] P41 ∧ ∀ (r46 : Int32) (I43 : TI) (L44 : TL) (A45 : TA), P41 r46 I43 L44 A45 → ∃ P47 : Int32 → TI → TL → TA → Prop, ConI K yX7_degreeOf wsX7_degreeOf 0 0 I43 L44 A45 [.ref o0, .int i3] P47 ∧ ∀ (r52 : Int32) (I49 : TI) (L50 : TL) (A51 : TA), P47 r52 I49 L50 A51 → (((r46 + r52) ≤ 6 → wp_X7_multiply_79 K o0 i1 i2 i3 I49 L50 A51 0 Q) ∧ (¬ (r46 + r52) ≤ 6 → Q (-2) I49 L50 A51))) ∧ (¬ r40 = 0 → wp_X7_multiply_79 K o0 i1 i2 i3 I37 L38 A39 0 Q))) ∧ (¬ r34 = 0 → wp_X7_multiply_79 K o0 i1 i2 i3 I31 L32 A33 0 Q))) ∧ (¬ r22 = 0 → Q 0 I19 L20 A21))
def wp_X7_multiply_26 (K : Cx) (o0 : Nat) (i1 : Int32) (i2 : Int32) (i3 : Int32) (I : TI) (L : TL) (A : TA) (y0 : Nat) (Q : Int32 → TI → TL → TA → Prop) : Prop := wp_X7_multiply_27 K o0 i1 i2 i3 I L A 1 y0 Q
def wp_X7_multiply (K : Cx) (I : TI) (L : TL) (A : TA) (o0 : Nat) (i1 : Int32) (i2 : Int32) (i3 : Int32) (Q : Int32 → TI → TL → TA → Prop) : Prop := ∃ P53 : Int32 → TI → TL → TA → Prop, ConI K yX7_isSlot wsX7_isSlot 0 0 I L A [.int i1] P53 ∧ ∀ (r58 : Int32) (I55 : TI) (L56 : TL) (A57 : TA), P53 r58 I55 L56 A57 → ((r58 = 0 → wp_X7_multiply_26 K o0 i1 i2 i3 I55 L56 A57 o0 Q) ∧ (¬ r58 = 0 → ∃ P59 : Int32 → TI → TL → TA → Prop, ConI K yX7_isSlot wsX7_isSlot 0 0 I55 L56 A57 [.int i2] P59 ∧ ∀ (r64 : Int32) (I61 : TI) (L62 : TL) (A63 : TA), P59 r64 I61 L62 A63 → ((r64 = 0 → wp_X7_multiply_26 K o0 i1 i2 i3 I61 L62 A63 o0 Q) ∧ (¬ r64 = 0 → ∃ P65 : Int32 → TI → TL → TA → Prop, ConI K yX7_isSlot wsX7_isSlot 0 0 I61 L62 A63 [.int i3] P65 ∧ ∀ (r70 : Int32) (I67 : TI) (L68 : TL) (A69 : TA), P65 r70 I67 L68 A69 → ((r70 = 0 → wp_X7_multiply_26 K o0 i1 i2 i3 I67 L68 A69 o0 Q) ∧ (¬ r70 = 0 → wp_X7_multiply_27 K o0 i1 i2 i3 I67 L68 A69 0 o0 Q))))))
set_option maxHeartbeats 1000000 in
set_option maxRecDepth 100000 in
theorem w_X7_multiply (K : Cx) (I : TI) (L : TL) (A : TA) (o0 : Nat) (i1 : Int32) (i2 : Int32) (i3 : Int32) (Q : Int32 → TI → TL → TA → Prop) (hwp : wp_X7_multiply K I L A o0 i1 i2 i3 Q) : ConI K yX7_multiply wsX7_multiply 2 46 I L A [.ref o0, .int i1, .int i2, .int i3] Q := by
  intro hK sz
  refine Met.ofW (cc := cX7_multiply) (maxL := 6) (ret := (some .int)) (by decide) rfl ?_
  intro p e s m args below meth c s₁ B hml hv
  obtain ⟨rfl, hsz, hB⟩ := hv
  have hx := B.exec
  have hb := B.bytes
  have hret := B.returns
  have hts := atoms_spec (ws := wsX7_multiply) B.pre
  have hown : s.vm.findClass RX7 = some m.cls := findClass_of_methodNamed B.named
  have hlocks := B.notSynchronized
  subst hsz
  have hz : SS K s I L A s.heap [] := PS.start hB
  have hl := lv_entry ([.ref o0, .int i1, .int i2, .int i3]) (n := 6) (Nat.le_of_ble_eq_true rfl)
  rw [lg_entry_eq]
  generalize (lg_sl ([.ref o0, .int i1, .int i2, .int i3]) ++ List.replicate (6 - (lg_sl ([.ref o0, .int i1, .int i2, .int i3])).length) Slot.unset).toArray = ls at hl ⊢
  have hl : lv_has ls 6 [(0, .ref o0), (1, .int i1), (2, .int i2), (3, .int i3)] := hl
  have hw0 : ∀ w ∈ u_ws RX7 TX7 25, w ∈ wsX7_multiply := by decide +kernel
  have hw1 := hts (.fieldLink RX7 7 "GaloisDeskModel" "row" "[J") (by decide +kernel)
  clear hB B
  have wL89 : ∀ (C79 : TI → TL → TA → Int32 → Prop) (hC79 : ∀ (I : TI) (L : TL) (A : TA) (x4 : Int32) (H : Heap) (locs : List Loc) (ls : Array Slot), C79 I L A x4 → SS K s I L A H locs → lv_has ls 6 [(0, .ref o0), (1, .int i1), (2, .int i2), (3, .int i3), (4, .int x4)] → W p (cxl K) e (headSpec wsX7_multiply (rmF 2 46)).room s m ([.ref o0, .int i1, .int i2, .int i3] : List Value).toArray below meth c H locs 0 0 (MQ below (cxQi K Q) ([.ref o0, .int i1, .int i2, .int i3] : List Value).toArray s 0 0 (PA (cxb K))) (F0 m 79 ls [])) (I : TI) (L : TL) (A : TA) (x4 : Int32) (x5 : Int32) (H : Heap) (locs : List Loc) (ls : Array Slot), wp_X7_multiply_89 K o0 i1 i2 i3 C79 I L A x4 x5 Q → SS K s I L A H locs → lv_has ls 6 [(0, .ref o0), (1, .int i1), (2, .int i2), (3, .int i3), (4, .int x4), (5, .int x5)] → W p (cxl K) e (headSpec wsX7_multiply (rmF 2 46)).room s m ([.ref o0, .int i1, .int i2, .int i3] : List Value).toArray below meth c H locs 0 0 (MQ below (cxQi K Q) ([.ref o0, .int i1, .int i2, .int i3] : List Value).toArray s 0 0 (PA (cxb K))) (F0 m 89 ls []) := by
    intro C79 hC79 I L A x4 x5 H locs ls hwp hz hl
    obtain ⟨Inv, μ, hi, hst⟩ := hwp
    have key : ∀ (μ : Nat) (I : TI) (L : TL) (A : TA) (x4 : Int32) (x5 : Int32) (H : Heap) (locs : List Loc) (ls : Array Slot), Inv μ I L A x4 x5 → SS K s I L A H locs → lv_has ls 6 [(0, .ref o0), (1, .int i1), (2, .int i2), (3, .int i3), (4, .int x4), (5, .int x5)] → W p (cxl K) e (headSpec wsX7_multiply (rmF 2 46)).room s m ([.ref o0, .int i1, .int i2, .int i3] : List Value).toArray below meth c H locs 0 0 (MQ below (cxQi K Q) ([.ref o0, .int i1, .int i2, .int i3] : List Value).toArray s 0 0 (PA (cxb K))) (F0 m 89 ls []) := by
      clear hi hz hl
      intro μ
      induction μ using Nat.strongRecOn with | ind μ ih => ?_
      intro I L A x4 x5 H locs ls hi hz hl
      obtain ⟨C89, hCd⟩ : ∃ C : TI → TL → TA → Int32 → Int32 → Prop, C = fun I L A x4 x5 => ∃ μ', μ' < μ ∧ Inv μ' I L A x4 x5 := ⟨_, rfl⟩
      have hC89 : ∀ (I : TI) (L : TL) (A : TA) (x4 : Int32) (x5 : Int32) (H : Heap) (locs : List Loc) (ls : Array Slot), C89 I L A x4 x5 → SS K s I L A H locs → lv_has ls 6 [(0, .ref o0), (1, .int i1), (2, .int i2), (3, .int i3), (4, .int x4), (5, .int x5)] → W p (cxl K) e (headSpec wsX7_multiply (rmF 2 46)).room s m ([.ref o0, .int i1, .int i2, .int i3] : List Value).toArray below meth c H locs 0 0 (MQ below (cxQi K Q) ([.ref o0, .int i1, .int i2, .int i3] : List Value).toArray s 0 0 (PA (cxb K))) (F0 m 89 ls []) := by
        intro I L A x4 x5 H locs ls hc hz hl
        rw [hCd] at hc
        obtain ⟨μ', hlt, hc⟩ := hc
        exact ih μ' hlt I L A x4 x5 H locs ls hc hz hl
      have hwp := hst μ C89 (fun μ' I L A x4 x5 hlt hc => by rw [hCd]; exact ⟨μ', hlt, hc⟩) I L A x4 x5 hi
      refine lv_iload hx hb dX7_multiply_89 (lv_at hl 4 rfl) ?_
      refine lv_iload hx hb dX7_multiply_91 (lv_at hl 5 rfl) ?_
      refine lv_iadd hx hb dX7_multiply_93 ?_
      refine lv_bipush (v := 7) hx hb dX7_multiply_94 (by decide) ?_
      refine lv_icmp_ge (tgt := 157) hx hb dX7_multiply_96 (by decide) (fun q => ?_) (fun q => ?_)
      · have hwp := hwp.1 q
        obtain ⟨v1, q_v1⟩ : ∃ y : Int32, y = x4 + 1 := ⟨_, rfl⟩
        have hwp := hwp v1 q_v1
        refine lv_iinc (v := v1) (lv' := [(4, .int v1), (0, .ref o0), (1, .int i1), (2, .int i2), (3, .int i3), (5, .int x5)]) hx hb dX7_multiply_157 hl (k := 4) rfl (by rw [q_v1]; rfl) (by decide) rfl (fun ls hl => ?_)
        refine lv_goto (tgt := 79) hx hb dX7_multiply_160 (by decide) ?_
        exact hC79 _ _ _ _ _ _ _ hwp hz (lv_sub hl [1, 2, 3, 4, 0] rfl)
      · have hwp := hwp.2 q
        refine lv_aload_n hx hb dX7_multiply_99 rfl (lv_at hl 0 rfl) ?_
        obtain ⟨hs2, hwp⟩ := hwp
        refine sw_get (C := RX7) (T := TX7) (N := 25) (v := .ref (o0 + 1)) hx hb hts hw0 hown hK hz hs2 rfl 1 (by decide) hw1 (fun _ h9 => h9) rfl dX7_multiply_100 ?_
        refine lv_bipush (v := 64) hx hb dX7_multiply_103 (by decide) ?_
        refine lv_iload hx hb dX7_multiply_105 (lv_at hl 4 rfl) ?_
        refine lv_iadd hx hb dX7_multiply_107 ?_
        refine lv_iload hx hb dX7_multiply_108 (lv_at hl 5 rfl) ?_
        refine lv_iadd hx hb dX7_multiply_110 ?_
        refine lv_aload_n hx hb dX7_multiply_111 rfl (lv_at hl 0 rfl) ?_
        refine sw_get (C := RX7) (T := TX7) (N := 25) (v := .ref (o0 + 1)) hx hb hts hw0 hown hK hz hs2 rfl 1 (by decide) hw1 (fun _ h9 => h9) rfl dX7_multiply_112 ?_
        refine lv_bipush (v := 64) hx hb dX7_multiply_115 (by decide) ?_
        refine lv_iload hx hb dX7_multiply_117 (lv_at hl 4 rfl) ?_
        refine lv_iadd hx hb dX7_multiply_119 ?_
        refine lv_iload hx hb dX7_multiply_120 (lv_at hl 5 rfl) ?_
        refine lv_iadd hx hb dX7_multiply_122 ?_
        obtain ⟨ho3, hwp⟩ := hwp
        refine sw_lald hx hb hK hz ho3 dX7_multiply_123 ?_
        refine lv_aload_n hx hb dX7_multiply_124 rfl (lv_at hl 0 rfl) ?_
        refine sw_get (C := RX7) (T := TX7) (N := 25) (v := .ref (o0 + 1)) hx hb hts hw0 hown hK hz hs2 rfl 1 (by decide) hw1 (fun _ h9 => h9) rfl dX7_multiply_125 ?_
        refine lv_bipush (v := 8) hx hb dX7_multiply_128 (by decide) ?_
        refine lv_iload_n hx hb dX7_multiply_130 rfl (lv_at hl 2 rfl) ?_
        refine lv_imul hx hb dX7_multiply_131 ?_
        refine lv_iload hx hb dX7_multiply_132 (lv_at hl 4 rfl) ?_
        refine lv_iadd hx hb dX7_multiply_134 ?_
        obtain ⟨ho4, hwp⟩ := hwp
        refine sw_lald hx hb hK hz ho4 dX7_multiply_135 ?_
        refine lv_aload_n hx hb dX7_multiply_136 rfl (lv_at hl 0 rfl) ?_
        refine sw_get (C := RX7) (T := TX7) (N := 25) (v := .ref (o0 + 1)) hx hb hts hw0 hown hK hz hs2 rfl 1 (by decide) hw1 (fun _ h9 => h9) rfl dX7_multiply_137 ?_
        refine lv_bipush (v := 8) hx hb dX7_multiply_140 (by decide) ?_
        refine lv_iload_n hx hb dX7_multiply_142 rfl (lv_at hl 3 rfl) ?_
        refine lv_imul hx hb dX7_multiply_143 ?_
        refine lv_iload hx hb dX7_multiply_144 (lv_at hl 5 rfl) ?_
        refine lv_iadd hx hb dX7_multiply_146 ?_
        obtain ⟨ho5, hwp⟩ := hwp
        refine sw_lald hx hb hK hz ho5 dX7_multiply_147 ?_
        refine lv_lmul hx hb dX7_multiply_148 ?_
        refine lv_ladd hx hb dX7_multiply_149 ?_
        obtain ⟨ho6, hwp⟩ := hwp
        refine sw_last hx hb hK hz ho6 dX7_multiply_150 (fun H locs L7 e_L7 hz => ?_)
        have hwp := hwp L7 e_L7
        obtain ⟨v8, q_v8⟩ : ∃ y : Int32, y = x5 + 1 := ⟨_, rfl⟩
        have hwp := hwp v8 q_v8
        refine lv_iinc (v := v8) (lv' := [(5, .int v8), (0, .ref o0), (1, .int i1), (2, .int i2), (3, .int i3), (4, .int x4)]) hx hb dX7_multiply_151 hl (k := 5) rfl (by rw [q_v8]; rfl) (by decide) rfl (fun ls hl => ?_)
        refine lv_goto (tgt := 89) hx hb dX7_multiply_154 (by decide) ?_
        exact hC89 _ _ _ _ _ _ _ _ hwp hz (lv_sub hl [1, 2, 3, 4, 5, 0] rfl)
    exact key μ I L A x4 x5 H locs ls hi hz hl
  have wL79 : ∀ (I : TI) (L : TL) (A : TA) (x4 : Int32) (H : Heap) (locs : List Loc) (ls : Array Slot), wp_X7_multiply_79 K o0 i1 i2 i3 I L A x4 Q → SS K s I L A H locs → lv_has ls 6 [(0, .ref o0), (1, .int i1), (2, .int i2), (3, .int i3), (4, .int x4)] → W p (cxl K) e (headSpec wsX7_multiply (rmF 2 46)).room s m ([.ref o0, .int i1, .int i2, .int i3] : List Value).toArray below meth c H locs 0 0 (MQ below (cxQi K Q) ([.ref o0, .int i1, .int i2, .int i3] : List Value).toArray s 0 0 (PA (cxb K))) (F0 m 79 ls []) := by
    intro I L A x4 H locs ls hwp hz hl
    obtain ⟨Inv, μ, hi, hst⟩ := hwp
    have key : ∀ (μ : Nat) (I : TI) (L : TL) (A : TA) (x4 : Int32) (H : Heap) (locs : List Loc) (ls : Array Slot), Inv μ I L A x4 → SS K s I L A H locs → lv_has ls 6 [(0, .ref o0), (1, .int i1), (2, .int i2), (3, .int i3), (4, .int x4)] → W p (cxl K) e (headSpec wsX7_multiply (rmF 2 46)).room s m ([.ref o0, .int i1, .int i2, .int i3] : List Value).toArray below meth c H locs 0 0 (MQ below (cxQi K Q) ([.ref o0, .int i1, .int i2, .int i3] : List Value).toArray s 0 0 (PA (cxb K))) (F0 m 79 ls []) := by
      clear hi hz hl
      intro μ
      induction μ using Nat.strongRecOn with | ind μ ih => ?_
      intro I L A x4 H locs ls hi hz hl
      obtain ⟨C79, hCd⟩ : ∃ C : TI → TL → TA → Int32 → Prop, C = fun I L A x4 => ∃ μ', μ' < μ ∧ Inv μ' I L A x4 := ⟨_, rfl⟩
      have hC79 : ∀ (I : TI) (L : TL) (A : TA) (x4 : Int32) (H : Heap) (locs : List Loc) (ls : Array Slot), C79 I L A x4 → SS K s I L A H locs → lv_has ls 6 [(0, .ref o0), (1, .int i1), (2, .int i2), (3, .int i3), (4, .int x4)] → W p (cxl K) e (headSpec wsX7_multiply (rmF 2 46)).room s m ([.ref o0, .int i1, .int i2, .int i3] : List Value).toArray below meth c H locs 0 0 (MQ below (cxQi K Q) ([.ref o0, .int i1, .int i2, .int i3] : List Value).toArray s 0 0 (PA (cxb K))) (F0 m 79 ls []) := by
        intro I L A x4 H locs ls hc hz hl
        rw [hCd] at hc
        obtain ⟨μ', hlt, hc⟩ := hc
        exact ih μ' hlt I L A x4 H locs ls hc hz hl
      have hwp := hst μ C79 (fun μ' I L A x4 hlt hc => by rw [hCd]; exact ⟨μ', hlt, hc⟩) I L A x4 hi
      refine lv_iload hx hb dX7_multiply_79 (lv_at hl 4 rfl) ?_
      refine lv_bipush (v := 7) hx hb dX7_multiply_81 (by decide) ?_
      refine lv_icmp_ge (tgt := 163) hx hb dX7_multiply_83 (by decide) (fun q => ?_) (fun q => ?_)
      · have hwp := hwp.1 q
        refine lv_aload_n hx hb dX7_multiply_163 rfl (lv_at hl 0 rfl) ?_
        refine lv_iload_n hx hb dX7_multiply_164 rfl (lv_at hl 1 rfl) ?_
        obtain ⟨hs9, hwp⟩ := hwp
        obtain ⟨P10, hc11, hwp⟩ := hwp
        refine sw_calli hz (va_runV (As := [.int i1]) (rest := []) ⟨hx, hb, hml, hown, hts⟩ (hc11 hK _) (cwV 1 hts gX7_multiply_X7_finish rfl rfl rfl (by decide +kernel) ⟨Nat.le_of_ble_eq_true rfl, Nat.le_of_ble_eq_true rfl⟩) (hz.preV hK hs9 rfl) rfl rfl hl.1 rfl (lv_room (Nat.le_of_ble_eq_true rfl)) dX7_multiply_165 ⟨Nat.le_of_ble_eq_true rfl, Nat.le_of_ble_eq_true rfl⟩) (fun r15 I12 L13 A14 H locs hp hz => ?_)
        have hwp := hwp r15 I12 L13 A14 hp
        exact sw_iret hx hb hret hlocks hz hwp dX7_multiply_168
      · have hwp := hwp.2 q
        refine lv_iconst (v := 0) hx hb dX7_multiply_86 (by decide) ?_
        refine lv_istore (lv' := [(5, .int 0), (0, .ref o0), (1, .int i1), (2, .int i2), (3, .int i3), (4, .int x4)]) hx hb dX7_multiply_87 hl (by decide) rfl (fun ls hl => ?_)
        exact wL89 _ hC79 _ _ _ _ _ _ _ _ hwp hz (lv_sub hl [1, 2, 3, 4, 5, 0] rfl)
    exact key μ I L A x4 H locs ls hi hz hl
  have wL27 : ∀ (I : TI) (L : TL) (A : TA) (y0 : Int32) (y1 : Nat) (H : Heap) (locs : List Loc) (ls : Array Slot), wp_X7_multiply_27 K o0 i1 i2 i3 I L A y0 y1 Q → SS K s I L A H locs → lv_has ls 6 [(0, .ref o0), (1, .int i1), (2, .int i2), (3, .int i3)] → W p (cxl K) e (headSpec wsX7_multiply (rmF 2 46)).room s m ([.ref o0, .int i1, .int i2, .int i3] : List Value).toArray below meth c H locs 0 0 (MQ below (cxQi K Q) ([.ref o0, .int i1, .int i2, .int i3] : List Value).toArray s 0 0 (PA (cxb K))) (F0 m 27 ls [.int y0, .ref y1]) := by
    intro I L A y0 y1 H locs ls hwp hz hl
    obtain ⟨hs16, hwp⟩ := hwp
    obtain ⟨P17, hc18, hwp⟩ := hwp
    refine sw_calli hz (va_runV (As := [.int y0]) (rest := []) ⟨hx, hb, hml, hown, hts⟩ (hc18 hK _) (cwV 1 hts gX7_multiply_X7_refused rfl rfl rfl (by decide +kernel) ⟨Nat.le_of_ble_eq_true rfl, Nat.le_of_ble_eq_true rfl⟩) (hz.preV hK hs16 rfl) rfl rfl hl.1 rfl (lv_room (Nat.le_of_ble_eq_true rfl)) dX7_multiply_27 ⟨Nat.le_of_ble_eq_true rfl, Nat.le_of_ble_eq_true rfl⟩) (fun r22 I19 L20 A21 H locs hp hz => ?_)
    have hwp := hwp r22 I19 L20 A21 hp
    refine lv_if_eq (tgt := 35) hx hb dX7_multiply_30 (by decide) (fun q => ?_) (fun q => ?_)
    · have hwp := hwp.1 q
      refine lv_aload_n hx hb dX7_multiply_35 rfl (lv_at hl 0 rfl) ?_
      refine lv_bipush (v := 8) hx hb dX7_multiply_36 (by decide) ?_
      obtain ⟨hs23, hwp⟩ := hwp
      obtain ⟨P24, hc25, hwp⟩ := hwp
      refine sw_callv hz (va_runV (As := [.int 8]) (rest := []) ⟨hx, hb, hml, hown, hts⟩ (hc25 hK _) (cwV 1 hts gX7_multiply_X7_clear rfl rfl rfl (by decide +kernel) ⟨Nat.le_of_ble_eq_true rfl, Nat.le_of_ble_eq_true rfl⟩) (hz.preV hK hs23 rfl) rfl rfl hl.1 rfl (lv_room (Nat.le_of_ble_eq_true rfl)) dX7_multiply_38 ⟨Nat.le_of_ble_eq_true rfl, Nat.le_of_ble_eq_true rfl⟩) (fun I26 L27 A28 H locs hp hz => ?_)
      have hwp := hwp I26 L27 A28 hp
      refine lv_aload_n hx hb dX7_multiply_41 rfl (lv_at hl 0 rfl) ?_
      refine lv_iload_n hx hb dX7_multiply_42 rfl (lv_at hl 2 rfl) ?_
      obtain ⟨P29, hc30, hwp⟩ := hwp
      refine sw_calli hz (va_runV (As := [.int i2]) (rest := []) ⟨hx, hb, hml, hown, hts⟩ (hc30 hK _) (cwV 1 hts gX7_multiply_X7_isZero rfl rfl rfl (by decide +kernel) ⟨Nat.le_of_ble_eq_true rfl, Nat.le_of_ble_eq_true rfl⟩) (hz.preV hK hs23 rfl) rfl rfl hl.1 rfl (lv_room (Nat.le_of_ble_eq_true rfl)) dX7_multiply_43 ⟨Nat.le_of_ble_eq_true rfl, Nat.le_of_ble_eq_true rfl⟩) (fun r34 I31 L32 A33 H locs hp hz => ?_)
      have hwp := hwp r34 I31 L32 A33 hp
      refine lv_if_ne (tgt := 76) hx hb dX7_multiply_46 (by decide) (fun q => ?_) (fun q => ?_)
      · have hwp := hwp.2 q
        refine lv_iconst (v := 0) hx hb dX7_multiply_76 (by decide) ?_
        refine lv_istore (lv' := [(4, .int 0), (0, .ref o0), (1, .int i1), (2, .int i2), (3, .int i3)]) hx hb dX7_multiply_77 hl (by decide) rfl (fun ls hl => ?_)
        exact wL79 _ _ _ _ _ _ _ hwp hz (lv_sub hl [1, 2, 3, 4, 0] rfl)
      · have hwp := hwp.1 q
        refine lv_aload_n hx hb dX7_multiply_49 rfl (lv_at hl 0 rfl) ?_
        refine lv_iload_n hx hb dX7_multiply_50 rfl (lv_at hl 3 rfl) ?_
        obtain ⟨P35, hc36, hwp⟩ := hwp
        refine sw_calli hz (va_runV (As := [.int i3]) (rest := []) ⟨hx, hb, hml, hown, hts⟩ (hc36 hK _) (cwV 1 hts gX7_multiply_X7_isZero rfl rfl rfl (by decide +kernel) ⟨Nat.le_of_ble_eq_true rfl, Nat.le_of_ble_eq_true rfl⟩) (hz.preV hK hs23 rfl) rfl rfl hl.1 rfl (lv_room (Nat.le_of_ble_eq_true rfl)) dX7_multiply_51 ⟨Nat.le_of_ble_eq_true rfl, Nat.le_of_ble_eq_true rfl⟩) (fun r40 I37 L38 A39 H locs hp hz => ?_)
        have hwp := hwp r40 I37 L38 A39 hp
        refine lv_if_ne (tgt := 76) hx hb dX7_multiply_54 (by decide) (fun q => ?_) (fun q => ?_)
        · have hwp := hwp.2 q
          refine lv_iconst (v := 0) hx hb dX7_multiply_76 (by decide) ?_
          refine lv_istore (lv' := [(4, .int 0), (0, .ref o0), (1, .int i1), (2, .int i2), (3, .int i3)]) hx hb dX7_multiply_77 hl (by decide) rfl (fun ls hl => ?_)
          exact wL79 _ _ _ _ _ _ _ hwp hz (lv_sub hl [1, 2, 3, 4, 0] rfl)
        · have hwp := hwp.1 q
          refine lv_aload_n hx hb dX7_multiply_57 rfl (lv_at hl 0 rfl) ?_
          refine lv_iload_n hx hb dX7_multiply_58 rfl (lv_at hl 2 rfl) ?_
          obtain ⟨P41, hc42, hwp⟩ := hwp
          refine sw_calli hz (va_runV (As := [.int i2]) (rest := []) ⟨hx, hb, hml, hown, hts⟩ (hc42 hK _) (cwV 1 hts gX7_multiply_X7_degreeOf rfl rfl rfl (by decide +kernel) ⟨Nat.le_of_ble_eq_true rfl, Nat.le_of_ble_eq_true rfl⟩) (hz.preV hK hs23 rfl) rfl rfl hl.1 rfl (lv_room (Nat.le_of_ble_eq_true rfl)) dX7_multiply_59 ⟨Nat.le_of_ble_eq_true rfl, Nat.le_of_ble_eq_true rfl⟩) (fun r46 I43 L44 A45 H locs hp hz => ?_)
          have hwp := hwp r46 I43 L44 A45 hp
          refine lv_aload_n hx hb dX7_multiply_62 rfl (lv_at hl 0 rfl) ?_
          refine lv_iload_n hx hb dX7_multiply_63 rfl (lv_at hl 3 rfl) ?_
          obtain ⟨P47, hc48, hwp⟩ := hwp
          refine sw_calli hz (va_runV (As := [.int i3]) (rest := [.int r46]) ⟨hx, hb, hml, hown, hts⟩ (hc48 hK _) (cwV 1 hts gX7_multiply_X7_degreeOf rfl rfl rfl (by decide +kernel) ⟨Nat.le_of_ble_eq_true rfl, Nat.le_of_ble_eq_true rfl⟩) (hz.preV hK hs23 rfl) rfl rfl hl.1 rfl (lv_room (Nat.le_of_ble_eq_true rfl)) dX7_multiply_64 ⟨Nat.le_of_ble_eq_true rfl, Nat.le_of_ble_eq_true rfl⟩) (fun r52 I49 L50 A51 H locs hp hz => ?_)
          have hwp := hwp r52 I49 L50 A51 hp
          refine lv_iadd hx hb dX7_multiply_67 ?_
          refine lv_bipush (v := 6) hx hb dX7_multiply_68 (by decide) ?_
          refine lv_icmp_le (tgt := 76) hx hb dX7_multiply_70 (by decide) (fun q => ?_) (fun q => ?_)
          · have hwp := hwp.1 q
            refine lv_iconst (v := 0) hx hb dX7_multiply_76 (by decide) ?_
            refine lv_istore (lv' := [(4, .int 0), (0, .ref o0), (1, .int i1), (2, .int i2), (3, .int i3)]) hx hb dX7_multiply_77 hl (by decide) rfl (fun ls hl => ?_)
            exact wL79 _ _ _ _ _ _ _ hwp hz (lv_sub hl [1, 2, 3, 4, 0] rfl)
          · have hwp := hwp.2 q
            refine lv_bipush (v := (-2)) hx hb dX7_multiply_73 (by decide) ?_
            exact sw_iret hx hb hret hlocks hz hwp dX7_multiply_75
    · have hwp := hwp.2 q
      refine lv_iconst (v := 0) hx hb dX7_multiply_33 (by decide) ?_
      exact sw_iret hx hb hret hlocks hz hwp dX7_multiply_34
  have wL26 : ∀ (I : TI) (L : TL) (A : TA) (y0 : Nat) (H : Heap) (locs : List Loc) (ls : Array Slot), wp_X7_multiply_26 K o0 i1 i2 i3 I L A y0 Q → SS K s I L A H locs → lv_has ls 6 [(0, .ref o0), (1, .int i1), (2, .int i2), (3, .int i3)] → W p (cxl K) e (headSpec wsX7_multiply (rmF 2 46)).room s m ([.ref o0, .int i1, .int i2, .int i3] : List Value).toArray below meth c H locs 0 0 (MQ below (cxQi K Q) ([.ref o0, .int i1, .int i2, .int i3] : List Value).toArray s 0 0 (PA (cxb K))) (F0 m 26 ls [.ref y0]) := by
    intro I L A y0 H locs ls hwp hz hl
    refine lv_iconst (v := 1) hx hb dX7_multiply_26 (by decide) ?_
    exact wL27 _ _ _ _ _ _ _ _ hwp hz (lv_sub hl [0, 1, 2, 3] rfl)
  refine lv_aload_n hx hb dX7_multiply_0 rfl (lv_at hl 0 rfl) ?_
  refine lv_iload_n hx hb dX7_multiply_1 rfl (lv_at hl 1 rfl) ?_
  obtain ⟨P53, hc54, hwp⟩ := hwp
  refine sw_calli hz (va_runS (As := [.int i1]) (rest := [.ref o0]) ⟨hx, hb, hml, hown, hts⟩ (hc54 hK _) (va_cwS 1 hts gX7_multiply_X7_isSlot rfl rfl rfl (by decide +kernel) ⟨Nat.le_of_ble_eq_true rfl, Nat.le_of_ble_eq_true rfl⟩) hz.preS rfl rfl hl.1 rfl (lv_room (Nat.le_of_ble_eq_true rfl)) dX7_multiply_2 ⟨Nat.le_of_ble_eq_true rfl, Nat.le_of_ble_eq_true rfl⟩) (fun r58 I55 L56 A57 H locs hp hz => ?_)
  have hwp := hwp r58 I55 L56 A57 hp
  refine lv_if_eq (tgt := 26) hx hb dX7_multiply_5 (by decide) (fun q => ?_) (fun q => ?_)
  · have hwp := hwp.1 q
    exact wL26 _ _ _ _ _ _ _ hwp hz (lv_sub hl [0, 1, 2, 3] rfl)
  · have hwp := hwp.2 q
    refine lv_iload_n hx hb dX7_multiply_8 rfl (lv_at hl 2 rfl) ?_
    obtain ⟨P59, hc60, hwp⟩ := hwp
    refine sw_calli hz (va_runS (As := [.int i2]) (rest := [.ref o0]) ⟨hx, hb, hml, hown, hts⟩ (hc60 hK _) (va_cwS 1 hts gX7_multiply_X7_isSlot rfl rfl rfl (by decide +kernel) ⟨Nat.le_of_ble_eq_true rfl, Nat.le_of_ble_eq_true rfl⟩) hz.preS rfl rfl hl.1 rfl (lv_room (Nat.le_of_ble_eq_true rfl)) dX7_multiply_9 ⟨Nat.le_of_ble_eq_true rfl, Nat.le_of_ble_eq_true rfl⟩) (fun r64 I61 L62 A63 H locs hp hz => ?_)
    have hwp := hwp r64 I61 L62 A63 hp
    refine lv_if_eq (tgt := 26) hx hb dX7_multiply_12 (by decide) (fun q => ?_) (fun q => ?_)
    · have hwp := hwp.1 q
      exact wL26 _ _ _ _ _ _ _ hwp hz (lv_sub hl [0, 1, 2, 3] rfl)
    · have hwp := hwp.2 q
      refine lv_iload_n hx hb dX7_multiply_15 rfl (lv_at hl 3 rfl) ?_
      obtain ⟨P65, hc66, hwp⟩ := hwp
      refine sw_calli hz (va_runS (As := [.int i3]) (rest := [.ref o0]) ⟨hx, hb, hml, hown, hts⟩ (hc66 hK _) (va_cwS 1 hts gX7_multiply_X7_isSlot rfl rfl rfl (by decide +kernel) ⟨Nat.le_of_ble_eq_true rfl, Nat.le_of_ble_eq_true rfl⟩) hz.preS rfl rfl hl.1 rfl (lv_room (Nat.le_of_ble_eq_true rfl)) dX7_multiply_16 ⟨Nat.le_of_ble_eq_true rfl, Nat.le_of_ble_eq_true rfl⟩) (fun r70 I67 L68 A69 H locs hp hz => ?_)
      have hwp := hwp r70 I67 L68 A69 hp
      refine lv_if_eq (tgt := 26) hx hb dX7_multiply_19 (by decide) (fun q => ?_) (fun q => ?_)
      · have hwp := hwp.1 q
        exact wL26 _ _ _ _ _ _ _ hwp hz (lv_sub hl [0, 1, 2, 3] rfl)
      · have hwp := hwp.2 q
        refine lv_iconst (v := 0) hx hb dX7_multiply_22 (by decide) ?_
        refine lv_goto (tgt := 27) hx hb dX7_multiply_23 (by decide) ?_
        exact wL27 _ _ _ _ _ _ _ _ hwp hz (lv_sub hl [0, 1, 2, 3] rfl)

def wp_X7_part (K : Cx) (I : TI) (L : TL) (A : TA) (o0 : Nat) (i1 : Int32) (i2 : Int32) (Q : Int64 → TI → TL → TA → Prop) : Prop := cxS K o0 = shX7 o0 ∧ ∀ I2 : TI, I2 = u2 I o0 0 0 → ∃ P3 : Int32 → TI → TL → TA → Prop, ConI K yX7_isIn wsX7_isIn 0 0 I2 L A [.int i1, .int 0, .int ((I2 o0 7) - 1)] P3 ∧ ∀ (r8 : Int32) (I5 : TI) (L6 : TL) (A7 : TA), P3 r8 I5 L6 A7 → ((r8 = 0 → Q 0 I5 L6 A7) ∧ (¬ r8 = 0 → ∃ P9 : Int32 → TI → TL → TA → Prop, ConI K yX7_isIn wsX7_isIn 0 0 I5 L6 A7 [.int i2, .int 0, .int 6] P9 ∧ ∀ (r14 : Int32) (I11 : TI) (L12 : TL) (A13 : TA), P9 r14 I11 L12 A13 → ((r14 = 0 → Q 0 I11 L12 A13) ∧ (¬ r14 = 0 → aok (cxS K) (o0 + 4) 1 ((8 * i1) + i2) ∧ Q (L12 (o0 + 4) (ix ((8 * i1) + i2))) I11 L12 A13))))
set_option maxHeartbeats 1000000 in
set_option maxRecDepth 100000 in
theorem w_X7_part (K : Cx) (I : TI) (L : TL) (A : TA) (o0 : Nat) (i1 : Int32) (i2 : Int32) (Q : Int64 → TI → TL → TA → Prop) (hwp : wp_X7_part K I L A o0 i1 i2 Q) : ConL K yX7_part wsX7_part 1 22 I L A [.ref o0, .int i1, .int i2] Q := by
  intro hK sz
  refine Met.ofW (cc := cX7_part) (maxL := 3) (ret := (some .long)) (by decide) rfl ?_
  intro p e s m args below meth c s₁ B hml hv
  obtain ⟨rfl, hsz, hB⟩ := hv
  have hx := B.exec
  have hb := B.bytes
  have hret := B.returns
  have hts := atoms_spec (ws := wsX7_part) B.pre
  have hown : s.vm.findClass RX7 = some m.cls := findClass_of_methodNamed B.named
  have hlocks := B.notSynchronized
  subst hsz
  have hz : SS K s I L A s.heap [] := PS.start hB
  have hl := lv_entry ([.ref o0, .int i1, .int i2]) (n := 3) (Nat.le_of_ble_eq_true rfl)
  rw [lg_entry_eq]
  generalize (lg_sl ([.ref o0, .int i1, .int i2]) ++ List.replicate (3 - (lg_sl ([.ref o0, .int i1, .int i2])).length) Slot.unset).toArray = ls at hl ⊢
  have hl : lv_has ls 3 [(0, .ref o0), (1, .int i1), (2, .int i2)] := hl
  have hw0 : ∀ w ∈ u_ws RX7 TX7 25, w ∈ wsX7_part := by decide +kernel
  have hw1 := hts (.fieldLink RX7 35 "GaloisDeskModel" "refusal" "I") (by decide +kernel)
  have hw2 := hts (.fieldLink RX7 161 "GaloisDeskModel" "told" "I") (by decide +kernel)
  have hw3 := hts (.fieldLink RX7 20 "GaloisDeskModel" "toldRow" "[J") (by decide +kernel)
  clear hB B
  refine lv_aload_n hx hb dX7_part_0 rfl (lv_at hl 0 rfl) ?_
  refine lv_iconst (v := 0) hx hb dX7_part_1 (by decide) ?_
  obtain ⟨hs1, hwp⟩ := hwp
  refine sw_putI (C := RX7) (T := TX7) (N := 25) hx hb hts hw0 tyX7 tyX7_ok nmX7 hown hK hz hs1 rfl 0 (by decide) hw1 (fun _ h9 => h9) rfl (by decide +kernel) rfl dX7_part_2 (fun H locs I2 e_I2 hz => ?_)
  have hwp := hwp I2 e_I2
  refine lv_iload_n hx hb dX7_part_5 rfl (lv_at hl 1 rfl) ?_
  refine lv_iconst (v := 0) hx hb dX7_part_6 (by decide) ?_
  refine lv_aload_n hx hb dX7_part_7 rfl (lv_at hl 0 rfl) ?_
  refine sw_get (C := RX7) (T := TX7) (N := 25) (v := .int (I2 o0 7)) hx hb hts hw0 hown hK hz hs1 rfl 7 (by decide) hw2 (fun _ h9 => h9) rfl dX7_part_8 ?_
  refine lv_iconst (v := 1) hx hb dX7_part_11 (by decide) ?_
  refine lv_isub hx hb dX7_part_12 ?_
  obtain ⟨P3, hc4, hwp⟩ := hwp
  refine sw_calli hz (va_runS (As := [.int i1, .int 0, .int ((I2 o0 7) - 1)]) (rest := []) ⟨hx, hb, hml, hown, hts⟩ (hc4 hK _) (va_cwS 3 hts gX7_part_X7_isIn rfl rfl rfl (by decide +kernel) ⟨Nat.le_of_ble_eq_true rfl, Nat.le_of_ble_eq_true rfl⟩) hz.preS rfl rfl hl.1 rfl (lv_room (Nat.le_of_ble_eq_true rfl)) dX7_part_13 ⟨Nat.le_of_ble_eq_true rfl, Nat.le_of_ble_eq_true rfl⟩) (fun r8 I5 L6 A7 H locs hp hz => ?_)
  have hwp := hwp r8 I5 L6 A7 hp
  refine lv_if_eq (tgt := 43) hx hb dX7_part_16 (by decide) (fun q => ?_) (fun q => ?_)
  · have hwp := hwp.1 q
    refine lv_lconst (v := 0) hx hb dX7_part_43 (by decide) ?_
    exact sw_lret hx hb hret hlocks hz hwp dX7_part_44
  · have hwp := hwp.2 q
    refine lv_iload_n hx hb dX7_part_19 rfl (lv_at hl 2 rfl) ?_
    refine lv_iconst (v := 0) hx hb dX7_part_20 (by decide) ?_
    refine lv_bipush (v := 6) hx hb dX7_part_21 (by decide) ?_
    obtain ⟨P9, hc10, hwp⟩ := hwp
    refine sw_calli hz (va_runS (As := [.int i2, .int 0, .int 6]) (rest := []) ⟨hx, hb, hml, hown, hts⟩ (hc10 hK _) (va_cwS 3 hts gX7_part_X7_isIn rfl rfl rfl (by decide +kernel) ⟨Nat.le_of_ble_eq_true rfl, Nat.le_of_ble_eq_true rfl⟩) hz.preS rfl rfl hl.1 rfl (lv_room (Nat.le_of_ble_eq_true rfl)) dX7_part_23 ⟨Nat.le_of_ble_eq_true rfl, Nat.le_of_ble_eq_true rfl⟩) (fun r14 I11 L12 A13 H locs hp hz => ?_)
    have hwp := hwp r14 I11 L12 A13 hp
    refine lv_if_eq (tgt := 43) hx hb dX7_part_26 (by decide) (fun q => ?_) (fun q => ?_)
    · have hwp := hwp.1 q
      refine lv_lconst (v := 0) hx hb dX7_part_43 (by decide) ?_
      exact sw_lret hx hb hret hlocks hz hwp dX7_part_44
    · have hwp := hwp.2 q
      refine lv_aload_n hx hb dX7_part_29 rfl (lv_at hl 0 rfl) ?_
      refine sw_get (C := RX7) (T := TX7) (N := 25) (v := .ref (o0 + 4)) hx hb hts hw0 hown hK hz hs1 rfl 9 (by decide) hw3 (fun _ h9 => h9) rfl dX7_part_30 ?_
      refine lv_bipush (v := 8) hx hb dX7_part_33 (by decide) ?_
      refine lv_iload_n hx hb dX7_part_35 rfl (lv_at hl 1 rfl) ?_
      refine lv_imul hx hb dX7_part_36 ?_
      refine lv_iload_n hx hb dX7_part_37 rfl (lv_at hl 2 rfl) ?_
      refine lv_iadd hx hb dX7_part_38 ?_
      obtain ⟨ho15, hwp⟩ := hwp
      refine sw_lald hx hb hK hz ho15 dX7_part_39 ?_
      refine lv_goto (tgt := 44) hx hb dX7_part_40 (by decide) ?_
      exact sw_lret hx hb hret hlocks hz hwp dX7_part_44

def wp_X7_parts_77 (K : Cx) (o0 : Nat) (i1 : Int32) (C55 : TI → TL → TA → Int32 → Prop) (I : TI) (L : TL) (A : TA) (x2 : Int32) (x3 : Int32) (Q : Int32 → TI → TL → TA → Prop) : Prop := ∃ (Inv : Nat → TI → TL → TA → Int32 → Int32 → Prop) (μ : Nat), Inv μ I L A x2 x3 ∧ ∀ (μ : Nat) (C77 : TI → TL → TA → Int32 → Int32 → Prop), (∀ (μ' : Nat) (I : TI) (L : TL) (A : TA) (x2 : Int32) (x3 : Int32) , μ' < μ → Inv μ' I L A x2 x3 → C77 I L A x2 x3) → ∀ (I : TI) (L : TL) (A : TA) (x2 : Int32) (x3 : Int32) , Inv μ I L A x2 x3 → ((8 ≤ x3 → ∀ v1 : Int32, v1 = x2 + 1 → C55 I L A v1) ∧ (¬ 8 ≤ x3 → cxS K o0 = shX7 o0 ∧ aok (cxS K) (o0 + 1) 1 ((8 * (12 + x2)) + x3) ∧ aok (cxS K) (o0 + 4) 1 ((8 * x2) + x3) ∧ ∀ L5 : TL, L5 = u2 L (o0 + 4) (ix ((8 * x2) + x3)) (L (o0 + 1) (ix ((8 * (12 + x2)) + x3))) → ∀ v6 : Int32, v6 = x3 + 1 → C77 I L5 A x2 v6))
def wp_X7_parts_55 (K : Cx) (o0 : Nat) (i1 : Int32) (I : TI) (L : TL) (A : TA) (x2 : Int32) (Q : Int32 → TI → TL → TA → Prop) : Prop := ∃ (Inv : Nat → TI → TL → TA → Int32 → Prop) (μ : Nat), Inv μ I L A x2 ∧ ∀ (μ : Nat) (C55 : TI → TL → TA → Int32 → Prop), (∀ (μ' : Nat) (I : TI) (L : TL) (A : TA) (x2 : Int32) , μ' < μ → Inv μ' I L A x2 → C55 I L A x2) → ∀ (I : TI) (L : TL) (A : TA) (x2 : Int32) , Inv μ I L A x2 → cxS K o0 = shX7 o0 ∧ (((I o0 2) ≤ x2 → Q (I o0 2) I L A) ∧ (¬ (I o0 2) ≤ x2 → aok (cxS K) (o0 + 2) 0 x2 ∧ aok (cxS K) (o0 + 5) 0 x2 ∧ ∀ I10 : TI, I10 = u2 I (o0 + 5) (ix x2) (I (o0 + 2) (ix x2)) → wp_X7_parts_77 K o0 i1 C55 I10 L A x2 0 Q))
def wp_X7_parts_13 (K : Cx) (o0 : Nat) (i1 : Int32) (I : TI) (L : TL) (A : TA) (y0 : Int32) (y1 : Nat) (Q : Int32 → TI → TL → TA → Prop) : Prop := cxS K y1 = shX7 y1 ∧ ∃ P12 : Int32 → TI → TL → TA → Prop, ConI K yX7_refused wsX7_refused 0 0 I L A [.ref y1, .int y0] P12 ∧ ∀ (r17 : Int32) (I14 : TI) (L15 : TL) (A16 : TA), P12 r17 I14 L15 A16 → ((r17 = 0 → cxS K o0 = shX7 o0 ∧ ∃ P19 : Int32 → TI → TL → TA → Prop, ConI K yX7_isZero wsX7_isZero 1 22 I14 L15 A16 [.ref o0, .int i1] P19 ∧ ∀ (r24 : Int32) (I21 : TI) (L22 : TL) (A23 : TA), P19 r24 I21 L22 A23 → ((r24 = 0 → ∃ P25 : TI → TL → TA → Prop, ConV K yX7_takeApart wsX7_takeApart 6 149 I21 L22 A23 [.ref o0, .int i1] P25 ∧ ∀ (I27 : TI) (L28 : TL) (A29 : TA), P25 I27 L28 A29 → ∀ I30 : TI, I30 = u2 I27 o0 7 (I27 o0 2) → ∀ I31 : TI, I31 = u2 I30 o0 8 (I30 o0 6) → wp_X7_parts_55 K o0 i1 I31 L28 A29 0 Q) ∧ (¬ r24 = 0 → Q (-3) I21 L22 A23))) ∧ (¬ r17 = 0 → Q 0 I14 L15 A16))
def wp_X7_parts (K : Cx) (I : TI) (L : TL) (A : TA) (o0 : Nat) (i1 : Int32) (Q : Int32 → TI → TL → TA → Prop) : Prop := ∃ P32 : Int32 → TI → TL → TA → Prop, ConI K yX7_isSlot wsX7_isSlot 0 0 I L A [.int i1] P32 ∧ ∀ (r37 : Int32) (I34 : TI) (L35 : TL) (A36 : TA), P32 r37 I34 L35 A36 → ((r37 = 0 → wp_X7_parts_13 K o0 i1 I34 L35 A36 1 o0 Q) ∧ (¬ r37 = 0 → wp_X7_parts_13 K o0 i1 I34 L35 A36 0 o0 Q))
set_option maxHeartbeats 1000000 in
set_option maxRecDepth 100000 in
theorem w_X7_parts (K : Cx) (I : TI) (L : TL) (A : TA) (o0 : Nat) (i1 : Int32) (Q : Int32 → TI → TL → TA → Prop) (hwp : wp_X7_parts K I L A o0 i1 Q) : ConI K yX7_parts wsX7_parts 7 170 I L A [.ref o0, .int i1] Q := by
  intro hK sz
  refine Met.ofW (cc := cX7_parts) (maxL := 4) (ret := (some .int)) (by decide) rfl ?_
  intro p e s m args below meth c s₁ B hml hv
  obtain ⟨rfl, hsz, hB⟩ := hv
  have hx := B.exec
  have hb := B.bytes
  have hret := B.returns
  have hts := atoms_spec (ws := wsX7_parts) B.pre
  have hown : s.vm.findClass RX7 = some m.cls := findClass_of_methodNamed B.named
  have hlocks := B.notSynchronized
  subst hsz
  have hz : SS K s I L A s.heap [] := PS.start hB
  have hl := lv_entry ([.ref o0, .int i1]) (n := 4) (Nat.le_of_ble_eq_true rfl)
  rw [lg_entry_eq]
  generalize (lg_sl ([.ref o0, .int i1]) ++ List.replicate (4 - (lg_sl ([.ref o0, .int i1])).length) Slot.unset).toArray = ls at hl ⊢
  have hl : lv_has ls 4 [(0, .ref o0), (1, .int i1)] := hl
  have hw0 : ∀ w ∈ u_ws RX7 TX7 25, w ∈ wsX7_parts := by decide +kernel
  have hw1 := hts (.fieldLink RX7 20 "GaloisDeskModel" "toldRow" "[J") (by decide +kernel)
  have hw2 := hts (.fieldLink RX7 7 "GaloisDeskModel" "row" "[J") (by decide +kernel)
  have hw3 := hts (.fieldLink RX7 83 "GaloisDeskModel" "many" "I") (by decide +kernel)
  have hw4 := hts (.fieldLink RX7 23 "GaloisDeskModel" "toldOften" "[I") (by decide +kernel)
  have hw5 := hts (.fieldLink RX7 13 "GaloisDeskModel" "often" "[I") (by decide +kernel)
  have hw6 := hts (.fieldLink RX7 161 "GaloisDeskModel" "told" "I") (by decide +kernel)
  have hw7 := hts (.fieldLink RX7 134 "GaloisDeskModel" "content" "I") (by decide +kernel)
  have hw8 := hts (.fieldLink RX7 164 "GaloisDeskModel" "toldContent" "I") (by decide +kernel)
  clear hB B
  have wL77 : ∀ (C55 : TI → TL → TA → Int32 → Prop) (hC55 : ∀ (I : TI) (L : TL) (A : TA) (x2 : Int32) (H : Heap) (locs : List Loc) (ls : Array Slot), C55 I L A x2 → SS K s I L A H locs → lv_has ls 4 [(0, .ref o0), (2, .int x2)] → W p (cxl K) e (headSpec wsX7_parts (rmF 7 170)).room s m ([.ref o0, .int i1] : List Value).toArray below meth c H locs 0 0 (MQ below (cxQi K Q) ([.ref o0, .int i1] : List Value).toArray s 0 0 (PA (cxb K))) (F0 m 55 ls [])) (I : TI) (L : TL) (A : TA) (x2 : Int32) (x3 : Int32) (H : Heap) (locs : List Loc) (ls : Array Slot), wp_X7_parts_77 K o0 i1 C55 I L A x2 x3 Q → SS K s I L A H locs → lv_has ls 4 [(0, .ref o0), (2, .int x2), (3, .int x3)] → W p (cxl K) e (headSpec wsX7_parts (rmF 7 170)).room s m ([.ref o0, .int i1] : List Value).toArray below meth c H locs 0 0 (MQ below (cxQi K Q) ([.ref o0, .int i1] : List Value).toArray s 0 0 (PA (cxb K))) (F0 m 77 ls []) := by
    intro C55 hC55 I L A x2 x3 H locs ls hwp hz hl
    obtain ⟨Inv, μ, hi, hst⟩ := hwp
    have key : ∀ (μ : Nat) (I : TI) (L : TL) (A : TA) (x2 : Int32) (x3 : Int32) (H : Heap) (locs : List Loc) (ls : Array Slot), Inv μ I L A x2 x3 → SS K s I L A H locs → lv_has ls 4 [(0, .ref o0), (2, .int x2), (3, .int x3)] → W p (cxl K) e (headSpec wsX7_parts (rmF 7 170)).room s m ([.ref o0, .int i1] : List Value).toArray below meth c H locs 0 0 (MQ below (cxQi K Q) ([.ref o0, .int i1] : List Value).toArray s 0 0 (PA (cxb K))) (F0 m 77 ls []) := by
      clear hi hz hl
      intro μ
      induction μ using Nat.strongRecOn with | ind μ ih => ?_
      intro I L A x2 x3 H locs ls hi hz hl
      obtain ⟨C77, hCd⟩ : ∃ C : TI → TL → TA → Int32 → Int32 → Prop, C = fun I L A x2 x3 => ∃ μ', μ' < μ ∧ Inv μ' I L A x2 x3 := ⟨_, rfl⟩
      have hC77 : ∀ (I : TI) (L : TL) (A : TA) (x2 : Int32) (x3 : Int32) (H : Heap) (locs : List Loc) (ls : Array Slot), C77 I L A x2 x3 → SS K s I L A H locs → lv_has ls 4 [(0, .ref o0), (2, .int x2), (3, .int x3)] → W p (cxl K) e (headSpec wsX7_parts (rmF 7 170)).room s m ([.ref o0, .int i1] : List Value).toArray below meth c H locs 0 0 (MQ below (cxQi K Q) ([.ref o0, .int i1] : List Value).toArray s 0 0 (PA (cxb K))) (F0 m 77 ls []) := by
        intro I L A x2 x3 H locs ls hc hz hl
        rw [hCd] at hc
        obtain ⟨μ', hlt, hc⟩ := hc
        exact ih μ' hlt I L A x2 x3 H locs ls hc hz hl
      have hwp := hst μ C77 (fun μ' I L A x2 x3 hlt hc => by rw [hCd]; exact ⟨μ', hlt, hc⟩) I L A x2 x3 hi
      refine lv_iload_n hx hb dX7_parts_77 rfl (lv_at hl 2 rfl) ?_
      refine lv_bipush (v := 8) hx hb dX7_parts_78 (by decide) ?_
      refine lv_icmp_ge (tgt := 114) hx hb dX7_parts_80 (by decide) (fun q => ?_) (fun q => ?_)
      · have hwp := hwp.1 q
        obtain ⟨v1, q_v1⟩ : ∃ y : Int32, y = x2 + 1 := ⟨_, rfl⟩
        have hwp := hwp v1 q_v1
        refine lv_iinc (v := v1) (lv' := [(2, .int v1), (0, .ref o0), (3, .int x3)]) hx hb dX7_parts_114 hl (k := 1) rfl (by rw [q_v1]; rfl) (by decide) rfl (fun ls hl => ?_)
        refine lv_goto (tgt := 55) hx hb dX7_parts_117 (by decide) ?_
        exact hC55 _ _ _ _ _ _ _ hwp hz (lv_sub hl [1, 0] rfl)
      · have hwp := hwp.2 q
        refine lv_aload_n hx hb dX7_parts_83 rfl (lv_at hl 0 rfl) ?_
        obtain ⟨hs2, hwp⟩ := hwp
        refine sw_get (C := RX7) (T := TX7) (N := 25) (v := .ref (o0 + 4)) hx hb hts hw0 hown hK hz hs2 rfl 9 (by decide) hw1 (fun _ h9 => h9) rfl dX7_parts_84 ?_
        refine lv_bipush (v := 8) hx hb dX7_parts_87 (by decide) ?_
        refine lv_iload_n hx hb dX7_parts_89 rfl (lv_at hl 1 rfl) ?_
        refine lv_imul hx hb dX7_parts_90 ?_
        refine lv_iload_n hx hb dX7_parts_91 rfl (lv_at hl 2 rfl) ?_
        refine lv_iadd hx hb dX7_parts_92 ?_
        refine lv_aload_n hx hb dX7_parts_93 rfl (lv_at hl 0 rfl) ?_
        refine sw_get (C := RX7) (T := TX7) (N := 25) (v := .ref (o0 + 1)) hx hb hts hw0 hown hK hz hs2 rfl 1 (by decide) hw2 (fun _ h9 => h9) rfl dX7_parts_94 ?_
        refine lv_bipush (v := 8) hx hb dX7_parts_97 (by decide) ?_
        refine lv_bipush (v := 12) hx hb dX7_parts_99 (by decide) ?_
        refine lv_iload_n hx hb dX7_parts_101 rfl (lv_at hl 1 rfl) ?_
        refine lv_iadd hx hb dX7_parts_102 ?_
        refine lv_imul hx hb dX7_parts_103 ?_
        refine lv_iload_n hx hb dX7_parts_104 rfl (lv_at hl 2 rfl) ?_
        refine lv_iadd hx hb dX7_parts_105 ?_
        obtain ⟨ho3, hwp⟩ := hwp
        refine sw_lald hx hb hK hz ho3 dX7_parts_106 ?_
        obtain ⟨ho4, hwp⟩ := hwp
        refine sw_last hx hb hK hz ho4 dX7_parts_107 (fun H locs L5 e_L5 hz => ?_)
        have hwp := hwp L5 e_L5
        obtain ⟨v6, q_v6⟩ : ∃ y : Int32, y = x3 + 1 := ⟨_, rfl⟩
        have hwp := hwp v6 q_v6
        refine lv_iinc (v := v6) (lv' := [(3, .int v6), (0, .ref o0), (2, .int x2)]) hx hb dX7_parts_108 hl (k := 2) rfl (by rw [q_v6]; rfl) (by decide) rfl (fun ls hl => ?_)
        refine lv_goto (tgt := 77) hx hb dX7_parts_111 (by decide) ?_
        exact hC77 _ _ _ _ _ _ _ _ hwp hz (lv_sub hl [1, 2, 0] rfl)
    exact key μ I L A x2 x3 H locs ls hi hz hl
  have wL55 : ∀ (I : TI) (L : TL) (A : TA) (x2 : Int32) (H : Heap) (locs : List Loc) (ls : Array Slot), wp_X7_parts_55 K o0 i1 I L A x2 Q → SS K s I L A H locs → lv_has ls 4 [(0, .ref o0), (2, .int x2)] → W p (cxl K) e (headSpec wsX7_parts (rmF 7 170)).room s m ([.ref o0, .int i1] : List Value).toArray below meth c H locs 0 0 (MQ below (cxQi K Q) ([.ref o0, .int i1] : List Value).toArray s 0 0 (PA (cxb K))) (F0 m 55 ls []) := by
    intro I L A x2 H locs ls hwp hz hl
    obtain ⟨Inv, μ, hi, hst⟩ := hwp
    have key : ∀ (μ : Nat) (I : TI) (L : TL) (A : TA) (x2 : Int32) (H : Heap) (locs : List Loc) (ls : Array Slot), Inv μ I L A x2 → SS K s I L A H locs → lv_has ls 4 [(0, .ref o0), (2, .int x2)] → W p (cxl K) e (headSpec wsX7_parts (rmF 7 170)).room s m ([.ref o0, .int i1] : List Value).toArray below meth c H locs 0 0 (MQ below (cxQi K Q) ([.ref o0, .int i1] : List Value).toArray s 0 0 (PA (cxb K))) (F0 m 55 ls []) := by
      clear hi hz hl
      intro μ
      induction μ using Nat.strongRecOn with | ind μ ih => ?_
      intro I L A x2 H locs ls hi hz hl
      obtain ⟨C55, hCd⟩ : ∃ C : TI → TL → TA → Int32 → Prop, C = fun I L A x2 => ∃ μ', μ' < μ ∧ Inv μ' I L A x2 := ⟨_, rfl⟩
      have hC55 : ∀ (I : TI) (L : TL) (A : TA) (x2 : Int32) (H : Heap) (locs : List Loc) (ls : Array Slot), C55 I L A x2 → SS K s I L A H locs → lv_has ls 4 [(0, .ref o0), (2, .int x2)] → W p (cxl K) e (headSpec wsX7_parts (rmF 7 170)).room s m ([.ref o0, .int i1] : List Value).toArray below meth c H locs 0 0 (MQ below (cxQi K Q) ([.ref o0, .int i1] : List Value).toArray s 0 0 (PA (cxb K))) (F0 m 55 ls []) := by
        intro I L A x2 H locs ls hc hz hl
        rw [hCd] at hc
        obtain ⟨μ', hlt, hc⟩ := hc
        exact ih μ' hlt I L A x2 H locs ls hc hz hl
      have hwp := hst μ C55 (fun μ' I L A x2 hlt hc => by rw [hCd]; exact ⟨μ', hlt, hc⟩) I L A x2 hi
      refine lv_iload_n hx hb dX7_parts_55 rfl (lv_at hl 1 rfl) ?_
      refine lv_aload_n hx hb dX7_parts_56 rfl (lv_at hl 0 rfl) ?_
      obtain ⟨hs7, hwp⟩ := hwp
      refine sw_get (C := RX7) (T := TX7) (N := 25) (v := .int (I o0 2)) hx hb hts hw0 hown hK hz hs7 rfl 2 (by decide) hw3 (fun _ h9 => h9) rfl dX7_parts_57 ?_
      refine lv_icmp_ge (tgt := 120) hx hb dX7_parts_60 (by decide) (fun q => ?_) (fun q => ?_)
      · have hwp := hwp.1 q
        refine lv_aload_n hx hb dX7_parts_120 rfl (lv_at hl 0 rfl) ?_
        refine sw_get (C := RX7) (T := TX7) (N := 25) (v := .int (I o0 2)) hx hb hts hw0 hown hK hz hs7 rfl 2 (by decide) hw3 (fun _ h9 => h9) rfl dX7_parts_121 ?_
        exact sw_iret hx hb hret hlocks hz hwp dX7_parts_124
      · have hwp := hwp.2 q
        refine lv_aload_n hx hb dX7_parts_63 rfl (lv_at hl 0 rfl) ?_
        refine sw_get (C := RX7) (T := TX7) (N := 25) (v := .ref (o0 + 5)) hx hb hts hw0 hown hK hz hs7 rfl 10 (by decide) hw4 (fun _ h9 => h9) rfl dX7_parts_64 ?_
        refine lv_iload_n hx hb dX7_parts_67 rfl (lv_at hl 1 rfl) ?_
        refine lv_aload_n hx hb dX7_parts_68 rfl (lv_at hl 0 rfl) ?_
        refine sw_get (C := RX7) (T := TX7) (N := 25) (v := .ref (o0 + 2)) hx hb hts hw0 hown hK hz hs7 rfl 4 (by decide) hw5 (fun _ h9 => h9) rfl dX7_parts_69 ?_
        refine lv_iload_n hx hb dX7_parts_72 rfl (lv_at hl 1 rfl) ?_
        obtain ⟨ho8, hwp⟩ := hwp
        refine sw_iald hx hb hK hz ho8 dX7_parts_73 ?_
        obtain ⟨ho9, hwp⟩ := hwp
        refine sw_iast hx hb hK hz ho9 dX7_parts_74 (fun H locs I10 e_I10 hz => ?_)
        have hwp := hwp I10 e_I10
        refine lv_iconst (v := 0) hx hb dX7_parts_75 (by decide) ?_
        refine lv_istore_n (lv' := [(3, .int 0), (0, .ref o0), (2, .int x2)]) hx hb dX7_parts_76 rfl hl (by decide) rfl (fun ls hl => ?_)
        exact wL77 _ hC55 _ _ _ _ _ _ _ _ hwp hz (lv_sub hl [1, 2, 0] rfl)
    exact key μ I L A x2 H locs ls hi hz hl
  have wL13 : ∀ (I : TI) (L : TL) (A : TA) (y0 : Int32) (y1 : Nat) (H : Heap) (locs : List Loc) (ls : Array Slot), wp_X7_parts_13 K o0 i1 I L A y0 y1 Q → SS K s I L A H locs → lv_has ls 4 [(0, .ref o0), (1, .int i1)] → W p (cxl K) e (headSpec wsX7_parts (rmF 7 170)).room s m ([.ref o0, .int i1] : List Value).toArray below meth c H locs 0 0 (MQ below (cxQi K Q) ([.ref o0, .int i1] : List Value).toArray s 0 0 (PA (cxb K))) (F0 m 13 ls [.int y0, .ref y1]) := by
    intro I L A y0 y1 H locs ls hwp hz hl
    obtain ⟨hs11, hwp⟩ := hwp
    obtain ⟨P12, hc13, hwp⟩ := hwp
    refine sw_calli hz (va_runV (As := [.int y0]) (rest := []) ⟨hx, hb, hml, hown, hts⟩ (hc13 hK _) (cwV 1 hts gX7_parts_X7_refused rfl rfl rfl (by decide +kernel) ⟨Nat.le_of_ble_eq_true rfl, Nat.le_of_ble_eq_true rfl⟩) (hz.preV hK hs11 rfl) rfl rfl hl.1 rfl (lv_room (Nat.le_of_ble_eq_true rfl)) dX7_parts_13 ⟨Nat.le_of_ble_eq_true rfl, Nat.le_of_ble_eq_true rfl⟩) (fun r17 I14 L15 A16 H locs hp hz => ?_)
    have hwp := hwp r17 I14 L15 A16 hp
    refine lv_if_eq (tgt := 21) hx hb dX7_parts_16 (by decide) (fun q => ?_) (fun q => ?_)
    · have hwp := hwp.1 q
      refine lv_aload_n hx hb dX7_parts_21 rfl (lv_at hl 0 rfl) ?_
      refine lv_iload_n hx hb dX7_parts_22 rfl (lv_at hl 1 rfl) ?_
      obtain ⟨hs18, hwp⟩ := hwp
      obtain ⟨P19, hc20, hwp⟩ := hwp
      refine sw_calli hz (va_runV (As := [.int i1]) (rest := []) ⟨hx, hb, hml, hown, hts⟩ (hc20 hK _) (cwV 1 hts gX7_parts_X7_isZero rfl rfl rfl (by decide +kernel) ⟨Nat.le_of_ble_eq_true rfl, Nat.le_of_ble_eq_true rfl⟩) (hz.preV hK hs18 rfl) rfl rfl hl.1 rfl (lv_room (Nat.le_of_ble_eq_true rfl)) dX7_parts_23 ⟨Nat.le_of_ble_eq_true rfl, Nat.le_of_ble_eq_true rfl⟩) (fun r24 I21 L22 A23 H locs hp hz => ?_)
      have hwp := hwp r24 I21 L22 A23 hp
      refine lv_if_eq (tgt := 32) hx hb dX7_parts_26 (by decide) (fun q => ?_) (fun q => ?_)
      · have hwp := hwp.1 q
        refine lv_aload_n hx hb dX7_parts_32 rfl (lv_at hl 0 rfl) ?_
        refine lv_iload_n hx hb dX7_parts_33 rfl (lv_at hl 1 rfl) ?_
        obtain ⟨P25, hc26, hwp⟩ := hwp
        refine sw_callv hz (va_runV (As := [.int i1]) (rest := []) ⟨hx, hb, hml, hown, hts⟩ (hc26 hK _) (cwV 1 hts gX7_parts_X7_takeApart rfl rfl rfl (by decide +kernel) ⟨Nat.le_of_ble_eq_true rfl, Nat.le_of_ble_eq_true rfl⟩) (hz.preV hK hs18 rfl) rfl rfl hl.1 rfl (lv_room (Nat.le_of_ble_eq_true rfl)) dX7_parts_34 ⟨Nat.le_of_ble_eq_true rfl, Nat.le_of_ble_eq_true rfl⟩) (fun I27 L28 A29 H locs hp hz => ?_)
        have hwp := hwp I27 L28 A29 hp
        refine lv_aload_n hx hb dX7_parts_37 rfl (lv_at hl 0 rfl) ?_
        refine lv_aload_n hx hb dX7_parts_38 rfl (lv_at hl 0 rfl) ?_
        refine sw_get (C := RX7) (T := TX7) (N := 25) (v := .int (I27 o0 2)) hx hb hts hw0 hown hK hz hs18 rfl 2 (by decide) hw3 (fun _ h9 => h9) rfl dX7_parts_39 ?_
        refine sw_putI (C := RX7) (T := TX7) (N := 25) hx hb hts hw0 tyX7 tyX7_ok nmX7 hown hK hz hs18 rfl 7 (by decide) hw6 (fun _ h9 => h9) rfl (by decide +kernel) rfl dX7_parts_42 (fun H locs I30 e_I30 hz => ?_)
        have hwp := hwp I30 e_I30
        refine lv_aload_n hx hb dX7_parts_45 rfl (lv_at hl 0 rfl) ?_
        refine lv_aload_n hx hb dX7_parts_46 rfl (lv_at hl 0 rfl) ?_
        refine sw_get (C := RX7) (T := TX7) (N := 25) (v := .int (I30 o0 6)) hx hb hts hw0 hown hK hz hs18 rfl 6 (by decide) hw7 (fun _ h9 => h9) rfl dX7_parts_47 ?_
        refine sw_putI (C := RX7) (T := TX7) (N := 25) hx hb hts hw0 tyX7 tyX7_ok nmX7 hown hK hz hs18 rfl 8 (by decide) hw8 (fun _ h9 => h9) rfl (by decide +kernel) rfl dX7_parts_50 (fun H locs I31 e_I31 hz => ?_)
        have hwp := hwp I31 e_I31
        refine lv_iconst (v := 0) hx hb dX7_parts_53 (by decide) ?_
        refine lv_istore_n (lv' := [(2, .int 0), (0, .ref o0), (1, .int i1)]) hx hb dX7_parts_54 rfl hl (by decide) rfl (fun ls hl => ?_)
        exact wL55 _ _ _ _ _ _ _ hwp hz (lv_sub hl [1, 0] rfl)
      · have hwp := hwp.2 q
        refine lv_bipush (v := (-3)) hx hb dX7_parts_29 (by decide) ?_
        exact sw_iret hx hb hret hlocks hz hwp dX7_parts_31
    · have hwp := hwp.2 q
      refine lv_iconst (v := 0) hx hb dX7_parts_19 (by decide) ?_
      exact sw_iret hx hb hret hlocks hz hwp dX7_parts_20
  refine lv_aload_n hx hb dX7_parts_0 rfl (lv_at hl 0 rfl) ?_
  refine lv_iload_n hx hb dX7_parts_1 rfl (lv_at hl 1 rfl) ?_
  obtain ⟨P32, hc33, hwp⟩ := hwp
  refine sw_calli hz (va_runS (As := [.int i1]) (rest := [.ref o0]) ⟨hx, hb, hml, hown, hts⟩ (hc33 hK _) (va_cwS 1 hts gX7_parts_X7_isSlot rfl rfl rfl (by decide +kernel) ⟨Nat.le_of_ble_eq_true rfl, Nat.le_of_ble_eq_true rfl⟩) hz.preS rfl rfl hl.1 rfl (lv_room (Nat.le_of_ble_eq_true rfl)) dX7_parts_2 ⟨Nat.le_of_ble_eq_true rfl, Nat.le_of_ble_eq_true rfl⟩) (fun r37 I34 L35 A36 H locs hp hz => ?_)
  have hwp := hwp r37 I34 L35 A36 hp
  refine lv_if_eq (tgt := 12) hx hb dX7_parts_5 (by decide) (fun q => ?_) (fun q => ?_)
  · have hwp := hwp.1 q
    refine lv_iconst (v := 1) hx hb dX7_parts_12 (by decide) ?_
    exact wL13 _ _ _ _ _ _ _ _ hwp hz (lv_sub hl [0, 1] rfl)
  · have hwp := hwp.2 q
    refine lv_iconst (v := 0) hx hb dX7_parts_8 (by decide) ?_
    refine lv_goto (tgt := 13) hx hb dX7_parts_9 (by decide) ?_
    exact wL13 _ _ _ _ _ _ _ _ hwp hz (lv_sub hl [0, 1] rfl)

