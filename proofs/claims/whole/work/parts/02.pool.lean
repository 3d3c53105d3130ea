/-! THE POOL: the cells at the addresses b .. b + n - 1, each as E says of its address. Nothing below b is ever written. -/
section
abbrev pl_L (b n : Nat) : List Nat := List.range' b n
theorem pl_mem {b n a : Nat} : a ∈ pl_L b n ↔ b ≤ a ∧ a < b + n := List.mem_range'_1
theorem pl_succ (b n : Nat) : pl_L b (n + 1) = pl_L b n ++ [b + n] := List.range'_1_concat
abbrev PA (b : Nat) : Nat → Prop := fun q => b ≤ q
abbrev XIA : String := "java/lang/IllegalArgumentException"
abbrev XUP : List String := ["java/lang/RuntimeException", "java/lang/Exception"]
/-- links between nest mates -/
def GN (U : State) : Prop :=
  va_Nw (.methodLinkNest RX6 19 yX4_init RX6) U ∧ va_Nw (.methodLinkNest RX6 32 yX2_init RX6) U ∧ va_Nw (.methodLinkNest RX6 47 yX0_init RX6) U ∧
  va_Nw (.methodLinkNest RX2 9 yX6_freshRows RX6) U ∧ va_Nw (.methodLinkNest RX0 11 yX5_init RX6) U ∧ va_Nw (.methodLinkNest RX5 11 yX3_init RX6) U ∧
  va_Nw (.methodLinkNest RX3 23 yX4_init RX6) U ∧ va_Nw (.methodLinkNest RX5 20 yX4_init RX6) U ∧ va_Nw (.methodLinkNest RX5 37 yX6_freshRows RX6) U ∧
  va_Nw (.methodLinkNest RX0 25 yX4_init RX6) U ∧ va_Nw (.methodLinkNest RX0 50 yX2_init RX6) U ∧ va_Nw (.methodLinkNest RX4 51 yX6_greatestDivisor RX6) U ∧
  va_Nw (.methodLinkNest RX0 106 yX6_greatestDivisor RX6) U ∧ va_Nw (.methodLinkNest RX1 52 yX6_greatestDivisor RX6) U
theorem GN.warm {s U : State} (h : GN s) (hW : s.WarmedH U.vm) : GN U := by
  obtain ⟨h1, h2, h3, h4, h5, h6, h7, h8, h9, h10, h11, h12, h13, h14⟩ := h
  exact ⟨h1.warmM hW, h2.warmM hW, h3.warmM hW, h4.warmM hW, h5.warmM hW, h6.warmM hW, h7.warmM hW, h8.warmM hW, h9.warmM hW, h10.warmM hW, h11.warmM hW, h12.warmM hW, h13.warmM hW, h14.warmM hW⟩
theorem GN.same {s U : State} (h : GN s) (hv : s.vm = U.vm) : GN U := by
  obtain ⟨h1, h2, h3, h4, h5, h6, h7, h8, h9, h10, h11, h12, h13, h14⟩ := h
  exact ⟨h1.same rfl hv, h2.same rfl hv, h3.same rfl hv, h4.same rfl hv, h5.same rfl hv, h6.same rfl hv, h7.same rfl hv, h8.same rfl hv, h9.same rfl hv, h10.same rfl hv, h11.same rfl hv, h12.same rfl hv, h13.same rfl hv, h14.same rfl hv⟩
/-- the texts of the exceptions -/
def GT (U : State) : Prop := (∃ a, vk_R RX6 177 "no such slot" a U) ∧ (∃ a, vk_R RX6 182 "no such coefficient" a U) ∧ (∃ a, vk_R RX6 184 "number out of bounds" a U) ∧ (∃ a, vk_R RX6 186 "prime out of bounds" a U) ∧ (∃ a, vk_R RX6 188 "not a prime" a U) ∧ va_Nw (.castable XIA XIA) U ∧ va_Nw (.declares (Bundle.initS "java/lang/RuntimeException")) U ∧ va_Nw (.declares (Bundle.initS "java/lang/Exception")) U ∧ va_Nw (.declares (Bundle.initS Bundle.tN)) U
theorem GT.warm {s U : State} (h : GT s) (hW : s.WarmedH U.vm) : GT U := by
  obtain ⟨⟨a1, h1⟩, ⟨a2, h2⟩, ⟨a3, h3⟩, ⟨a4, h4⟩, ⟨a5, h5⟩, h6, h7, h8, h9⟩ := h
  exact ⟨⟨a1, h1.warm hW⟩, ⟨a2, h2.warm hW⟩, ⟨a3, h3.warm hW⟩, ⟨a4, h4.warm hW⟩, ⟨a5, h5.warm hW⟩, h6.warmC hW, h7.warmD hW, h8.warmD hW, h9.warmD hW⟩
theorem GT.same {s U : State} (h : GT s) (hv : s.vm = U.vm) : GT U := by
  obtain ⟨⟨a1, h1⟩, ⟨a2, h2⟩, ⟨a3, h3⟩, ⟨a4, h4⟩, ⟨a5, h5⟩, h6, h7, h8, h9⟩ := h
  exact ⟨⟨a1, h1.same hv.symm⟩, ⟨a2, h2.same hv.symm⟩, ⟨a3, h3.same hv.symm⟩, ⟨a4, h4.same hv.symm⟩, ⟨a5, h5.same hv.symm⟩, h6.same rfl hv, h7.same rfl hv, h8.same rfl hv, h9.same rfl hv⟩
/-- Throwable's two statics, below b -/
def GS (b : Nat) (U : State) (H : Heap) : Prop := vx_Zq Bundle.tN "UNASSIGNED_STACK" Bundle.steD (PA b) U H ∧ vx_Zq Bundle.tN "SUPPRESSED_SENTINEL" Bundle.listD (PA b) U H
/-- the six primes, below b -/
def bigP : Nat → Int64
  | 0 => 33554467
  | 1 => 33554473
  | 2 => 33554501
  | 3 => 33554503
  | 4 => 33554509
  | _ => 33554519
def GP (b : Nat) (U : State) (H : Heap) : Prop := ∃ t : Nat, va_Z RX6 "BIG_PRIMES" "[J" (.ref t) (PA b) U H ∧ va_T .long t 6 (fun j => .long (bigP j)) (PA b) U H ∧ va_Nw (.fieldLinkNest RX0 110 RX6 "BIG_PRIMES" "[J" RX6) U
/-- what every method may take as given -/
def GX (b : Nat) (U : State) : Prop := b ≤ U.heap.size ∧ va_AO RX4 U ∧ GN U ∧ GT U ∧ GS b U U.heap ∧ GP b U U.heap
theorem GX.warm {b : Nat} {s U : State} (h : GX b s) (hW : s.WarmedH U.vm) (hz : s.heap.size ≤ U.heap.size) (hk : ∀ q : Nat, q < s.heap.size → ¬ PA b q → U.heap[q]? = s.heap[q]?) : GX b U :=
  ⟨Nat.le_trans h.1 hz, va_AO.moved hW.alike h.2.1, h.2.2.1.warm hW, h.2.2.2.1.warm hW, ⟨vx_Zq.moved hW.alike (h.2.2.2.2.1.1.kept hk), vx_Zq.moved hW.alike (h.2.2.2.2.1.2.kept hk)⟩, by
    obtain ⟨t, h1, h2, h3⟩ := h.2.2.2.2.2
    exact ⟨t, va_Z.moved hW.alike (h1.kept hk), va_T.moved hW.alike (h2.kept hk), h3.warmF hW⟩⟩
theorem GX.at {b : Nat} {U : State} (h : GX b U) (g : JFrame) (mk : MethodId) (a : Array Value) : GX b (U.calling g mk a) :=
  ⟨h.1, va_AO.moved (u := U) (U := U.calling g mk a) (Vm.Alike.refl U.vm) h.2.1, h.2.2.1.same rfl, h.2.2.2.1.same rfl, ⟨vx_Zq.moved (u := U) (U := U.calling g mk a) (Vm.Alike.refl U.vm) h.2.2.2.2.1.1, vx_Zq.moved (u := U) (U := U.calling g mk a) (Vm.Alike.refl U.vm) h.2.2.2.2.1.2⟩, by
    obtain ⟨t, h1, h2, h3⟩ := h.2.2.2.2.2
    exact ⟨t, va_Z.moved (u := U) (U := U.calling g mk a) (Vm.Alike.refl U.vm) h1, va_T.moved (u := U) (U := U.calling g mk a) (Vm.Alike.refl U.vm) h2, h3.same rfl rfl⟩⟩
/-- the pool in the midst of a method that began at s -/
def PS (D : va_G) (cl : List vw_C) (tys : List (ClassId × FieldType)) (b n : Nat) (s : State) (E : Nat → va_E) (H : Heap) (locs : List Loc) : Prop :=
  va_P D cl (va_pl (pl_L b n) E) H ∧ va_S (PA b) s.heap H locs ∧ va_K D cl tys s ∧ GX b s
/-- the pool at a method's ends -/
def PB (D : va_G) (cl : List vw_C) (tys : List (ClassId × FieldType)) (b n : Nat) (E : Nat → va_E) (t : State) : Prop :=
  va_P D cl (va_pl (pl_L b n) E) t.heap ∧ va_K D cl tys t ∧ GX b t
theorem pl_of {b n k : Nat} {E : Nat → va_E} {q : Nat × va_E} (h : (va_pl (pl_L b n) E)[k]? = some q) : b ≤ q.1 ∧ q.1 < b + n ∧ q.2 = E q.1 ∧ q.1 = b + k := by
  unfold va_pl at h
  rw [List.getElem?_map] at h
  cases hk : (pl_L b n)[k]? with
  | none => rw [hk] at h; cases h
  | some a =>
    rw [hk] at h
    have hq : (a, E a) = q := Option.some.inj h
    have hm := pl_mem.mp (List.mem_of_getElem? hk)
    have hl := (List.getElem?_eq_some_iff.mp hk)
    obtain ⟨hlt, he⟩ := hl
    have hk2 : a = b + k := by rw [← he]; simp [pl_L, List.getElem_range']
    rw [← hq]
    exact ⟨hm.1, hm.2, rfl, hk2⟩
theorem pl_at {b n a : Nat} {E : Nat → va_E} (h : b ≤ a ∧ a < b + n) : ∃ k : Nat, (va_pl (pl_L b n) E)[k]? = some (a, E a) := va_pl_get (X := []) (pl_mem.mpr h)
theorem pl_D {b n : Nat} {E : Nat → va_E} : va_D (PA b) (va_pl (pl_L b n) E) := by
  refine ⟨fun i j x y hi hj hxy => ?_, fun k q hk => (pl_of hk).1⟩
  have h1 := (pl_of hi).2.2.2
  have h2 := (pl_of hj).2.2.2
  omega
section
variable {D : va_G} {cl : List vw_C} {tys : List (ClassId × FieldType)} {b n : Nat} {s : State} {E : Nat → va_E} {H : Heap} {locs : List Loc}
theorem PS.start (h : PB D cl tys b n E s) : PS D cl tys b n s E s.heap [] := ⟨h.1, va_S.rf, h.2.1, h.2.2⟩
theorem PS.fin (hz : PS D cl tys b n s E H locs) {t : State} (ht : t.heap = H) (hW : s.WarmedH t.vm) : PB D cl tys b n E t ∧ va_F (PA b) s t := by
  have hF : va_F (PA b) s t := hz.2.1.F ht
  exact ⟨⟨by rw [ht]; exact hz.1, va_K.moved hW.alike hz.2.2.1, hz.2.2.2.warm hW hF.1 hF.2⟩, hF⟩
theorem PB.at {U : State} (h : PB D cl tys b n E U) (g : JFrame) (mk : MethodId) (a : Array Value) : PB D cl tys b n E (U.calling g mk a) :=
  ⟨h.1, va_K.moved (u := U) (U := U.calling g mk a) (Vm.Alike.refl U.vm) h.2.1, h.2.2.at g mk a⟩
theorem PS.pb (hz : PS D cl tys b n s E H locs) {U : State} (hU : U.heap = H) (hW : s.WarmedH U.vm) : PB D cl tys b n E U := (hz.fin hU hW).1
theorem PS.size (hz : PS D cl tys b n s E H locs) : s.heap.size ≤ H.size := hz.2.1.1
theorem PS.base (hz : PS D cl tys b n s E H locs) : b ≤ s.heap.size := hz.2.2.2.1
theorem PS.call {E' : Nat → va_E} {n' : Nat} {H1 : Heap} {locs1 : List Loc} (hz : PS D cl tys b n s E H locs) (hP : va_P D cl (va_pl (pl_L b n') E') H1) (hS : va_S (PA b) s.heap H1 locs1) : PS D cl tys b n' s E' H1 locs1 := ⟨hP, hS, hz.2.2.1, hz.2.2.2⟩
end
end
section PW
variable {p : Program} {l : Launch} {e : Env} {R : Room} {s : State} {m : MethodId} {args : Array Value} {below : List Frame} {meth : Method} {c : Code} {H : Heap} {locs : List Loc} {cells slots : Nat} {Q : State → Prop}
variable {cc : ByteArray} {pc : Nat} {ls : Array Slot} {rest : List Value}
variable {D : va_G} {cl : List vw_C} {tys : List (ClassId × FieldType)} {b n : Nat} {E : Nat → va_E} {a : Nat}
theorem pw_get {own ref C : String} {T : u_T} {N ci index : Nat} {Ts : List Cond} {fs : List Value} {v : Value} (hexec : p.tables.exec = Jvm.exec) (hb : c.code = cc) (hts : ∀ w ∈ Ts, w.before args s = true) (hin : ∀ w ∈ u_ws C T N, w ∈ Ts) (hown : s.vm.findClass own = some m.cls) (hz : PS D cl tys b n s E H locs) (ha : b ≤ a ∧ a < b + n) (he : E a = .inr (ci, fs)) (hc : cl[ci]? = some (C, T, N)) (k : Nat) (hk : k < N) (hlink : (Cond.fieldLink own index ref (T k).2.1 (T k).2.2.1).before args s = true) (hsame : ∀ x, s.fieldFound? (T k).1 (T k).2.1 (T k).2.2.1 = some x → s.fieldFound? ref (T k).2.1 (T k).2.2.1 = some x) (hv : fs[k]? = some v) (hdg : decode cc pc = .ok (.getfield index, 3))
    (kk : W p l e R s m args below meth c H locs cells slots Q (F0 m (pc + 3) ls (v :: rest))) : W p l e R s m args below meth c H locs cells slots Q (F0 m pc ls (.ref a :: rest)) := by
  obtain ⟨q0, hq⟩ := pl_at (E := E) ha
  rw [he] at hq
  exact va_get hexec hb hts hin hown hz.2.2.1 hz.1 q0 hq hc k hk hlink hsame hv hdg kk
theorem PS.set (hz : PS D cl tys b n s E H locs) (ha : b ≤ a ∧ a < b + n) {q0 : Nat} (hq : (va_pl (pl_L b n) E)[q0]? = some (a, E a)) {x : va_E} {H1 : Heap} {locs1 : List Loc} (h1 : va_P D cl ((va_pl (pl_L b n) E).set q0 (a, x)) H1) (hS : va_S (PA b) s.heap H1 locs1) : PS D cl tys b n s (va_up E a x) H1 locs1 := by
  have e : (va_pl (pl_L b n) E).set q0 (a, x) = va_pl (pl_L b n) (va_up E a x) := va_pl_set (X := []) (pl_D (b := b) (n := n)) (pl_mem.mpr ha) hq
  rw [e] at h1
  exact hz.call h1 hS
theorem pw_put {own ref C : String} {T : u_T} {N ci index : Nat} {Ts : List Cond} {fs : List Value} {ty : FieldType} {v : Value} (hexec : p.tables.exec = Jvm.exec) (hb : c.code = cc) (hts : ∀ w ∈ Ts, w.before args s = true) (hin : ∀ w ∈ u_ws C T N, w ∈ Ts) (ty0 : Nat → FieldType) (hty : ∀ k, k < N → parseFieldDescriptor (T k).2.2.1 = some (ty0 k)) (hnm : ∀ a, a < N → ∀ b, b < N → a ≠ b → (T a).2.1 ≠ (T b).2.1) (hown : s.vm.findClass own = some m.cls) (hz : PS D cl tys b n s E H locs) (ha : b ≤ a ∧ a < b + n) (he : E a = .inr (ci, fs)) (hc : cl[ci]? = some (C, T, N)) (k : Nat) (hk : k < N) (hlink : (Cond.fieldLink own index ref (T k).2.1 (T k).2.2.1).before args s = true) (hsame : ∀ x, s.fieldFound? (T k).1 (T k).2.1 (T k).2.2.1 = some x → s.fieldFound? ref (T k).2.1 (T k).2.2.1 = some x) (hfin : (T k).2.2.2 = false) (hd : parseFieldDescriptor (T k).2.2.1 = some ty) (hn : narrow ty v = v) (hfit : fits ty v = true) (hl : k < fs.length)
    (hdg : decode cc pc = .ok (.putfield index, 3)) (kk : ∀ (H1 : Heap) (locs1 : List Loc), PS D cl tys b n s (va_up E a (.inr (ci, fs.set k v))) H1 locs1 → W p l e R s m args below meth c H1 locs1 cells slots Q (F0 m (pc + 3) ls rest)) : W p l e R s m args below meth c H locs cells slots Q (F0 m pc ls (v :: .ref a :: rest)) := by
  obtain ⟨q0, hq⟩ := pl_at (E := E) ha
  have hq' := hq
  rw [he] at hq
  exact va_put hexec hb hts hin ty0 hty hnm hown hz.2.2.1 hz.1 pl_D hz.2.1 q0 hq hc k hk hlink hsame hfin hd hn hfit hl hdg (fun H1 locs1 h1 _ h3 => kk H1 locs1 (hz.set ha hq' h1 h3))
theorem pw_lald {cA : ClassId} {N : Nat} {f : Nat → Int64} {i : Int32} (hexec : p.tables.exec = Jvm.exec) (hb : c.code = cc) (hz : PS D cl tys b n s E H locs) (ha : b ≤ a ∧ a < b + n) (he : E a = .inl (cA, N, .inr (.inl f))) (t0 : Nat) (ht : tys[t0]? = some (cA, .long)) (hin : vp_in i N) (hdg : decode cc pc = .ok (.laload, 1))
    (kk : W p l e R s m args below meth c H locs cells slots Q (F0 m (pc + 1) ls (.long (f i.toNatClampNeg) :: rest))) : W p l e R s m args below meth c H locs cells slots Q (F0 m pc ls (.int i :: .ref a :: rest)) := by
  obtain ⟨q0, hq⟩ := pl_at (E := E) ha
  rw [he] at hq
  exact va_lald hexec hb hz.2.2.1 hz.1 q0 t0 hq ht hin hdg kk
theorem pw_last {cA : ClassId} {N : Nat} {f : Nat → Int64} {i : Int32} {x : Int64} (hexec : p.tables.exec = Jvm.exec) (hb : c.code = cc) (hz : PS D cl tys b n s E H locs) (ha : b ≤ a ∧ a < b + n) (he : E a = .inl (cA, N, .inr (.inl f))) (t0 : Nat) (ht : tys[t0]? = some (cA, .long)) (hin : vp_in i N) (hdg : decode cc pc = .ok (.lastore, 1))
    (kk : ∀ (H1 : Heap) (locs1 : List Loc), PS D cl tys b n s (va_up E a (.inl (cA, N, .inr (.inl (vp_updL f i.toNatClampNeg x))))) H1 locs1 → W p l e R s m args below meth c H1 locs1 cells slots Q (F0 m (pc + 1) ls rest)) : W p l e R s m args below meth c H locs cells slots Q (F0 m pc ls (.long x :: .int i :: .ref a :: rest)) := by
  obtain ⟨q0, hq⟩ := pl_at (E := E) ha
  have hq' := hq
  rw [he] at hq
  exact va_last hexec hb hz.2.2.1 hz.1 pl_D hz.2.1 q0 t0 hq ht hin hdg (fun H1 locs1 h1 _ h3 => kk H1 locs1 (hz.set ha hq' h1 h3))
theorem pw_iald {cA : ClassId} {N : Nat} {f : Nat → Int32} {i : Int32} (hexec : p.tables.exec = Jvm.exec) (hb : c.code = cc) (hz : PS D cl tys b n s E H locs) (ha : b ≤ a ∧ a < b + n) (he : E a = .inl (cA, N, .inl f)) (t0 : Nat) (ht : tys[t0]? = some (cA, .int)) (hin : vp_in i N) (hdg : decode cc pc = .ok (.iaload, 1))
    (kk : W p l e R s m args below meth c H locs cells slots Q (F0 m (pc + 1) ls (.int (f i.toNatClampNeg) :: rest))) : W p l e R s m args below meth c H locs cells slots Q (F0 m pc ls (.int i :: .ref a :: rest)) := by
  obtain ⟨q0, hq⟩ := pl_at (E := E) ha
  rw [he] at hq
  exact va_iald hexec hb hz.2.2.1 hz.1 q0 t0 hq ht hin hdg kk
theorem pw_iast {cA : ClassId} {N : Nat} {f : Nat → Int32} {i x : Int32} (hexec : p.tables.exec = Jvm.exec) (hb : c.code = cc) (hz : PS D cl tys b n s E H locs) (ha : b ≤ a ∧ a < b + n) (he : E a = .inl (cA, N, .inl f)) (t0 : Nat) (ht : tys[t0]? = some (cA, .int)) (hin : vp_in i N) (hdg : decode cc pc = .ok (.iastore, 1))
    (kk : ∀ (H1 : Heap) (locs1 : List Loc), PS D cl tys b n s (va_up E a (.inl (cA, N, .inl (upd f i.toNatClampNeg x)))) H1 locs1 → W p l e R s m args below meth c H1 locs1 cells slots Q (F0 m (pc + 1) ls rest)) : W p l e R s m args below meth c H locs cells slots Q (F0 m pc ls (.int x :: .int i :: .ref a :: rest)) := by
  obtain ⟨q0, hq⟩ := pl_at (E := E) ha
  have hq' := hq
  rw [he] at hq
  exact va_iast hexec hb hz.2.2.1 hz.1 pl_D hz.2.1 q0 t0 hq ht hin hdg (fun H1 locs1 h1 _ h3 => kk H1 locs1 (hz.set ha hq' h1 h3))
theorem pw_aldq {cA : ClassId} {C : String} {N : Nat} {f : Nat → Option Nat} {i : Int32} {v : Nat} (hexec : p.tables.exec = Jvm.exec) (hb : c.code = cc) (hz : PS D cl tys b n s E H locs) (ha : b ≤ a ∧ a < b + n) (he : E a = .inl (cA, N, .inr (.inr (.inr (.inr f))))) (t0 : Nat) (ht : tys[t0]? = some (cA, .object C)) (hin : vp_in i N) (hv : f i.toNatClampNeg = some v) (hdg : decode cc pc = .ok (.aaload, 1))
    (kk : W p l e R s m args below meth c H locs cells slots Q (F0 m (pc + 1) ls (.ref v :: rest))) : W p l e R s m args below meth c H locs cells slots Q (F0 m pc ls (.int i :: .ref a :: rest)) := by
  obtain ⟨q0, hq⟩ := pl_at (E := E) ha
  rw [he] at hq
  refine va_aldq hexec hb hz.2.2.1 hz.1 q0 t0 hq ht hin hdg ?_
  rw [hv]
  exact kk
theorem pw_alen {cA : ClassId} {x : vp_A} {ty : FieldType} {v : Int32} (hexec : p.tables.exec = Jvm.exec) (hb : c.code = cc) (hz : PS D cl tys b n s E H locs) (ha : b ≤ a ∧ a < b + n) (he : E a = .inl (cA, x)) (t0 : Nat) (ht : tys[t0]? = some (cA, ty)) (hv : Int32.ofNat x.1 = v) (hdg : decode cc pc = .ok (.arraylength, 1))
    (kk : W p l e R s m args below meth c H locs cells slots Q (F0 m (pc + 1) ls (.int v :: rest))) : W p l e R s m args below meth c H locs cells slots Q (F0 m pc ls (.ref a :: rest)) := by
  obtain ⟨q0, hq⟩ := pl_at (E := E) ha
  rw [he] at hq
  exact va_alen hexec hb hz.2.2.1 hz.1 q0 t0 hq ht hv hdg kk
/-- a contract's start -/
def cP (D : va_G) (cl : List vw_C) (tys : List (ClassId × FieldType)) (b n : Nat) (E : Nat → va_E) (sz : Nat) (as : List Value) : Array Value → State → Prop := va_Pc as (fun U => U.heap.size = sz ∧ PB D cl tys b n E U)
/-- its ends -/
def cQi (D : va_G) (cl : List vw_C) (tys : List (ClassId × FieldType)) (b n : Nat) (post : Int32 → (Nat → va_E) → Prop) : Array Value → State → Outcome → State → Prop := va_Qi post (PB D cl tys b n) (PA b)
def cQl (D : va_G) (cl : List vw_C) (tys : List (ClassId × FieldType)) (b n : Nat) (post : Int64 → (Nat → va_E) → Prop) : Array Value → State → Outcome → State → Prop := va_Ql post (PB D cl tys b n) (PA b)
def cQv (D : va_G) (cl : List vw_C) (tys : List (ClassId × FieldType)) (b n : Nat) (post : (Nat → va_E) → Prop) : Array Value → State → Outcome → State → Prop := va_Qv post (PB D cl tys b n) (PA b)
theorem PS.preV {ci : Nat} {C : String} {T : u_T} {N : Nat} {fs As : List Value} (hz : PS D cl tys b n s E H locs) (ha : b ≤ a ∧ a < b + n) (he : E a = .inr (ci, fs)) (hc : cl[ci]? = some (C, T, N)) : PreV s H C a (cP D cl tys b n E H.size (.ref a :: As)) As := by
  obtain ⟨q0, hq⟩ := pl_at (E := E) ha
  rw [he] at hq
  exact ⟨fun x U g mk q => ⟨q.1, q.2.1, q.2.2.at g mk x⟩, va_recv hz.2.2.1 hz.1 hc hq, fun U hU hW => ⟨rfl, by rw [hU], hz.pb hU hW⟩⟩
theorem PS.preS {As : List Value} (hz : PS D cl tys b n s E H locs) : PreS s H (cP D cl tys b n E H.size As) As :=
  ⟨fun x U g mk q => ⟨q.1, q.2.1, q.2.2.at g mk x⟩, fun U hU hW => ⟨rfl, by rw [hU], hz.pb hU hW⟩⟩
theorem pw_calli {post : Int32 → (Nat → va_E) → Prop} {st0 : List Value} {av : Array Value} (hz : PS D cl tys b n s E H locs) (hr : va_Run p l e R s m args below meth c H locs cells slots 0 0 (F0 m pc ls st0) rest (cQi D cl tys b n post av) (PA b))
    (kk : ∀ (r : Int32) (E' : Nat → va_E) (H1 : Heap) (locs1 : List Loc), post r E' → PS D cl tys b n s E' H1 locs1 → W p l e R s m args below meth c H1 locs1 cells slots Q (F0 m (pc + 3) ls (.int r :: rest))) : W p l e R s m args below meth c H locs cells slots Q (F0 m pc ls st0) :=
  va_calli hr hz.2.1 (fun _ _ h => h) (fun _ h => h) (fun r u t H1 locs1 ht _ hp hB _ _ hS => kk r u H1 locs1 hp (hz.call (by rw [← ht]; exact hB.1) hS))
theorem pw_calll {post : Int64 → (Nat → va_E) → Prop} {st0 : List Value} {av : Array Value} (hz : PS D cl tys b n s E H locs) (hr : va_Run p l e R s m args below meth c H locs cells slots 0 0 (F0 m pc ls st0) rest (cQl D cl tys b n post av) (PA b))
    (kk : ∀ (r : Int64) (E' : Nat → va_E) (H1 : Heap) (locs1 : List Loc), post r E' → PS D cl tys b n s E' H1 locs1 → W p l e R s m args below meth c H1 locs1 cells slots Q (F0 m (pc + 3) ls (.long r :: rest))) : W p l e R s m args below meth c H locs cells slots Q (F0 m pc ls st0) :=
  va_calll hr hz.2.1 (fun _ _ h => h) (fun _ h => h) (fun r u t H1 locs1 ht _ hp hB _ _ hS => kk r u H1 locs1 hp (hz.call (by rw [← ht]; exact hB.1) hS))
theorem pw_callv {post : (Nat → va_E) → Prop} {st0 : List Value} {av : Array Value} (hz : PS D cl tys b n s E H locs) (hr : va_Run p l e R s m args below meth c H locs cells slots 0 0 (F0 m pc ls st0) rest (cQv D cl tys b n post av) (PA b))
    (kk : ∀ (E' : Nat → va_E) (H1 : Heap) (locs1 : List Loc), post E' → PS D cl tys b n s E' H1 locs1 → W p l e R s m args below meth c H1 locs1 cells slots Q (F0 m (pc + 3) ls rest)) : W p l e R s m args below meth c H locs cells slots Q (F0 m pc ls st0) :=
  va_callv hr hz.2.1 (fun _ _ h => h) (fun _ h => h) (fun u t H1 locs1 ht _ hp hB _ _ hS => kk u H1 locs1 hp (hz.call (by rw [← ht]; exact hB.1) hS))
theorem pw_iret {post : Int32 → (Nat → va_E) → Prop} {v : Int32} (hexec : p.tables.exec = Jvm.exec) (hb : c.code = cc) (hr : meth.sig.returnType = some .int) (hlocks : meth.locks = false) (hz : PS D cl tys b n s E H locs) (hp : post v E) (hdg : decode cc pc = .ok (.ireturn, 1)) :
    W p l e R s m args below meth c H locs cells slots (MQ below (cQi D cl tys b n post) args s cells slots (PA b)) (F0 m pc ls [.int v]) :=
  W.iret (v := v) hexec hb hr (fun t ht hW => ⟨⟨v, E, rfl, hp, (hz.fin ht hW).1⟩, (hz.fin ht hW).2⟩) hz.2.1.2.2 hdg hlocks
theorem pw_zret {post : Int32 → (Nat → va_E) → Prop} {v : Int32} (hexec : p.tables.exec = Jvm.exec) (hb : c.code = cc) (hr : meth.sig.returnType = some .boolean) (hlocks : meth.locks = false) (hv : v = 0 ∨ v = 1) (hz : PS D cl tys b n s E H locs) (hp : post v E) (hdg : decode cc pc = .ok (.ireturn, 1)) :
    W p l e R s m args below meth c H locs cells slots (MQ below (cQi D cl tys b n post) args s cells slots (PA b)) (F0 m pc ls [.int v]) :=
  W.zret (v := v) (ty := .boolean) hexec hb hr (by rcases hv with rfl | rfl <;> rfl) (fun t ht hW => ⟨⟨v, E, rfl, hp, (hz.fin ht hW).1⟩, (hz.fin ht hW).2⟩) hz.2.1.2.2 hdg hlocks
theorem pw_lret {post : Int64 → (Nat → va_E) → Prop} {v : Int64} (hexec : p.tables.exec = Jvm.exec) (hb : c.code = cc) (hr : meth.sig.returnType = some .long) (hlocks : meth.locks = false) (hz : PS D cl tys b n s E H locs) (hp : post v E) (hdg : decode cc pc = .ok (.lreturn, 1)) :
    W p l e R s m args below meth c H locs cells slots (MQ below (cQl D cl tys b n post) args s cells slots (PA b)) (F0 m pc ls [.long v]) :=
  W.lret (v := v) hexec hb hr (fun t ht hW => ⟨⟨v, E, rfl, hp, (hz.fin ht hW).1⟩, (hz.fin ht hW).2⟩) hz.2.1.2.2 hdg hlocks
theorem pw_vret {post : (Nat → va_E) → Prop} (hexec : p.tables.exec = Jvm.exec) (hb : c.code = cc) (hr : meth.sig.returnType = none) (hlocks : meth.locks = false) (hz : PS D cl tys b n s E H locs) (hp : post E) (hdg : decode cc pc = .ok (.return_, 1)) :
    W p l e R s m args below meth c H locs cells slots (MQ below (cQv D cl tys b n post) args s cells slots (PA b)) (F0 m pc ls []) :=
  W.vret hexec hb hr (fun t ht hW => ⟨⟨E, rfl, hp, (hz.fin ht hW).1⟩, (hz.fin ht hW).2⟩) hz.2.1.2.2 hdg hlocks
end PW
