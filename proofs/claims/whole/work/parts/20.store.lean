/-! THE STORE: the pool's cells as three tables (ints, longs, references in arrays) over a shape that never changes. -/
section
abbrev K3 := Option (Option Nat)
abbrev Shp := (Nat × List K3) ⊕ (Nat × Nat)
abbrev TI := Nat → Nat → Int32
abbrev TL := Nat → Nat → Int64
abbrev TA := Nat → Nat → Nat
/-- a field: none an int, some none a long, some (some x) the reference x for ever -/
def fvl (I : TI) (L : TL) (a k : Nat) : K3 → Value
  | none => .int (I a k)
  | some none => .long (L a k)
  | some (some x) => .ref x
def fvs (I : TI) (L : TL) (a : Nat) : Nat → List K3 → List Value
  | _, [] => []
  | k, t :: ts => fvl I L a k t :: fvs I L a (k + 1) ts
def rzE (cJ cI cR : ClassId) (I : TI) (L : TL) (A : TA) (a : Nat) : Shp → va_E
  | .inl (ci, ks) => .inr (ci, fvs I L a 0 ks)
  | .inr (0, N) => .inl (cI, N, .inl (I a))
  | .inr (1, N) => .inl (cJ, N, .inr (.inl (L a)))
  | .inr (_, N) => .inl (cR, N, .inr (.inr (.inr (.inr (fun i => some (A a i))))))
def rz (cJ cI cR : ClassId) (sh : Nat → Shp) (I : TI) (L : TL) (A : TA) : Nat → va_E := fun a => rzE cJ cI cR I L A a (sh a)
/-- one place of a table -/
def u2 {α : Type} (f : Nat → Nat → α) (a i : Nat) (v : α) : Nat → Nat → α := fun x y => if x = a ∧ y = i then v else f x y
theorem u2_self {α : Type} (f : Nat → Nat → α) (a i : Nat) (v : α) : u2 f a i v a i = v := if_pos ⟨rfl, rfl⟩
theorem u2_ne {α : Type} (f : Nat → Nat → α) {a i x y : Nat} (v : α) (h : ¬ (x = a ∧ y = i)) : u2 f a i v x y = f x y := if_neg h
theorem u2_off {α : Type} (f : Nat → Nat → α) {a i x : Nat} (v : α) (h : x ≠ a) : u2 f a i v x = f x := funext fun _ => if_neg (fun q => h q.1)
theorem fvs_get (I : TI) (L : TL) (a : Nat) : ∀ (ks : List K3) (k j : Nat), (fvs I L a k ks)[j]? = (ks[j]?).map (fvl I L a (k + j))
  | [], _, _ => by simp [fvs]
  | t :: ts, k, 0 => by simp [fvs]
  | t :: ts, k, j + 1 => by
    simp only [fvs, List.getElem?_cons_succ]
    rw [fvs_get I L a ts (k + 1) j, show k + 1 + j = k + (j + 1) by omega]
theorem fvs_len (I : TI) (L : TL) (a : Nat) : ∀ (ks : List K3) (k : Nat), (fvs I L a k ks).length = ks.length
  | [], _ => rfl
  | _ :: ts, k => by simp [fvs, fvs_len I L a ts (k + 1)]
theorem fvs_off (I I' : TI) (L L' : TL) (a : Nat) (hI : I a = I' a) (hL : L a = L' a) : ∀ (ks : List K3) (k : Nat), fvs I L a k ks = fvs I' L' a k ks
  | [], _ => rfl
  | t :: ts, k => by
    simp only [fvs]
    rw [fvs_off I I' L L' a hI hL ts (k + 1)]
    congr 1
    match t with
    | none => simp [fvl, hI]
    | some none => simp [fvl, hL]
    | some (some x) => rfl
theorem fvs_setI (I : TI) (L : TL) (a : Nat) (v : Int32) : ∀ (ks : List K3) (k j : Nat), ks[j]? = some none → (fvs I L a k ks).set j (.int v) = fvs (u2 I a (k + j) v) L a k ks := by
  intro ks k j h
  apply List.ext_getElem?
  intro i
  rw [List.getElem?_set, fvs_get, fvs_get, fvs_len]
  by_cases hi : j = i
  · subst hi
    have hl : j < ks.length := (List.getElem?_eq_some_iff.mp h).1
    rw [if_pos rfl, if_pos hl, h]
    simp [fvl, u2]
  · rw [if_neg hi]
    congr 1
    funext t
    match t with
    | none => simp [fvl, u2, show ¬ i = j from fun e => hi e.symm]
    | some none => rfl
    | some (some x) => rfl
theorem fvs_setL (I : TI) (L : TL) (a : Nat) (v : Int64) : ∀ (ks : List K3) (k j : Nat), ks[j]? = some (some none) → (fvs I L a k ks).set j (.long v) = fvs I (u2 L a (k + j) v) a k ks := by
  intro ks k j h
  apply List.ext_getElem?
  intro i
  rw [List.getElem?_set, fvs_get, fvs_get, fvs_len]
  by_cases hi : j = i
  · subst hi
    have hl : j < ks.length := (List.getElem?_eq_some_iff.mp h).1
    rw [if_pos rfl, if_pos hl, h]
    simp [fvl, u2]
  · rw [if_neg hi]
    congr 1
    funext t
    match t with
    | none => rfl
    | some none => simp [fvl, u2, show ¬ i = j from fun e => hi e.symm]
    | some (some x) => rfl
variable {cJ cI cR : ClassId} {sh : Nat → Shp} {I : TI} {L : TL} {A : TA} {a ci N : Nat} {ks : List K3}
theorem rz_obj (h : sh a = .inl (ci, ks)) : rz cJ cI cR sh I L A a = .inr (ci, fvs I L a 0 ks) := by unfold rz; rw [h]; rfl
theorem rz_int (h : sh a = .inr (0, N)) : rz cJ cI cR sh I L A a = .inl (cI, N, .inl (I a)) := by unfold rz; rw [h]; rfl
theorem rz_long (h : sh a = .inr (1, N)) : rz cJ cI cR sh I L A a = .inl (cJ, N, .inr (.inl (L a))) := by unfold rz; rw [h]; rfl
theorem rz_ref (h : sh a = .inr (2, N)) : rz cJ cI cR sh I L A a = .inl (cR, N, .inr (.inr (.inr (.inr (fun i => some (A a i)))))) := by unfold rz; rw [h]; rfl
theorem rzE_off {I' : TI} {L' : TL} {A' : TA} (hI : I a = I' a) (hL : L a = L' a) (hA : A a = A' a) (S : Shp) : rzE cJ cI cR I L A a S = rzE cJ cI cR I' L' A' a S := by
  unfold rzE
  split
  · rw [fvs_off I I' L L' a hI hL]
  · rw [hI]
  · rw [hL]
  · rw [hA]
theorem rz_ext {I' : TI} {L' : TL} {A' : TA} {x : va_E} (hx : rz cJ cI cR sh I' L' A' a = x) (h : ∀ q, q ≠ a → I' q = I q ∧ L' q = L q ∧ A' q = A q) : va_up (rz cJ cI cR sh I L A) a x = rz cJ cI cR sh I' L' A' := by
  funext q
  by_cases hq : q = a
  · subst hq; rw [va_up_self, hx]
  · rw [va_up_ne _ _ hq]
    obtain ⟨h1, h2, h3⟩ := h q hq
    exact rzE_off h1.symm h2.symm h3.symm _
theorem rz_putI (h : sh a = .inl (ci, ks)) {k : Nat} (hk : ks[k]? = some none) (v : Int32) : va_up (rz cJ cI cR sh I L A) a (.inr (ci, (fvs I L a 0 ks).set k (.int v))) = rz cJ cI cR sh (u2 I a k v) L A := by
  refine rz_ext ?_ (fun q hq => ⟨u2_off _ _ hq, rfl, rfl⟩)
  rw [rz_obj h, fvs_setI I L a v ks 0 k hk, Nat.zero_add]
theorem rz_putL (h : sh a = .inl (ci, ks)) {k : Nat} (hk : ks[k]? = some (some none)) (v : Int64) : va_up (rz cJ cI cR sh I L A) a (.inr (ci, (fvs I L a 0 ks).set k (.long v))) = rz cJ cI cR sh I (u2 L a k v) A := by
  refine rz_ext ?_ (fun q hq => ⟨rfl, u2_off _ _ hq, rfl⟩)
  rw [rz_obj h, fvs_setL I L a v ks 0 k hk, Nat.zero_add]
theorem rz_iast (h : sh a = .inr (0, N)) (i : Nat) (v : Int32) : va_up (rz cJ cI cR sh I L A) a (.inl (cI, N, .inl (upd (I a) i v))) = rz cJ cI cR sh (u2 I a i v) L A := by
  refine rz_ext ?_ (fun q hq => ⟨u2_off _ _ hq, rfl, rfl⟩)
  rw [rz_int h]
  congr 5
  funext y
  simp [u2, upd]
theorem rz_last (h : sh a = .inr (1, N)) (i : Nat) (v : Int64) : va_up (rz cJ cI cR sh I L A) a (.inl (cJ, N, .inr (.inl (vp_updL (L a) i v)))) = rz cJ cI cR sh I (u2 L a i v) A := by
  refine rz_ext ?_ (fun q hq => ⟨rfl, u2_off _ _ hq, rfl⟩)
  rw [rz_long h]
  congr 6
  funext y
  simp [u2, vp_updL]
theorem rz_aast (h : sh a = .inr (2, N)) (i v : Nat) : va_up (rz cJ cI cR sh I L A) a (.inl (cR, N, .inr (.inr (.inr (.inr (va_up (fun i => some (A a i)) i (some v))))))) = rz cJ cI cR sh I L (u2 A a i v) := by
  refine rz_ext ?_ (fun q hq => ⟨rfl, rfl, u2_off _ _ hq⟩)
  rw [rz_ref h]
  congr 8
  funext y
  by_cases hy : y = i
  · subst hy; rw [va_up_self, u2_self]
  · rw [va_up_ne _ _ hy, u2_ne _ _ (fun q => hy q.2)]
end
section
/-- a launch, the classes' words, the array classes, the pool's place, its shape -/
abbrev Cx := Launch × va_G × ClassId × ClassId × ClassId × Nat × Nat × (Nat → Shp)
abbrev cxl (K : Cx) : Launch := K.1
abbrev cxD (K : Cx) : va_G := K.2.1
abbrev cxJ (K : Cx) : ClassId := K.2.2.1
abbrev cxI (K : Cx) : ClassId := K.2.2.2.1
abbrev cxR (K : Cx) : ClassId := K.2.2.2.2.1
abbrev cxb (K : Cx) : Nat := K.2.2.2.2.2.1
abbrev cxn (K : Cx) : Nat := K.2.2.2.2.2.2.1
abbrev cxS (K : Cx) : Nat → Shp := K.2.2.2.2.2.2.2
/-- what has a shape lies in the pool -/
def CxOk (K : Cx) : Prop := ∀ a, cxS K a ≠ .inr (9, 0) → cxb K ≤ a ∧ a < cxb K + cxn K
abbrev cxE (K : Cx) (I : TI) (L : TL) (A : TA) : Nat → va_E := rz (cxJ K) (cxI K) (cxR K) (cxS K) I L A
abbrev cxT (K : Cx) : List (ClassId × FieldType) := tys3 (cxJ K) (cxI K) (cxR K)
def SS (K : Cx) (s : State) (I : TI) (L : TL) (A : TA) (H : Heap) (locs : List Loc) : Prop := PS (cxD K) vwCl (cxT K) (cxb K) (cxn K) s (cxE K I L A) H locs
abbrev rmF (fr lo : Nat) : Room := { frames := fr, cells := 0, slots := 0, locals := lo }
abbrev cxP (K : Cx) (I : TI) (L : TL) (A : TA) (sz : Nat) (as : List Value) : Array Value → State → Prop := cP (cxD K) vwCl (cxT K) (cxb K) (cxn K) (cxE K I L A) sz as
abbrev cxQv (K : Cx) (Q : TI → TL → TA → Prop) : Array Value → State → Outcome → State → Prop := cQv (cxD K) vwCl (cxT K) (cxb K) (cxn K) (fun E' => ∃ I L A, E' = cxE K I L A ∧ Q I L A)
abbrev cxQi (K : Cx) (Q : Int32 → TI → TL → TA → Prop) : Array Value → State → Outcome → State → Prop := cQi (cxD K) vwCl (cxT K) (cxb K) (cxn K) (fun r E' => ∃ I L A, E' = cxE K I L A ∧ Q r I L A)
abbrev cxQl (K : Cx) (Q : Int64 → TI → TL → TA → Prop) : Array Value → State → Outcome → State → Prop := cQl (cxD K) vwCl (cxT K) (cxb K) (cxn K) (fun r E' => ∃ I L A, E' = cxE K I L A ∧ Q r I L A)
/-- a method's contract over the store -/
def ConV (K : Cx) (y : MethodName) (ws : List Cond) (fr lo : Nat) (I : TI) (L : TL) (A : TA) (as : List Value) (Q : TI → TL → TA → Prop) : Prop := CxOk K → ∀ sz, Met (cxl K) y ws (rmF fr lo) (cxP K I L A sz as) (cxQv K Q) 0 0 (PA (cxb K))
def ConI (K : Cx) (y : MethodName) (ws : List Cond) (fr lo : Nat) (I : TI) (L : TL) (A : TA) (as : List Value) (Q : Int32 → TI → TL → TA → Prop) : Prop := CxOk K → ∀ sz, Met (cxl K) y ws (rmF fr lo) (cxP K I L A sz as) (cxQi K Q) 0 0 (PA (cxb K))
def ConL (K : Cx) (y : MethodName) (ws : List Cond) (fr lo : Nat) (I : TI) (L : TL) (A : TA) (as : List Value) (Q : Int64 → TI → TL → TA → Prop) : Prop := CxOk K → ∀ sz, Met (cxl K) y ws (rmF fr lo) (cxP K I L A sz as) (cxQl K Q) 0 0 (PA (cxb K))
theorem CxOk.obj {K : Cx} (h : CxOk K) {a : Nat} {S : Nat × List K3} (e : cxS K a = .inl S) : cxb K ≤ a ∧ a < cxb K + cxn K := h a (by rw [e]; exact fun q => by cases q)
theorem CxOk.arr {K : Cx} (h : CxOk K) {a N : Nat} {k : Nat} (hk : k ≠ 9) (e : cxS K a = .inr (k, N)) : cxb K ≤ a ∧ a < cxb K + cxn K := h a (by rw [e]; exact fun q => hk (by cases q; rfl))
/-- a place of an array of a kind -/
def aok (sh : Nat → Shp) (a k : Nat) (i : Int32) : Prop := ∃ N, sh a = .inr (k, N) ∧ vp_in i N
abbrev ix (i : Int32) : Nat := i.toNatClampNeg
end
section SW
variable {p : Program} {l : Launch} {e : Env} {R : Room} {s : State} {m : MethodId} {args : Array Value} {below : List Frame} {meth : Method} {c : Code} {H : Heap} {locs : List Loc} {cells slots : Nat} {Q : State → Prop}
variable {cc : ByteArray} {pc : Nat} {ls : Array Slot} {rest : List Value}
variable {K : Cx} {I : TI} {L : TL} {A : TA} {a : Nat}
theorem sw_get {own ref C : String} {T : u_T} {N ci index : Nat} {Ts : List Cond} {ks : List K3} {v : Value} (hexec : p.tables.exec = Jvm.exec) (hb : c.code = cc) (hts : ∀ w ∈ Ts, w.before args s = true) (hin : ∀ w ∈ u_ws C T N, w ∈ Ts) (hown : s.vm.findClass own = some m.cls) (hK : CxOk K) (hz : SS K s I L A H locs) (he : cxS K a = .inl (ci, ks)) (hc : vwCl[ci]? = some (C, T, N)) (k : Nat) (hk : k < N) (hlink : (Cond.fieldLink own index ref (T k).2.1 (T k).2.2.1).before args s = true) (hsame : ∀ x, s.fieldFound? (T k).1 (T k).2.1 (T k).2.2.1 = some x → s.fieldFound? ref (T k).2.1 (T k).2.2.1 = some x) (hv : (fvs I L a 0 ks)[k]? = some v) (hdg : decode cc pc = .ok (.getfield index, 3))
    (kk : W p l e R s m args below meth c H locs cells slots Q (F0 m (pc + 3) ls (v :: rest))) : W p l e R s m args below meth c H locs cells slots Q (F0 m pc ls (.ref a :: rest)) :=
  pw_get hexec hb hts hin hown hz (hK.obj he) (rz_obj he) hc k hk hlink hsame hv hdg kk
theorem sw_putI {own ref C : String} {T : u_T} {N ci index : Nat} {Ts : List Cond} {ks : List K3} {v : Int32} (hexec : p.tables.exec = Jvm.exec) (hb : c.code = cc) (hts : ∀ w ∈ Ts, w.before args s = true) (hin : ∀ w ∈ u_ws C T N, w ∈ Ts) (ty0 : Nat → FieldType) (hty : ∀ k, k < N → parseFieldDescriptor (T k).2.2.1 = some (ty0 k)) (hnm : ∀ a, a < N → ∀ b, b < N → a ≠ b → (T a).2.1 ≠ (T b).2.1) (hown : s.vm.findClass own = some m.cls) (hK : CxOk K) (hz : SS K s I L A H locs) (he : cxS K a = .inl (ci, ks)) (hc : vwCl[ci]? = some (C, T, N)) (k : Nat) (hk : k < N) (hlink : (Cond.fieldLink own index ref (T k).2.1 (T k).2.2.1).before args s = true) (hsame : ∀ x, s.fieldFound? (T k).1 (T k).2.1 (T k).2.2.1 = some x → s.fieldFound? ref (T k).2.1 (T k).2.2.1 = some x) (hfin : (T k).2.2.2 = false) (hd : parseFieldDescriptor (T k).2.2.1 = some .int) (hks : ks[k]? = some none) (hdg : decode cc pc = .ok (.putfield index, 3))
    (kk : ∀ (H1 : Heap) (locs1 : List Loc) (I1 : TI), I1 = u2 I a k v → SS K s I1 L A H1 locs1 → W p l e R s m args below meth c H1 locs1 cells slots Q (F0 m (pc + 3) ls rest)) : W p l e R s m args below meth c H locs cells slots Q (F0 m pc ls (.int v :: .ref a :: rest)) :=
  pw_put (ty := .int) hexec hb hts hin ty0 hty hnm hown hz (hK.obj he) (rz_obj he) hc k hk hlink hsame hfin hd rfl rfl (by rw [fvs_len]; exact (List.getElem?_eq_some_iff.mp hks).1) hdg (fun H1 locs1 hz1 => kk H1 locs1 _ rfl (by
    have := hz1
    rw [rz_putI he hks v] at this
    exact this))
theorem sw_putL {own ref C : String} {T : u_T} {N ci index : Nat} {Ts : List Cond} {ks : List K3} {v : Int64} (hexec : p.tables.exec = Jvm.exec) (hb : c.code = cc) (hts : ∀ w ∈ Ts, w.before args s = true) (hin : ∀ w ∈ u_ws C T N, w ∈ Ts) (ty0 : Nat → FieldType) (hty : ∀ k, k < N → parseFieldDescriptor (T k).2.2.1 = some (ty0 k)) (hnm : ∀ a, a < N → ∀ b, b < N → a ≠ b → (T a).2.1 ≠ (T b).2.1) (hown : s.vm.findClass own = some m.cls) (hK : CxOk K) (hz : SS K s I L A H locs) (he : cxS K a = .inl (ci, ks)) (hc : vwCl[ci]? = some (C, T, N)) (k : Nat) (hk : k < N) (hlink : (Cond.fieldLink own index ref (T k).2.1 (T k).2.2.1).before args s = true) (hsame : ∀ x, s.fieldFound? (T k).1 (T k).2.1 (T k).2.2.1 = some x → s.fieldFound? ref (T k).2.1 (T k).2.2.1 = some x) (hfin : (T k).2.2.2 = false) (hd : parseFieldDescriptor (T k).2.2.1 = some .long) (hks : ks[k]? = some (some none)) (hdg : decode cc pc = .ok (.putfield index, 3))
    (kk : ∀ (H1 : Heap) (locs1 : List Loc) (L1 : TL), L1 = u2 L a k v → SS K s I L1 A H1 locs1 → W p l e R s m args below meth c H1 locs1 cells slots Q (F0 m (pc + 3) ls rest)) : W p l e R s m args below meth c H locs cells slots Q (F0 m pc ls (.long v :: .ref a :: rest)) :=
  pw_put (ty := .long) hexec hb hts hin ty0 hty hnm hown hz (hK.obj he) (rz_obj he) hc k hk hlink hsame hfin hd rfl rfl (by rw [fvs_len]; exact (List.getElem?_eq_some_iff.mp hks).1) hdg (fun H1 locs1 hz1 => kk H1 locs1 _ rfl (by
    have := hz1
    rw [rz_putL he hks v] at this
    exact this))
theorem sw_lald {i : Int32} (hexec : p.tables.exec = Jvm.exec) (hb : c.code = cc) (hK : CxOk K) (hz : SS K s I L A H locs) (ho : aok (cxS K) a 1 i) (hdg : decode cc pc = .ok (.laload, 1))
    (kk : W p l e R s m args below meth c H locs cells slots Q (F0 m (pc + 1) ls (.long (L a (ix i)) :: rest))) : W p l e R s m args below meth c H locs cells slots Q (F0 m pc ls (.int i :: .ref a :: rest)) := by
  obtain ⟨N, he, hi⟩ := ho
  exact pw_lald hexec hb hz (hK.arr (by decide) he) (rz_long he) 0 rfl hi hdg kk
theorem sw_iald {i : Int32} (hexec : p.tables.exec = Jvm.exec) (hb : c.code = cc) (hK : CxOk K) (hz : SS K s I L A H locs) (ho : aok (cxS K) a 0 i) (hdg : decode cc pc = .ok (.iaload, 1))
    (kk : W p l e R s m args below meth c H locs cells slots Q (F0 m (pc + 1) ls (.int (I a (ix i)) :: rest))) : W p l e R s m args below meth c H locs cells slots Q (F0 m pc ls (.int i :: .ref a :: rest)) := by
  obtain ⟨N, he, hi⟩ := ho
  exact pw_iald hexec hb hz (hK.arr (by decide) he) (rz_int he) 1 rfl hi hdg kk
theorem sw_aald {i : Int32} (hexec : p.tables.exec = Jvm.exec) (hb : c.code = cc) (hK : CxOk K) (hz : SS K s I L A H locs) (ho : aok (cxS K) a 2 i) (hdg : decode cc pc = .ok (.aaload, 1))
    (kk : W p l e R s m args below meth c H locs cells slots Q (F0 m (pc + 1) ls (.ref (A a (ix i)) :: rest))) : W p l e R s m args below meth c H locs cells slots Q (F0 m pc ls (.int i :: .ref a :: rest)) := by
  obtain ⟨N, he, hi⟩ := ho
  exact pw_aldq (C := RX4) hexec hb hz (hK.arr (by decide) he) (rz_ref he) 2 rfl hi rfl hdg kk
theorem sw_last {i : Int32} {v : Int64} (hexec : p.tables.exec = Jvm.exec) (hb : c.code = cc) (hK : CxOk K) (hz : SS K s I L A H locs) (ho : aok (cxS K) a 1 i) (hdg : decode cc pc = .ok (.lastore, 1))
    (kk : ∀ (H1 : Heap) (locs1 : List Loc) (L1 : TL), L1 = u2 L a (ix i) v → SS K s I L1 A H1 locs1 → W p l e R s m args below meth c H1 locs1 cells slots Q (F0 m (pc + 1) ls rest)) : W p l e R s m args below meth c H locs cells slots Q (F0 m pc ls (.long v :: .int i :: .ref a :: rest)) := by
  obtain ⟨N, he, hi⟩ := ho
  exact pw_last hexec hb hz (hK.arr (by decide) he) (rz_long he) 0 rfl hi hdg (fun H1 locs1 hz1 => kk H1 locs1 _ rfl (by
    have := hz1
    rw [rz_last he] at this
    exact this))
theorem sw_iast {i : Int32} {v : Int32} (hexec : p.tables.exec = Jvm.exec) (hb : c.code = cc) (hK : CxOk K) (hz : SS K s I L A H locs) (ho : aok (cxS K) a 0 i) (hdg : decode cc pc = .ok (.iastore, 1))
    (kk : ∀ (H1 : Heap) (locs1 : List Loc) (I1 : TI), I1 = u2 I a (ix i) v → SS K s I1 L A H1 locs1 → W p l e R s m args below meth c H1 locs1 cells slots Q (F0 m (pc + 1) ls rest)) : W p l e R s m args below meth c H locs cells slots Q (F0 m pc ls (.int v :: .int i :: .ref a :: rest)) := by
  obtain ⟨N, he, hi⟩ := ho
  exact pw_iast hexec hb hz (hK.arr (by decide) he) (rz_int he) 1 rfl hi hdg (fun H1 locs1 hz1 => kk H1 locs1 _ rfl (by
    have := hz1
    rw [rz_iast he] at this
    exact this))
theorem sw_aast {i : Int32} {v : Nat} {ks : List K3} (hexec : p.tables.exec = Jvm.exec) (hb : c.code = cc) (hK : CxOk K) (hz : SS K s I L A H locs) (ho : aok (cxS K) a 2 i) (hv : cxS K v = .inl (3, ks)) (hdg : decode cc pc = .ok (.aastore, 1))
    (kk : ∀ (H1 : Heap) (locs1 : List Loc) (A1 : TA), A1 = u2 A a (ix i) v → SS K s I L A1 H1 locs1 → W p l e R s m args below meth c H1 locs1 cells slots Q (F0 m (pc + 1) ls rest)) : W p l e R s m args below meth c H locs cells slots Q (F0 m pc ls (.ref v :: .int i :: .ref a :: rest)) := by
  obtain ⟨N, he, hi⟩ := ho
  obtain ⟨q0, hq⟩ := pl_at (E := cxE K I L A) (hK.arr (by decide) he)
  obtain ⟨q1, hq1⟩ := pl_at (E := cxE K I L A) (hK.obj hv)
  have hq' := hq
  have w1 : cxE K I L A a = _ := rz_ref he
  have w2 : cxE K I L A v = _ := rz_obj hv
  rw [w1] at hq
  rw [w2] at hq1
  exact va_astq (r := (RX4, TX4, 2)) hexec hb hz.2.2.1 hz.1 pl_D hz.2.1 q0 2 q1 3 hq rfl hq1 rfl hi hdg (fun H1 locs1 h1 _ h3 => kk H1 locs1 _ rfl (by
    have := PS.set hz (hK.arr (by decide) he) hq' h1 h3
    rw [rz_aast he] at this
    exact this))
theorem sw_alen {k N : Nat} {v : Int32} (hexec : p.tables.exec = Jvm.exec) (hb : c.code = cc) (hK : CxOk K) (hz : SS K s I L A H locs) (ho : cxS K a = .inr (k, N) ∧ k < 3 ∧ v = Int32.ofNat N) (hdg : decode cc pc = .ok (.arraylength, 1))
    (kk : W p l e R s m args below meth c H locs cells slots Q (F0 m (pc + 1) ls (.int v :: rest))) : W p l e R s m args below meth c H locs cells slots Q (F0 m pc ls (.ref a :: rest)) := by
  obtain ⟨he, hk, rfl⟩ := ho
  match k, hk, he with
  | 0, _, he => exact pw_alen (x := (N, .inl (I a))) hexec hb hz (hK.arr (by decide) he) (rz_int he) 1 rfl rfl hdg kk
  | 1, _, he => exact pw_alen (x := (N, .inr (.inl (L a)))) hexec hb hz (hK.arr (by decide) he) (rz_long he) 0 rfl rfl hdg kk
  | 2, _, he => exact pw_alen (x := (N, .inr (.inr (.inr (.inr (fun i => some (A a i))))))) hexec hb hz (hK.arr (by decide) he) (rz_ref he) 2 rfl rfl hdg kk
/-- the primes' array: its address in hand -/
def GPt (K : Cx) (s : State) (t : Nat) : Prop := va_Z RX6 "BIG_PRIMES" "[J" (.ref t) (PA (cxb K)) s s.heap ∧ va_T .long t 6 (fun j => .long (bigP j)) (PA (cxb K)) s s.heap ∧ va_Nw (.fieldLinkNest RX0 110 RX6 "BIG_PRIMES" "[J" RX6) s
theorem SS.gp (hz : SS K s I L A H locs) : ∃ t, GPt K s t := hz.2.2.2.2.2.2.2.2
theorem sw_gets {t : Nat} (hexec : p.tables.exec = Jvm.exec) (hb : c.code = cc) (hz : SS K s I L A H locs) (ht : GPt K s t) (hown : s.vm.findClass RX0 = some m.cls) (hdg : decode cc pc = .ok (.getstatic 110, 3))
    (kk : W p l e R s m args below meth c H locs cells slots Q (F0 m (pc + 3) ls (.ref t :: rest))) : W p l e R s m args below meth c H locs cells slots Q (F0 m pc ls rest) :=
  va_getsN hexec hb ht.1 hz.2.1 hown (ht.2.2.use rfl) (fun _ h => h) hdg kk
theorem sw_tl {t : Nat} {i : Int32} (hexec : p.tables.exec = Jvm.exec) (hb : c.code = cc) (hz : SS K s I L A H locs) (ht : GPt K s t) (hin : vp_in i 6) (hdg : decode cc pc = .ok (.laload, 1))
    (kk : W p l e R s m args below meth c H locs cells slots Q (F0 m (pc + 1) ls (.long (bigP (ix i)) :: rest))) : W p l e R s m args below meth c H locs cells slots Q (F0 m pc ls (.int i :: .ref t :: rest)) :=
  va_tl hexec hb ht.2.1 hz.2.1 hin rfl hdg kk
theorem sw_tlen {t : Nat} (hexec : p.tables.exec = Jvm.exec) (hb : c.code = cc) (hz : SS K s I L A H locs) (ht : GPt K s t) (hdg : decode cc pc = .ok (.arraylength, 1))
    (kk : W p l e R s m args below meth c H locs cells slots Q (F0 m (pc + 1) ls (.int 6 :: rest))) : W p l e R s m args below meth c H locs cells slots Q (F0 m pc ls (.ref t :: rest)) :=
  va_tlen hexec hb ht.2.1 hz.2.1 rfl hdg kk
/-- a whole array of a table -/
def us {α : Type} (f : Nat → Nat → α) (a : Nat) (g : Nat → α) : Nat → Nat → α := fun x => if x = a then g else f x
theorem us_self {α : Type} (f : Nat → Nat → α) (a : Nat) (g : Nat → α) : us f a g a = g := if_pos rfl
theorem us_ne {α : Type} (f : Nat → Nat → α) {a x : Nat} (g : Nat → α) (h : x ≠ a) : us f a g x = f x := if_neg h
theorem SS.normJ {D : va_G} {cl : List vw_C} {tys : List (ClassId × FieldType)} {b n : Nat} {E : Nat → va_E} {cA : ClassId} {N : Nat} {f g : Nat → Int64} (hz : PS D cl tys b n s (va_up E a (.inl (cA, N, .inr (.inl f)))) H locs) (h : ∀ j, j < N → f j = g j) : PS D cl tys b n s (va_up E a (.inl (cA, N, .inr (.inl g)))) H locs := by
  refine ⟨fun k q hk => ?_, hz.2⟩
  obtain ⟨h1, h2, h3, h4⟩ := pl_of hk
  obtain ⟨k0, hk0⟩ := pl_at (n := n) (E := va_up E a (.inl (cA, N, .inr (.inl f)))) (a := q.1) ⟨h1, h2⟩
  have h5 := hz.1 k0 _ hk0
  obtain ⟨q1, q2⟩ := q
  dsimp only at h3 h5 ⊢
  by_cases hq : q1 = a
  · subst hq
    rw [va_up_self] at h3 h5
    rw [h3]
    have h6 : H[q1]? = some (vp_cell cA (N, .inr (.inl f))) := h5
    show H[q1]? = some (vp_cell cA (N, .inr (.inl g)))
    rw [h6, vp_cell_l, vp_cell_l]
    have e : (Array.ofFn (n := N) fun j => Value.long (f j.val)) = Array.ofFn (n := N) fun j => Value.long (g j.val) := congrArg _ (funext fun j => by rw [h j.val j.isLt])
    unfold arrV
    rw [e]
  · rw [va_up_ne _ _ hq] at h3 h5
    rw [h3]
    exact h5
theorem rz_us {cJ cI cR : ClassId} {sh : Nat → Shp} {N : Nat} (h : sh a = .inr (1, N)) (g : Nat → Int64) : va_up (rz cJ cI cR sh I L A) a (.inl (cJ, N, .inr (.inl g))) = rz cJ cI cR sh I (us L a g) A := by
  refine rz_ext ?_ (fun q hq => ⟨rfl, us_ne _ _ hq, rfl⟩)
  rw [rz_long h, us_self]
/-- System.arraycopy(x.c, 0, y.c, 0, 13) -/
theorem sw_copy13 {own : String} {index d : Nat} (hexec : p.tables.exec = Jvm.exec) (hb : c.code = cc) (hml : c.maxLocals = ls.size) (hown : s.vm.findClass own = some m.cls) (hlink : (Cond.methodLink own index arraycopyName).before args s = true) (hnat : (Cond.native arraycopyName).before args s = true) (hstat : (Cond.static arraycopyName).before args s = true) (hini : (Cond.initialized "java/lang/System").before args s = true)
    (hK : CxOk K) (hz : SS K s I L A H locs) (he0 : cxS K a = .inr (1, 13)) (he : cxS K d = .inr (1, 13)) (hframes : 1 ≤ R.frames) (hlocals : (rest.map fun v => v.category).sum + (nativeFrameWords "java/lang/System" "arraycopy" 5 + 11) ≤ R.locals) (hdg : decode cc pc = .ok (.invokestatic index, 3))
    (kk : ∀ (H1 : Heap) (locs1 : List Loc) (L1 : TL), L1 = us L d (L a) → SS K s I L1 A H1 locs1 → W p l e R s m args below meth c H1 locs1 cells slots Q (F0 m (pc + 3) ls rest)) : W p l e R s m args below meth c H locs cells slots Q (F0 m pc ls (.int 13 :: .int 0 :: .ref d :: .int 0 :: .ref a :: rest)) :=
  pw_copyl hexec hb hml hown hlink hnat hstat hini hz (hK.arr (by decide) he0) (hK.arr (by decide) he) (rz_long he0) (rz_long he) 0 0 rfl rfl (by decide +kernel) (by decide +kernel) (by decide +kernel) (by decide +kernel) (by decide +kernel) hframes hlocals hdg (fun H1 locs1 hz1 => kk H1 locs1 _ rfl (by
    have h0 : Int32.toNatClampNeg 0 = 0 := by decide +kernel
    have h13 : Int32.toNatClampNeg 13 = 13 := by decide +kernel
    have := SS.normJ (g := L a) hz1 (fun j hj => by rw [h0, h13]; exact (pk_cpy_in (sp := 0) (dp := 0) (n := 13) (Nat.zero_le _) (by omega)).trans (congrArg (L a) (by omega)))
    rw [rz_us he] at this
    exact this))
theorem SS.preV {ci : Nat} {C : String} {T : u_T} {N : Nat} {As : List Value} {ks : List K3} (hz : SS K s I L A H locs) (hK : CxOk K) (he : cxS K a = .inl (ci, ks)) (hc : vwCl[ci]? = some (C, T, N)) : PreV s H C a (cxP K I L A H.size (.ref a :: As)) As := PS.preV hz (hK.obj he) (rz_obj he) hc
theorem SS.preS {As : List Value} (hz : SS K s I L A H locs) : PreS s H (cxP K I L A H.size As) As := PS.preS hz
theorem SS.gn (hz : SS K s I L A H locs) : GN s := hz.2.2.2.2.2.1
theorem sw_callv {P : TI → TL → TA → Prop} {st0 : List Value} {av : Array Value} (hz : SS K s I L A H locs) (hr : va_Run p l e R s m args below meth c H locs cells slots 0 0 (F0 m pc ls st0) rest (cxQv K P av) (PA (cxb K)))
    (kk : ∀ (I1 : TI) (L1 : TL) (A1 : TA) (H1 : Heap) (locs1 : List Loc), P I1 L1 A1 → SS K s I1 L1 A1 H1 locs1 → W p l e R s m args below meth c H1 locs1 cells slots Q (F0 m (pc + 3) ls rest)) : W p l e R s m args below meth c H locs cells slots Q (F0 m pc ls st0) :=
  pw_callv hz hr (fun E' H1 locs1 hp hz1 => by
    obtain ⟨I1, L1, A1, rfl, hp⟩ := hp
    exact kk I1 L1 A1 H1 locs1 hp hz1)
theorem sw_calli {P : Int32 → TI → TL → TA → Prop} {st0 : List Value} {av : Array Value} (hz : SS K s I L A H locs) (hr : va_Run p l e R s m args below meth c H locs cells slots 0 0 (F0 m pc ls st0) rest (cxQi K P av) (PA (cxb K)))
    (kk : ∀ (r : Int32) (I1 : TI) (L1 : TL) (A1 : TA) (H1 : Heap) (locs1 : List Loc), P r I1 L1 A1 → SS K s I1 L1 A1 H1 locs1 → W p l e R s m args below meth c H1 locs1 cells slots Q (F0 m (pc + 3) ls (.int r :: rest))) : W p l e R s m args below meth c H locs cells slots Q (F0 m pc ls st0) :=
  pw_calli hz hr (fun r E' H1 locs1 hp hz1 => by
    obtain ⟨I1, L1, A1, rfl, hp⟩ := hp
    exact kk r I1 L1 A1 H1 locs1 hp hz1)
theorem sw_calll {P : Int64 → TI → TL → TA → Prop} {st0 : List Value} {av : Array Value} (hz : SS K s I L A H locs) (hr : va_Run p l e R s m args below meth c H locs cells slots 0 0 (F0 m pc ls st0) rest (cxQl K P av) (PA (cxb K)))
    (kk : ∀ (r : Int64) (I1 : TI) (L1 : TL) (A1 : TA) (H1 : Heap) (locs1 : List Loc), P r I1 L1 A1 → SS K s I1 L1 A1 H1 locs1 → W p l e R s m args below meth c H1 locs1 cells slots Q (F0 m (pc + 3) ls (.long r :: rest))) : W p l e R s m args below meth c H locs cells slots Q (F0 m pc ls st0) :=
  pw_calll hz hr (fun r E' H1 locs1 hp hz1 => by
    obtain ⟨I1, L1, A1, rfl, hp⟩ := hp
    exact kk r I1 L1 A1 H1 locs1 hp hz1)
theorem sw_iret {P : Int32 → TI → TL → TA → Prop} {v : Int32} (hexec : p.tables.exec = Jvm.exec) (hb : c.code = cc) (hr : meth.sig.returnType = some .int) (hlocks : meth.locks = false) (hz : SS K s I L A H locs) (hp : P v I L A) (hdg : decode cc pc = .ok (.ireturn, 1)) :
    W p l e R s m args below meth c H locs cells slots (MQ below (cxQi K P) args s cells slots (PA (cxb K))) (F0 m pc ls [.int v]) := pw_iret hexec hb hr hlocks hz ⟨I, L, A, rfl, hp⟩ hdg
theorem sw_zret {P : Int32 → TI → TL → TA → Prop} {v : Int32} (hexec : p.tables.exec = Jvm.exec) (hb : c.code = cc) (hr : meth.sig.returnType = some .boolean) (hlocks : meth.locks = false) (hz : SS K s I L A H locs) (hv : v = 0 ∨ v = 1) (hp : P v I L A) (hdg : decode cc pc = .ok (.ireturn, 1)) :
    W p l e R s m args below meth c H locs cells slots (MQ below (cxQi K P) args s cells slots (PA (cxb K))) (F0 m pc ls [.int v]) := pw_zret hexec hb hr hlocks hv hz ⟨I, L, A, rfl, hp⟩ hdg
theorem sw_lret {P : Int64 → TI → TL → TA → Prop} {v : Int64} (hexec : p.tables.exec = Jvm.exec) (hb : c.code = cc) (hr : meth.sig.returnType = some .long) (hlocks : meth.locks = false) (hz : SS K s I L A H locs) (hp : P v I L A) (hdg : decode cc pc = .ok (.lreturn, 1)) :
    W p l e R s m args below meth c H locs cells slots (MQ below (cxQl K P) args s cells slots (PA (cxb K))) (F0 m pc ls [.long v]) := pw_lret hexec hb hr hlocks hz ⟨I, L, A, rfl, hp⟩ hdg
theorem sw_vret {P : TI → TL → TA → Prop} (hexec : p.tables.exec = Jvm.exec) (hb : c.code = cc) (hr : meth.sig.returnType = none) (hlocks : meth.locks = false) (hz : SS K s I L A H locs) (hp : P I L A) (hdg : decode cc pc = .ok (.return_, 1)) :
    W p l e R s m args below meth c H locs cells slots (MQ below (cxQv K P) args s cells slots (PA (cxb K))) (F0 m pc ls []) := pw_vret hexec hb hr hlocks hz ⟨I, L, A, rfl, hp⟩ hdg
end SW
section
/-- the shapes of the classes' objects: a fixed reference lies at a fixed distance -/
abbrev fr (x : Nat) : K3 := some (some x)
abbrev fI : K3 := none
abbrev fL : K3 := some none
def shX4 (a : Nat) : Shp := .inl (3, [fr (a + 1), fI])
def shX2 (a : Nat) : Shp := .inl (1, [fr (a + 1), fr (a + 14), fI, fI])
def shX3 (a : Nat) : Shp := .inl (2, [fL, fr (a + 1), fr (a + 2), fr (a + 4)])
def shX5 (a : Nat) : Shp := .inl (4, [fr (a + 1), fr (a + 7), fr (a + 9), fr (a + 11), fr (a + 13), fr (a + 15), fr (a + 17), fr (a + 26), fr (a + 41), fI])
def shX0 (a : Nat) : Shp := .inl (0, [fr (a + 1), fr (a + 2), fr (a + 55), fr (a + 57), fr (a + 59), fr (a + 61), fr (a + 63), fr (a + 65), fr (a + 67), fr (a + 69)])
def shX6 (a : Nat) : Shp := .inl (5, [fr (a + 1), fr (a + 18), fr (a + 20), fr (a + 22), fr (a + 24), fr (a + 39), fI, fr (a + 40), fr (a + 41)])
def shX7 (a : Nat) : Shp := .inl (6, [fI, fr (a + 1), fI, fI, fr (a + 2), fr (a + 3), fI, fI, fI, fr (a + 4), fr (a + 5), fI, fr (a + 6), fr (a + 7), fI, fI, fI, fI, fr (a + 8), fI, fL, fL, fL, fI, fL])
end
