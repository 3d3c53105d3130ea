/-! MAKING: rows for bodies that make cells, with the pool reaching to the heap's end: a new cell's address is b + n. -/
section MK
variable {p : Program} {l : Launch} {e : Env} {R : Room} {s : State} {m : MethodId} {args : Array Value} {below : List Frame} {meth : Method} {c : Code} {H : Heap} {locs : List Loc} {cells slots : Nat} {Q : State → Prop}
variable {cc : ByteArray} {pc : Nat} {ls : Array Slot} {rest : List Value}
variable {D : va_G} {cl : List vw_C} {tys : List (ClassId × FieldType)} {b n : Nat} {E : Nat → va_E} {a : Nat}
theorem PS.grow {H1 : Heap} {x : va_E} (hz : PS D cl tys b n s E H locs) (hH : H.size = b + n) (z1 : H1.size = b + n + 1) (o1 : ∀ q, q < b + n → H1[q]? = H[q]?) (hx : va_at D cl (b + n, x) H1) : PS D cl tys b (n + 1) s (va_up E (b + n) x) H1 locs := by
  refine ⟨fun k q hk => ?_, ⟨Nat.le_trans hz.2.1.1 (by omega), fun q h1 h2 => (o1 q ?_).trans (hz.2.1.2.1 q h1 h2), hz.2.1.2.2⟩, hz.2.2.1, hz.2.2.2⟩
  · obtain ⟨h1, h2, h3, h4⟩ := pl_of hk
    by_cases hb : q.1 = b + n
    · have e1 : q = (b + n, x) := by
        obtain ⟨q1, q2⟩ := q
        dsimp only at hb h3
        rw [h3, hb, va_up_self]
      rw [e1]
      exact hx
    · obtain ⟨k0, hk0⟩ := pl_at (n := n) (E := E) (a := q.1) ⟨h1, by omega⟩
      have e1 : q = (q.1, E q.1) := by
        obtain ⟨q1, q2⟩ := q
        dsimp only at hb h3 ⊢
        rw [h3, va_up_ne _ _ hb]
      rw [e1]
      exact (hz.1 k0 _ hk0).kept (o1 q.1 (by omega))
  · have := hz.2.1.1
    omega
theorem pw_newa {atype : ArrayType} {ty : FieldType} {cA0 : ClassId} {v : Int32} {N' : Nat} {a0 : vp_A} (hexec : p.tables.exec = Jvm.exec) (hb : c.code = cc) (harr : (Cond.arrayClass (newarray.typeOf atype)).before args s = true) (hty : newarray.typeOf atype = ty) (hz : PS D cl tys b n s E H locs) (hH : H.size = b + n) (t0 : Nat) (ht : tys[t0]? = some (cA0, ty)) (hnr : ∀ C, ty ≠ .object C)
    (ha : ∀ cA : ClassId, vp_cell cA a0 = arrV cA N' (fun _ => defaultValue ty)) (hn : ¬ v < 0) (hN : v.toNatClampNeg = N') (hbytes : N' * componentBytes ty ≤ 536870912) (hcells : cells + 1 ≤ R.cells) (hslots : slots + N' ≤ R.slots) (hdg : decode cc pc = .ok (.newarray atype, 2))
    (kk : ∀ (H1 : Heap), PS D cl tys b (n + 1) s (va_up E (b + n) (.inl (cA0, a0))) H1 locs → H1.size = b + n + 1 → W p l e R s m args below meth c H1 locs (cells + 1) (slots + N') Q (F0 m (pc + 2) ls (.ref (b + n) :: rest))) : W p l e R s m args below meth c H locs cells slots Q (F0 m pc ls (.int v :: rest)) := by
  subst hty
  refine va_newaK hexec hb harr rfl hdg rfl hn hN hbytes hcells hslots hH fun H1 cA e1 z1 o1 hAr hNm => ?_
  have hA := (hz.2.2.1.2 t0 _ ht).2
  have hcA : cA = cA0 := by
    have h2 : s.vm.findClass ("[" ++ (newarray.typeOf atype).toString) = some cA0 := by
      revert hA
      cases hq : newarray.typeOf atype with
      | object C => exact absurd hq (hnr C)
      | _ => exact fun h => h
    exact Option.some.inj (hNm.symm.trans h2)
  subst hcA
  exact kk H1 (hz.grow hH z1 o1 (by show H1[b + n]? = some (vp_cell _ _); rw [ha]; exact e1)) z1
theorem pw_new {own C : String} {T : u_T} {N ci index : Nat} {Ts : List Cond} {fs : List Value} (hexec : p.tables.exec = Jvm.exec) (hb : c.code = cc) (hts : ∀ w ∈ Ts, w.before args s = true) (hin : ∀ w ∈ u_ws C T N, w ∈ Ts) (ty : Nat → FieldType) (hty : ∀ k, k < N → parseFieldDescriptor (T k).2.2.1 = some (ty k)) (hown : s.vm.findClass own = some m.cls) (hcl : (Cond.classLink own index C).before args s = true) (hinst : (Cond.instantiable C N).before args s = true) (hini : (Cond.initialized C).before args s = true)
    (hz : PS D cl tys b n s E H locs) (hH : H.size = b + n) (hc : cl[ci]? = some (C, T, N)) (hfs : ∀ j, j < N → defaultValue (ty j) = vp_V fs j) (hcells : cells + 1 ≤ R.cells) (hslots : slots + N ≤ R.slots) (hdg : decode cc pc = .ok (.new index, 3))
    (kk : ∀ (H1 : Heap), PS D cl tys b (n + 1) s (va_up E (b + n) (.inr (ci, fs))) H1 locs → H1.size = b + n + 1 → W p l e R s m args below meth c H1 locs (cells + 1) (slots + N) Q (F0 m (pc + 3) ls (.ref (b + n) :: rest))) : W p l e R s m args below meth c H locs cells slots Q (F0 m pc ls rest) := by
  have hKn := hz.2.2.1.1 ci _ hc
  refine W.newcK hexec hb hown hcl hinst hini rfl hdg hcells hslots hKn.2.1 hH fun H1 kC hkC e1 z1 o1 => ?_
  exact kk H1 (hz.grow hH z1 o1 ⟨_, hc, (u_born ty hts hin hKn hkC e1 hty).to hfs⟩) z1
theorem pw_newq {own C : String} {index : Nat} {cA0 : ClassId} {v : Int32} {N' : Nat} (hexec : p.tables.exec = Jvm.exec) (hb : c.code = cc) (hown : s.vm.findClass own = some m.cls) (hclink : (Cond.classLink own index C).before args s = true) (hover : va_AO C s) (hz : PS D cl tys b n s E H locs) (hH : H.size = b + n) (t0 : Nat) (ht : tys[t0]? = some (cA0, .object C))
    (hn : ¬ v < 0) (hN : v.toNatClampNeg = N') (hbytes : N' * 4 ≤ 536870912) (hcells : cells + 1 ≤ R.cells) (hslots : slots + N' ≤ R.slots) (hdg : decode cc pc = .ok (.anewarray index, 3))
    (kk : ∀ (H1 : Heap), PS D cl tys b (n + 1) s (va_up E (b + n) (.inl (cA0, N', .inr (.inr (.inr (.inr (fun _ => none))))))) H1 locs → H1.size = b + n + 1 → W p l e R s m args below meth c H1 locs (cells + 1) (slots + N') Q (F0 m (pc + 3) ls (.ref (b + n) :: rest))) : W p l e R s m args below meth c H locs cells slots Q (F0 m pc ls (.int v :: rest)) := by
  subst hN
  refine W.anew hexec hb hown hclink (va_AO.use hover) rfl hdg rfl hn hbytes hcells hslots fun cA kA comp f1 f2 f3 f4 => ?_
  obtain ⟨kA9, comp9, h1, h2, h3, h4⟩ := (hz.2.2.1.2 t0 _ ht).2
  have hcA : cA = cA0 := Option.some.inj (f1.symm.trans h4)
  subst hcA
  refine W.eq (g2 := F0 m (pc + 3) ls (.ref (b + n) :: rest)) (by rw [hH]) ?_
  refine kk _ (hz.grow hH (by rw [Array.size_push, hH]) (fun q hq => by rw [Array.getElem?_push, if_neg (by omega)]) ?_) (by rw [Array.size_push, hH])
  show (H.push _)[b + n]? = some (vp_cell _ _)
  rw [vp_cell_q, ← hH, Array.getElem?_push_size, ← arrV_new]
  rfl
theorem pw_putS {own ref C : String} {T : u_T} {N ci index z : Nat} {Ts : List Cond} {fs : List Value} {ty : FieldType} {v : Value} (hexec : p.tables.exec = Jvm.exec) (hb : c.code = cc) (hts : ∀ w ∈ Ts, w.before args s = true) (hin : ∀ w ∈ u_ws C T N, w ∈ Ts) (ty0 : Nat → FieldType) (hty : ∀ k, k < N → parseFieldDescriptor (T k).2.2.1 = some (ty0 k)) (hnm : ∀ a, a < N → ∀ b, b < N → a ≠ b → (T a).2.1 ≠ (T b).2.1) (hown : s.vm.findClass own = some m.cls) (hz : PS D cl tys b n s E H locs) (hH : H.size = z) (ha : b ≤ a ∧ a < b + n) (he : E a = .inr (ci, fs)) (hc : cl[ci]? = some (C, T, N)) (k : Nat) (hk : k < N) (hlink : (Cond.fieldLink own index ref (T k).2.1 (T k).2.2.1).before args s = true) (hsame : ∀ x, s.fieldFound? (T k).1 (T k).2.1 (T k).2.2.1 = some x → s.fieldFound? ref (T k).2.1 (T k).2.2.1 = some x) (hfin : (T k).2.2.2 = false) (hd : parseFieldDescriptor (T k).2.2.1 = some ty) (hn : narrow ty v = v) (hfit : fits ty v = true) (hl : k < fs.length)
    (hdg : decode cc pc = .ok (.putfield index, 3)) (kk : ∀ (H1 : Heap) (locs1 : List Loc), PS D cl tys b n s (va_up E a (.inr (ci, fs.set k v))) H1 locs1 → H1.size = z → W p l e R s m args below meth c H1 locs1 cells slots Q (F0 m (pc + 3) ls rest)) : W p l e R s m args below meth c H locs cells slots Q (F0 m pc ls (v :: .ref a :: rest)) := by
  obtain ⟨q0, hq⟩ := pl_at (E := E) ha
  have hq' := hq
  rw [he] at hq
  have hap := va_apart (own := own) hts hin ty0 hty hnm hz.2.2.1 hc
  obtain ⟨r, h1, cell, q1, q2, q3, q4⟩ := hz.1 q0 _ hq
  have hr : r = (C, T, N) := Option.some.inj (h1.symm.trans hc)
  subst hr
  obtain ⟨hS, hfc, kC, hkC, hkind⟩ := hz.2.2.1.1 ci _ hc
  obtain ⟨cf, kf, fi, f, hi, hsl⟩ := hS k hk
  have hlay := hts _ (hin _ (u_in_lay hk))
  unfold u_lay at hlay
  rw [if_neg (by rw [hfin]; decide)] at hlay
  have hst := (u_facts hfc hkC (u_lays hts hin hk) hi).1
  have h6 := u_store hfc hkC hkind hlay hi hd hn hfit
  refine W.putK hexec hb (f := f) ⟨hown, hlink, ⟨_, _, _, hsame _ hi⟩, hst⟩ (by rw [q2]; exact h6) q1 q3 (by rw [hsl]; exact k2_hasslot (q4 k hk)) rfl rfl hdg fun H' e1 e2 e3 => ?_
  rw [hsl] at e1 ⊢
  exact kk H' _ (hz.set ha hq' (hz.1.set pl_D hq ⟨_, hc, t_OB.to (V := updV (vp_V fs) k v) ⟨_, e1, q2, q3, t_set q4 hap hk v⟩ (fun j _ => vp_updV_set hl v j)⟩ e3) (hz.2.1.put e2 e3 ha.1)) (e2.trans hH)
theorem pw_putFS {own ref C : String} {T : u_T} {N ci index z : Nat} {Ts : List Cond} {fs : List Value} {ty : FieldType} {v : Value} (hexec : p.tables.exec = Jvm.exec) (hb : c.code = cc) (hts : ∀ w ∈ Ts, w.before args s = true) (hin : ∀ w ∈ u_ws C T N, w ∈ Ts) (ty0 : Nat → FieldType) (hty : ∀ k, k < N → parseFieldDescriptor (T k).2.2.1 = some (ty0 k)) (hnm : ∀ a, a < N → ∀ b, b < N → a ≠ b → (T a).2.1 ≠ (T b).2.1) (hown : s.vm.findClass own = some m.cls) (hz : PS D cl tys b n s E H locs) (hH : H.size = z) (ha : b ≤ a ∧ a < b + n) (he : E a = .inr (ci, fs)) (hc : cl[ci]? = some (C, T, N)) (k : Nat) (hk : k < N) (hlink : (Cond.fieldLink own index ref (T k).2.1 (T k).2.2.1).before args s = true) (hsame : ∀ x, s.fieldFound? (T k).1 (T k).2.1 (T k).2.2.1 = some x → s.fieldFound? ref (T k).2.1 (T k).2.2.1 = some x) (hfin : (T k).2.2.2 = true) (hin2 : meth.name = "<init>") (hdecl : (T k).1 = own) (hd : parseFieldDescriptor (T k).2.2.1 = some ty) (hn : narrow ty v = v) (hfit : fits ty v = true) (hl : k < fs.length)
    (hdg : decode cc pc = .ok (.putfield index, 3)) (kk : ∀ (H1 : Heap) (locs1 : List Loc), PS D cl tys b n s (va_up E a (.inr (ci, fs.set k v))) H1 locs1 → H1.size = z → W p l e R s m args below meth c H1 locs1 cells slots Q (F0 m (pc + 3) ls rest)) : W p l e R s m args below meth c H locs cells slots Q (F0 m pc ls (v :: .ref a :: rest)) := by
  obtain ⟨q0, hq⟩ := pl_at (E := E) ha
  have hq' := hq
  rw [he] at hq
  have hap := va_apart (own := own) hts hin ty0 hty hnm hz.2.2.1 hc
  obtain ⟨r, h1, cell, q1, q2, q3, q4⟩ := hz.1 q0 _ hq
  have hr : r = (C, T, N) := Option.some.inj (h1.symm.trans hc)
  subst hr
  obtain ⟨hS, hfc, kC, hkC, hkind⟩ := hz.2.2.1.1 ci _ hc
  obtain ⟨cf, kf, fi, f, hi, hsl⟩ := hS k hk
  have hlay := hts _ (hin _ (u_in_lay hk))
  unfold u_lay at hlay
  rw [if_pos hfin] at hlay
  have hst := (u_facts hfc hkC (u_lays hts hin hk) hi).1
  have hcf : m.cls = cf := by
    obtain ⟨_, _, c', _, _, _, -, -, hf', -, -, -, hown2, -⟩ := Cond.laysFinal_spec hlay
    have e1 : c' = cf := by have := hi.symm.trans hf'; simp at this; exact this.1.symm
    rw [hdecl] at hown2
    rw [← e1]; exact Option.some.inj (hown.symm.trans hown2)
  have h6 := u_fits hfc hkC hkind (Or.inr hlay) hi hd hn hfit
  refine W.putFinK hexec hb hown hlink (hsame _ hi) hst hcf hin2 (by rw [q2]; exact h6) q1 q3 (by rw [hsl]; exact k2_hasslot (q4 k hk)) rfl rfl hdg fun H' e1 e2 e3 => ?_
  rw [hsl] at e1 ⊢
  exact kk H' _ (hz.set ha hq' (hz.1.set pl_D hq ⟨_, hc, t_OB.to (V := updV (vp_V fs) k v) ⟨_, e1, q2, q3, t_set q4 hap hk v⟩ (fun j _ => vp_updV_set hl v j)⟩ e3) (hz.2.1.put e2 e3 ha.1)) (e2.trans hH)
theorem pw_astqS {cA : ClassId} {r : vw_C} {N v z : Nat} {vs : List Value} {f : Nat → Option Nat} {i : Int32} (hexec : p.tables.exec = Jvm.exec) (hb : c.code = cc) (hz : PS D cl tys b n s E H locs) (hH : H.size = z) (ha : b ≤ a ∧ a < b + n) (he : E a = .inl (cA, N, .inr (.inr (.inr (.inr f))))) (t0 ci : Nat) (ht : tys[t0]? = some (cA, .object r.1)) (hav : b ≤ v ∧ v < b + n) (hv : E v = .inr (ci, vs)) (hc : cl[ci]? = some r) (hin : vp_in i N) (hdg : decode cc pc = .ok (.aastore, 1))
    (kk : ∀ (H1 : Heap) (locs1 : List Loc), PS D cl tys b n s (va_up E a (.inl (cA, N, .inr (.inr (.inr (.inr (va_up f i.toNatClampNeg (some v)))))))) H1 locs1 → H1.size = z → W p l e R s m args below meth c H1 locs1 cells slots Q (F0 m (pc + 1) ls rest)) : W p l e R s m args below meth c H locs cells slots Q (F0 m pc ls (.ref v :: .int i :: .ref a :: rest)) := by
  obtain ⟨q0, hq⟩ := pl_at (E := E) ha
  have hq' := hq
  rw [he] at hq
  obtain ⟨qk, hqk⟩ := pl_at (E := E) hav
  rw [hv] at hqk
  have hlt : i.toNatClampNeg < N := Nat.not_le.mp fun q => hin (Or.inr q)
  have h0 : ¬ i < 0 := fun q => hin (Or.inl q)
  obtain ⟨r', hr', cellV, g1, g2, g3, -⟩ := hz.1 qk _ hqk
  have hcls := (hz.2.2.1.1 ci r hc).2
  obtain ⟨kA, comp, k1, k2, k3, -⟩ := (hz.2.2.1.2 t0 _ ht).2
  have hcomp : comp = D.1 ci := Option.some.inj (k3.symm.trans hcls.1)
  subst hcomp
  obtain ⟨kC, hkC, -⟩ := hcls.2
  refine W.aast hexec hb (hz.1 q0 _ hq) (fun q h => by cases h) (fun h => by cases h) k1 k2 rfl hkC ⟨h0, by show _ < (arrV _ _ _).slots.size; rw [arrV_size]; exact hlt⟩ g1 (fun q h => by rw [g3] at h; cases h) (by rw [g2]; exact hkC) (by rw [g2]; exact va_assign hcls) rfl rfl hdg fun H1 e z1 oq => ?_
  refine kk H1 _ (hz.set ha hq' (hz.1.set pl_D hq ?_ oq) (hz.2.1.put z1 oq ha.1)) (z1.trans hH)
  show H1[a]? = some (vp_cell _ _)
  rw [e]
  rw [vp_cell_q, vp_cell_q, arrV_store]
  congr 2
  funext q
  by_cases hq : q = i.toNatClampNeg
  · subst hq
    simp [updV, va_up, va_rf]
  · simp [updV, va_up, hq]
/-- the end of a body that made the cells up to n' -/
def cQm (D : va_G) (cl : List vw_C) (tys : List (ClassId × FieldType)) (b n' : Nat) (post : (Nat → va_E) → Prop) : Array Value → State → Outcome → State → Prop := va_Qv post (fun E' t => t.heap.size = b + n' ∧ PB D cl tys b n' E' t) (PA b)
def cQr (D : va_G) (cl : List vw_C) (tys : List (ClassId × FieldType)) (b n' : Nat) (post : Nat → (Nat → va_E) → Prop) : Array Value → State → Outcome → State → Prop := va_Qr (fun _ => True) (fun E' ra t => post ra E' ∧ t.heap.size = b + n' ∧ PB D cl tys b n' E' t) (PA b)
theorem pw_callm {n' mc ms : Nat} {post : (Nat → va_E) → Prop} {st0 : List Value} {av : Array Value} (hz : PS D cl tys b n s E H locs) (hr : va_Run p l e R s m args below meth c H locs cells slots mc ms (F0 m pc ls st0) rest (cQm D cl tys b n' post av) (PA b))
    (kk : ∀ (E' : Nat → va_E) (H1 : Heap) (locs1 : List Loc), post E' → PS D cl tys b n' s E' H1 locs1 → H1.size = b + n' → W p l e R s m args below meth c H1 locs1 (cells + mc) (slots + ms) Q (F0 m (pc + 3) ls rest)) : W p l e R s m args below meth c H locs cells slots Q (F0 m pc ls st0) :=
  va_callv hr hz.2.1 (fun _ _ h => h) (fun _ h => h) (fun u t H1 locs1 ht _ hp hB _ _ hS => kk u H1 locs1 hp (hz.call (by rw [← ht]; exact hB.2.1) hS) (by rw [← ht]; exact hB.1))
theorem pw_callr {n' mc ms : Nat} {post : Nat → (Nat → va_E) → Prop} {st0 : List Value} {av : Array Value} (hz : PS D cl tys b n s E H locs) (hr : va_Run p l e R s m args below meth c H locs cells slots mc ms (F0 m pc ls st0) rest (cQr D cl tys b n' post av) (PA b))
    (kk : ∀ (ra : Nat) (E' : Nat → va_E) (H1 : Heap) (locs1 : List Loc), post ra E' → PS D cl tys b n' s E' H1 locs1 → H1.size = b + n' → W p l e R s m args below meth c H1 locs1 (cells + mc) (slots + ms) Q (F0 m (pc + 3) ls (.ref ra :: rest))) : W p l e R s m args below meth c H locs cells slots Q (F0 m pc ls st0) :=
  va_callr hr hz.2.1 (fun _ _ h => h) (fun _ h => h) (fun u ra t H1 locs1 ht _ _ hB _ _ hS => kk ra u H1 locs1 hB.1 (hz.call (by rw [← ht]; exact hB.2.2.1) hS) (by rw [← ht]; exact hB.2.1))
theorem pw_mret {n' : Nat} {post : (Nat → va_E) → Prop} (hexec : p.tables.exec = Jvm.exec) (hb : c.code = cc) (hr : meth.sig.returnType = none) (hlocks : meth.locks = false) (hz : PS D cl tys b n' s E H locs) (hH : H.size = b + n') (hp : post E) (hdg : decode cc pc = .ok (.return_, 1)) :
    W p l e R s m args below meth c H locs cells slots (MQ below (cQm D cl tys b n' post) args s cells slots (PA b)) (F0 m pc ls []) :=
  W.vret hexec hb hr (fun t ht hW => ⟨⟨E, rfl, hp, by rw [ht]; exact hH, (hz.fin ht hW).1⟩, (hz.fin ht hW).2⟩) hz.2.1.2.2 hdg hlocks
theorem pw_aret {n' : Nat} {rt : FieldType} {post : Nat → (Nat → va_E) → Prop} (hexec : p.tables.exec = Jvm.exec) (hb : c.code = cc) (hr : meth.sig.returnType = some rt) (hrt : (∃ n, rt = .object n) ∨ ∃ t, rt = .array t) (hlocks : meth.locks = false) (hz : PS D cl tys b n' s E H locs) (hH : H.size = b + n') (hp : post a E) (hdg : decode cc pc = .ok (.areturn, 1)) :
    W p l e R s m args below meth c H locs cells slots (MQ below (cQr D cl tys b n' post) args s cells slots (PA b)) (F0 m pc ls [.ref a]) :=
  W.aret (v := .ref a) hexec hb hr hrt (Or.inr ⟨a, rfl⟩) (fun t ht hW => ⟨⟨E, a, rfl, trivial, hp, by rw [ht]; exact hH, (hz.fin ht hW).1⟩, (hz.fin ht hW).2⟩) hz.2.1.2.2 hdg hlocks
end MK
section CPY
variable {p : Program} {l : Launch} {e : Env} {R : Room} {s : State} {m : MethodId} {args : Array Value} {below : List Frame} {meth : Method} {c : Code} {H : Heap} {locs : List Loc} {cells slots : Nat} {Q : State → Prop}
variable {cc : ByteArray} {pc : Nat} {ls : Array Slot} {rest : List Value}
variable {D : va_G} {cl : List vw_C} {tys : List (ClassId × FieldType)} {b n : Nat} {E : Nat → va_E} {a a0 : Nat}
/-- System.arraycopy of longs -/
theorem pw_copyl {own : String} {index : Nat} {c0 c1 : ClassId} {n0 n1 : Nat} {f g : Nat → Int64} {sp dp k : Int32} (hexec : p.tables.exec = Jvm.exec) (hb : c.code = cc) (hml : c.maxLocals = ls.size) (hown : s.vm.findClass own = some m.cls) (hlink : (Cond.methodLink own index arraycopyName).before args s = true) (hnat : (Cond.native arraycopyName).before args s = true) (hstat : (Cond.static arraycopyName).before args s = true) (hini : (Cond.initialized "java/lang/System").before args s = true)
    (hz : PS D cl tys b n s E H locs) (ha0 : b ≤ a0 ∧ a0 < b + n) (ha : b ≤ a ∧ a < b + n) (he0 : E a0 = .inl (c0, n0, .inr (.inl f))) (he : E a = .inl (c1, n1, .inr (.inl g))) (t0 t1 : Nat) (ht0 : tys[t0]? = some (c0, .long)) (ht1 : tys[t1]? = some (c1, .long))
    (h1 : ¬ sp < 0) (h2 : ¬ dp < 0) (h3 : ¬ k < 0) (h4 : sp.toNatClampNeg + k.toNatClampNeg ≤ n0) (h5 : dp.toNatClampNeg + k.toNatClampNeg ≤ n1)
    (hframes : 1 ≤ R.frames) (hlocals : (rest.map fun v => v.category).sum + (nativeFrameWords "java/lang/System" "arraycopy" 5 + 11) ≤ R.locals) (hdg : decode cc pc = .ok (.invokestatic index, 3))
    (kk : ∀ (H1 : Heap) (locs1 : List Loc), PS D cl tys b n s (va_up E a (.inl (c1, n1, .inr (.inl (va_cpy f g sp.toNatClampNeg dp.toNatClampNeg k.toNatClampNeg))))) H1 locs1 → W p l e R s m args below meth c H1 locs1 cells slots Q (F0 m (pc + 3) ls rest)) : W p l e R s m args below meth c H locs cells slots Q (F0 m pc ls (.int k :: .int dp :: .ref a :: .int sp :: .ref a0 :: rest)) := by
  obtain ⟨q0, hq0⟩ := pl_at (E := E) ha0
  rw [he0] at hq0
  obtain ⟨q1, hq⟩ := pl_at (E := E) ha
  have hq' := hq
  rw [he] at hq
  exact va_copyl hexec hb hml hown hlink hnat hstat hini hz.2.2.1 hz.1 pl_D hz.2.1 q0 q1 t0 t1 hq0 hq ht0 ht1 rfl h1 h2 h3 h4 h5 (fun _ _ => rfl) hframes hlocals hdg (fun H1 locs1 h1 _ h3 => kk H1 locs1 (hz.set ha hq' h1 h3))
end CPY
