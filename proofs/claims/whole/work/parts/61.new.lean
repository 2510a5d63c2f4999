section KB
variable {p : Program} {l : Launch} {e : Env} {R : Room} {s : State} {m : MethodId} {args : Array Value} {below : List Frame} {meth : Method} {c : Code} {Q : State → Prop} {cc : ByteArray} {nL : Nat} {ret : Option FieldType} {own : String} {G : Ly} {w : Wd} {A : Nat → Prop} {pc kc kn : Nat} {lv lv' : List (Nat × Value)} {st : List Value} {E : Heap → Prop}
/-- a new object: nothing of it is set -/
theorem k_new {P : Heap → Prop} (X : Cx p s m args meth c cc nL ret own G) {ci N o idx : Nat} {C : String} {T : u_T} {ty : Nat → FieldType} (K : CK ci C T N ty) (hcl : Cond.classLink own idx C ∈ gw) (hinst : Cond.instantiable C N ∈ gw) (hini : Cond.initialized C ∈ gw) (hnu : ∀ j, j < N → defaultValue (ty j) = nuV ci j) (hadr : s.heap.size + kc = gAd G o) (hR : kc + 1 ≤ R.cells ∧ kn + N ≤ R.slots) (hd : decode cc pc = .ok (.new idx, 3))
    (k : Kj p l e R s m args below meth c Q A nL (kc + 1) (kn + N) (pc + 3) lv (.ref (gAd G o) :: st) (fun H => Pa (gAd G o) P H ∧ Rq G w o ci [] [] H)) : Kj p l e R s m args below meth c Q A nL kc kn pc lv st P := by
  intro H locs ls h1 hz h2 h3
  have hts := X.1.2.2.2.2.1
  have hKn := X.2.2.1.1 ci _ K.1
  refine W.newcK X.1.1 X.1.2.1 X.1.2.2.2.1 (hts _ hcl) (hts _ hinst) (hts _ hini) rfl hd hR.1 hR.2 hKn.2.1 (hz.trans hadr) fun H1 kC hkC e1 z1 o1 => ?_
  refine k H1 locs ls ⟨⟨H, h1, hz.trans hadr, fun q hq => o1 q hq⟩, ?_, fun f hf => absurd hf List.not_mem_nil⟩ (by omega) ⟨by have := h2.1; omega, fun q a b => (o1 q (by have := h2.1; omega)).trans (h2.2.1 q a b), h2.2.2⟩ h3
  have hb := u_born ty hts K.2.1 hKn hkC e1 K.2.2.1
  rw [K.2.2.2.2] at hb
  exact hb.to fun j hj => hnu j (by rw [K.2.2.2.2]; exact hj)
theorem rq_put {ci o f : Nat} {S T : List Nat} {H H1 : Heap} {v : Value} (h : Rq G w o ci S T H) (hv : fval G w o ci f = v) (hT : ∀ f', f' ∈ T → gAr G o f' ≠ gAd G o) (e1 : t_OB (gAd G o) ((gD G).1 ci) (nfX ci) ((gD G).2 ci) H1 (updV (fun f => if f ∈ S then fval G w o ci f else nuV ci f) f v)) (e3 : ∀ q : Nat, q ≠ gAd G o → H1[q]? = H[q]?) : Rq G w o ci (f :: S) T H1 := by
  refine ⟨e1.to fun j hj => ?_, fun f' hf' => by rw [e3 _ (hT f' hf')]; exact h.2 f' hf'⟩
  by_cases e : j = f
  · subst e
    rw [if_pos List.mem_cons_self, hv]
    simp [updV]
  · simp [updV, e]
/-- a field that holds a reference is set, once -/
theorem k_putF (X : Cx p s m args meth c cc nL ret own G) {ci N o idx : Nat} {C : String} {T : u_T} {ty : Nat → FieldType} {S Tt : List Nat} (K : CK ci C T N ty) (ho : gOb G o = some ci) (f : Nat) (hf : f < N) (hl : Cond.fieldLink own idx (T f).1 (T f).2.1 (T f).2.2.1 ∈ gw) (hfin : (T f).2.2.2 = true) (hdecl : (T f).1 = own) (hin2 : meth.name = "<init>") {v : Value} (hv : fval G w o ci f = v) (hn : narrow (ty f) v = v) (hfit : fits (ty f) v = true) (hA : A (gAd G o)) (hT : ∀ f', f' ∈ Tt → f' < nfX ci ∧ isA (fkX ci f') = true) (hO : Off (gAd G o) E) (hd : decode cc pc = .ok (.putfield idx, 3))
    (k : Kj p l e R s m args below meth c Q A nL kc kn (pc + 3) lv st (fun H => E H ∧ Rq G w o ci (f :: S) Tt H)) : Kj p l e R s m args below meth c Q A nL kc kn pc lv (v :: .ref (gAd G o) :: st) (fun H => E H ∧ Rq G w o ci S Tt H) := by
  intro H locs ls h1 hz h2 h3
  have hts := X.1.2.2.2.2.1
  have hap := va_apart (own := own) hts K.2.1 ty K.2.2.1 K.2.2.2.1 X.2.2.1 K.1
  obtain ⟨hE1, hRq⟩ := h1
  obtain ⟨cell, q1, q2, q3, q4⟩ := hRq.1
  obtain ⟨hS, hfc, kC, hkC, hkind⟩ := X.2.2.1.1 ci _ K.1
  obtain ⟨cf, kf, fi, fd, hi, hsl⟩ := hS f hf
  have hlay := hts _ (K.2.1 _ (u_in_lay hf))
  unfold u_lay at hlay
  rw [if_pos hfin] at hlay
  have hst := (u_facts hfc hkC (u_lays hts K.2.1 hf) hi).1
  have hcf : m.cls = cf := by
    obtain ⟨_, _, c', _, _, _, -, -, hf', -, -, -, hown2, -⟩ := Cond.laysFinal_spec hlay
    have e1 : c' = cf := by have := hi.symm.trans hf'; simp at this; exact this.1.symm
    rw [hdecl] at hown2
    rw [← e1]; exact Option.some.inj (X.1.2.2.2.1.symm.trans hown2)
  have h6 := u_fits hfc hkC hkind (Or.inr hlay) hi (K.2.2.1 f hf) hn hfit
  have hfn : f < nfX ci := by rw [← K.2.2.2.2]; exact hf
  refine W.putFinK X.1.1 X.1.2.1 X.1.2.2.2.1 (hts _ hl) hi hst hcf hin2 (by rw [q2]; exact h6) q1 q3 (by rw [hsl]; exact k2_hasslot (q4 f hfn)) rfl rfl hd fun H' e1 e2 e3 => ?_
  rw [hsl] at e1 ⊢
  refine k H' _ ls ⟨hO H H' hE1 e3, rq_put hRq hv (fun f' hf' z => X.2.1.2.2 _ _ _ _ _ ho ho (hT f' hf').1 (hT f' hf').2 z.symm) ⟨_, e1, q2, q3, ?_⟩ e3⟩ (by omega) (h2.put e2 e3 hA) h3
  exact t_set q4 (by rw [← K.2.2.2.2]; exact hap) hfn v
/-- the class of an array -/
theorem ac_i {ci o f n : Nat} (hK : va_K (gD G) classes (tyG G) s) (hk : fkX ci f = (1, n)) (hw : w o = z0) (cA : ClassId) (h : s.vm.findClass ("[" ++ (newarray.typeOf .int).toString) = some cA) : arrV cA n (fun _ => defaultValue (newarray.typeOf .int)) = acell G w o f (fkX ci f) := by
  have h0 : s.vm.findClass ("[" ++ (newarray.typeOf .int).toString) = some (gCa G 0) := (hK.2 0 _ rfl).2
  have e : cA = gCa G 0 := Option.some.inj (h.symm.trans h0)
  rw [hk, e]
  simp only [acell]
  rw [vp_cell_i, hw]
  rfl
theorem ac_l {ci o f n : Nat} (hK : va_K (gD G) classes (tyG G) s) (hk : fkX ci f = (2, n)) (hw : w o = z0) (cA : ClassId) (h : s.vm.findClass ("[" ++ (newarray.typeOf .long).toString) = some cA) : arrV cA n (fun _ => defaultValue (newarray.typeOf .long)) = acell G w o f (fkX ci f) := by
  have h0 : s.vm.findClass ("[" ++ (newarray.typeOf .long).toString) = some (gCa G 1) := (hK.2 1 _ rfl).2
  have e : cA = gCa G 1 := Option.some.inj (h.symm.trans h0)
  rw [hk, e]
  simp only [acell]
  rw [vp_cell_l, hw]
  rfl
theorem ac_c {ci o f n : Nat} (hK : va_K (gD G) classes (tyG G) s) (hk : fkX ci f = (3, n)) (hw : w o = z0) (cA : ClassId) (h : s.vm.findClass ("[" ++ (newarray.typeOf .char).toString) = some cA) : arrV cA n (fun _ => defaultValue (newarray.typeOf .char)) = acell G w o f (fkX ci f) := by
  have h0 : s.vm.findClass ("[" ++ (newarray.typeOf .char).toString) = some (gCa G 2) := (hK.2 2 _ rfl).2
  have e : cA = gCa G 2 := Option.some.inj (h.symm.trans h0)
  rw [hk, e]
  simp only [acell]
  rw [vp_cell_i, hw]
  rfl
/-- a new row of an object that is being made: made, and put into its field -/
theorem k_newa (X : Cx p s m args meth c cc nL ret own G) {ci o f N : Nat} {S Tt : List Nat} {atype : ArrayType} {z : Int} (hw : Cond.arrayClass (newarray.typeOf atype) ∈ gw) (hz0 : 0 ≤ z ∧ z ≤ 100000) (hN : z.toNat = N) (hcell : ∀ cA, s.vm.findClass ("[" ++ (newarray.typeOf atype).toString) = some cA → arrV cA N (fun _ => defaultValue (newarray.typeOf atype)) = acell G w o f (fkX ci f)) (hb : N * componentBytes (newarray.typeOf atype) ≤ 536870912) (hE : Ext E) (hadr : s.heap.size + kc = gAr G o f) (hR : kc + 1 ≤ R.cells ∧ kn + N ≤ R.slots) (hd : decode cc pc = .ok (.newarray atype, 2))
    (k : Kj p l e R s m args below meth c Q A nL (kc + 1) (kn + N) (pc + 2) lv (.ref (gAr G o f) :: st) (fun H => E H ∧ Rq G w o ci S (f :: Tt) H)) : Kj p l e R s m args below meth c Q A nL kc kn pc lv (.int (iI z) :: st) (fun H => E H ∧ Rq G w o ci S Tt H) := by
  intro H locs ls h1 hz h2 h3
  have hts := X.1.2.2.2.2.1
  refine va_newaK X.1.1 X.1.2.1 (hts _ hw) rfl hd rfl (by rw [← iI_zero, iI_lt ⟨by omega, by omega⟩ inR_zero]; omega) (by rw [iI_clamp hz0.1 (by omega)]; exact hN) hb hR.1 hR.2 (hz.trans hadr) fun H1 cA e1 z1 o1 hAr hNm => ?_
  refine k H1 locs ls ⟨hE H H1 h1.1 (fun q hq => o1 q (by omega)), ?_⟩ (by omega) ⟨by have := h2.1; omega, fun q a b => (o1 q (by have := h2.1; omega)).trans (h2.2.1 q a b), h2.2.2⟩ h3
  have hk := ext_rq H H1 h1.2 (fun q hq => o1 q (by omega))
  refine ⟨hk.1, fun f' hf' => ?_⟩
  rcases List.mem_cons.mp hf' with rfl | hf'
  · rw [e1, hcell cA hNm]
  · exact hk.2 f' hf'
/-- a field of an object that is being made is read -/
theorem k_getR {P : Heap → Prop} (X : Cx p s m args meth c cc nL ret own G) {ci N o idx : Nat} {C : String} {T : u_T} {ty : Nat → FieldType} {S Tt : List Nat} (K : CK ci C T N ty) (hP : ∀ H, P H → Rq G w o ci S Tt H) (f : Nat) (hf : f < N) (hl : Cond.fieldLink own idx (T f).1 (T f).2.1 (T f).2.2.1 ∈ gw) (hS : f ∈ S) {v : Value} (hv : fval G w o ci f = v) (hd : decode cc pc = .ok (.getfield idx, 3))
    (k : Kj p l e R s m args below meth c Q A nL kc kn (pc + 3) lv (v :: st) P) : Kj p l e R s m args below meth c Q A nL kc kn pc lv (.ref (gAd G o) :: st) P := by
  intro H locs ls h1 hz h2 h3
  obtain ⟨cell, q1, q2, q3, q4⟩ := (hP H h1).1
  obtain ⟨hSl, hfc, kC, hkC, hkind⟩ := X.2.2.1.1 ci _ K.1
  obtain ⟨cf, kf, fi, fd, hi, hsl⟩ := hSl f hf
  refine W.getf X.1.1 X.1.2.1 X.1.2.2.2.1 (X.1.2.2.2.2.1 _ hl) hi (u_facts hfc hkC (u_lays X.1.2.2.2.2.1 K.2.1 hf) hi).1 q1 (by rw [q3]; exact fun h => by cases h) (v := v) ?_ rfl rfl hd (k H locs ls h1 hz h2 h3)
  rw [hsl, q4 f (by rw [← K.2.2.2.2]; exact hf)]
  show some (if f ∈ S then fval G w o ci f else nuV ci f) = some v
  rw [if_pos hS, hv]
/-- a field of an object that stands is read -/
theorem k_getO {G1 : Ly} {P : Heap → Prop} (X : Cx p s m args meth c cc nL ret own G1) {ci N o idx : Nat} {C : String} {T : u_T} {ty : Nat → FieldType} (K : CK ci C T N ty) (ho : gOb G1 o = some ci) (hP : ∀ H, P H → Hold G1 w H) (f : Nat) (hf : f < N) (hl : Cond.fieldLink own idx (T f).1 (T f).2.1 (T f).2.2.1 ∈ gw) {v : Value} (hv : fval G1 w o ci f = v) (hd : decode cc pc = .ok (.getfield idx, 3))
    (k : Kj p l e R s m args below meth c Q A nL kc kn (pc + 3) lv (v :: st) P) : Kj p l e R s m args below meth c Q A nL kc kn pc lv (.ref (gAd G1 o) :: st) P := by
  intro H locs ls h1 hz h2 h3
  obtain ⟨⟨cell, q1, q2, q3, q4⟩, -⟩ := hP H h1 o ci ho
  obtain ⟨hSl, hfc, kC, hkC, hkind⟩ := X.2.2.1.1 ci _ K.1
  obtain ⟨cf, kf, fi, fd, hi, hsl⟩ := hSl f hf
  refine W.getf X.1.1 X.1.2.1 X.1.2.2.2.1 (X.1.2.2.2.2.1 _ hl) hi (u_facts hfc hkC (u_lays X.1.2.2.2.2.1 K.2.1 hf) hi).1 q1 (by rw [q3]; exact fun h => by cases h) (v := v) ?_ rfl rfl hd (k H locs ls h1 hz h2 h3)
  rw [hsl, q4 f (by rw [← K.2.2.2.2]; exact hf), hv]
/-- a method is called on an object that stands, in its part of the layout -/
theorem runVK {G1 : Ly} (X : Cb p s m args meth c cc nL ret own) (hSx : Sx G1 s s.heap) (hAG : ∀ q, q < s.heap.size → A q → gA G1 q) {y : MethodName} {b : ByteArray} {n rf rl np idx o ci : Nat} {rt : Option FieldType} {C : String} {T : u_T} {N : Nat} {ty : Nat → FieldType} {As stk : List Value} {Qc : Array Value → State → Outcome → State → Prop} {H : Heap} {locs : List Loc} {ls : Array Slot}
    (hM : Met l y (.code y b n rt :: gw) (rmX rf rl) (va_Pc (.ref (gAd G1 o) :: As) (AtW G1 w)) Qc 0 0 (gA G1)) (hc : CM y b n rt np) (hi : Cond.instanceMethod y ∈ gw) (hse : Cond.selects C y y ∈ gw) (hl : Cond.methodLink own idx y ∈ gw) (K : CK ci C T N ty) (ho : gOb G1 o = some ci) (hR : rf + 1 ≤ R.frames ∧ 8 + (n + 11) + rl ≤ R.locals) (hRc : kc ≤ R.cells ∧ kn ≤ R.slots)
    (hn : As.length = np) (hst : stk = As.reverse ++ .ref (gAd G1 o) :: st) (hcat : (st.map fun v => v.category).sum ≤ 8) (hd : decode cc pc = .ok (.invokevirtual idx, 3)) (h1 : Hold G1 w H) (h2 : va_S A s.heap H locs) (h3 : lv_has ls nL lv) :
    va_Run p l e R s m args below meth c H locs kc kn 0 0 (F0 m pc ls stk) st (Qc (Value.ref (gAd G1 o) :: As).toArray) (gA G1) := by
  have ht := X.2.2.2.2.1
  refine va_runV (Ts := gw) ⟨X.1, X.2.1, X.2.2.1, X.2.2.2.1, ht⟩ hM ⟨callB_of np ht (giY hc.1) rfl rfl rfl (ht _ hc.2.1) (ht _ hl) hc.2.2 hR, ht _ hi, ht _ hse⟩ ⟨blindW, ?_, fun U hU hW => ⟨rfl, by rw [hU]; exact h1, hSx.goA hAG h2 hU hW⟩⟩ rfl hn h3.1 hst (lv_room hcat) hd hRc
  obtain ⟨⟨cell, q1, q2, q3, -⟩, -⟩ := h1 o ci ho
  obtain ⟨-, hfc, -⟩ := hSx.2.1.1 ci _ K.1
  exact ⟨cell, q1, by rw [q3]; rfl, by rw [q2]; exact hfc⟩
/-- what a call within G1 leaves of the rest -/
def Pc1 (G1 : Ly) (P : Heap → Prop) : Heap → Prop := fun H1 => ∃ H : Heap, P H ∧ H.size = H1.size ∧ ∀ q, q < H.size → ¬ gA G1 q → H1[q]? = H[q]?
theorem k_mv {G1 : Ly} {P : Heap → Prop} (X : Cb p s m args meth c cc nL ret own) (hSx : Sx G1 s s.heap) (hAG : ∀ q, q < s.heap.size → A q → gA G1 q) (hA : ∀ q, gA G1 q → A q) {y : MethodName} {b : ByteArray} {n rf rl np idx o ci : Nat} {C : String} {T : u_T} {N : Nat} {ty : Nat → FieldType} {As stk : List Value} {post : Wd → Prop} (hM : Mv l y b n none rf rl G1 (.ref (gAd G1 o) :: As) w post) (hc : CM y b n none np) (hi : Cond.instanceMethod y ∈ gw) (hse : Cond.selects C y y ∈ gw) (hl : Cond.methodLink own idx y ∈ gw) (K : CK ci C T N ty) (ho : gOb G1 o = some ci) (hR : rf + 1 ≤ R.frames ∧ 8 + (n + 11) + rl ≤ R.locals) (hRc : kc ≤ R.cells ∧ kn ≤ R.slots) (hn : As.length = np) (hst : stk = As.reverse ++ .ref (gAd G1 o) :: st) (hcat : (st.map fun v => v.category).sum ≤ 8) (hd : decode cc pc = .ok (.invokevirtual idx, 3)) (hP : ∀ H, P H → Hold G1 w H)
    (k : ∀ w' : Wd, post w' → Kj p l e R s m args below meth c Q A nL kc kn (pc + 3) lv st (fun H1 => Hold G1 w' H1 ∧ Pc1 G1 P H1)) : Kj p l e R s m args below meth c Q A nL kc kn pc lv stk P :=
  k_callv (mc := 0) (ms := 0) (fun H locs ls h1 hz h2 h3 => runVK X hSx hAG hM hc hi hse hl K ho hR hRc hn hst hcat hd (hP H h1) h2 h3) hA (fun u t _ _ h => h) (fun w' hp => k_wk (fun H1 hz1 ⟨t, H, a1, a2, a3, a4, a5⟩ => ⟨by rw [← a1]; exact a2, H, a3, by omega, a5⟩) (k w' hp))
theorem k_mi {G1 : Ly} {P : Heap → Prop} (X : Cb p s m args meth c cc nL ret own) (hSx : Sx G1 s s.heap) (hAG : ∀ q, q < s.heap.size → A q → gA G1 q) (hA : ∀ q, gA G1 q → A q) {y : MethodName} {b : ByteArray} {n rf rl np idx o ci : Nat} {rt : Option FieldType} {C : String} {T : u_T} {N : Nat} {ty : Nat → FieldType} {As stk : List Value} {post : Int → Wd → Prop} (hM : Mi l y b n rt rf rl G1 (.ref (gAd G1 o) :: As) w post) (hc : CM y b n rt np) (hi : Cond.instanceMethod y ∈ gw) (hse : Cond.selects C y y ∈ gw) (hl : Cond.methodLink own idx y ∈ gw) (K : CK ci C T N ty) (ho : gOb G1 o = some ci) (hR : rf + 1 ≤ R.frames ∧ 8 + (n + 11) + rl ≤ R.locals) (hRc : kc ≤ R.cells ∧ kn ≤ R.slots) (hn : As.length = np) (hst : stk = As.reverse ++ .ref (gAd G1 o) :: st) (hcat : (st.map fun v => v.category).sum ≤ 8) (hd : decode cc pc = .ok (.invokevirtual idx, 3)) (hP : ∀ H, P H → Hold G1 w H)
    (k : ∀ (z : Int) (w' : Wd), post z w' → Kj p l e R s m args below meth c Q A nL kc kn (pc + 3) lv (.int (iI z) :: st) (fun H1 => Hold G1 w' H1 ∧ Pc1 G1 P H1)) : Kj p l e R s m args below meth c Q A nL kc kn pc lv stk P :=
  k_calli (fun H locs ls h1 hz h2 h3 => runVK X hSx hAG hM hc hi hse hl K ho hR hRc hn hst hcat hd (hP H h1) h2 h3) hA (fun r w' hp => by
    obtain ⟨z, rfl, hp⟩ := hp
    exact k_wk (fun H1 hz1 ⟨t, H, a1, a2, a3, a4, a5⟩ => ⟨by rw [← a1]; exact a2, H, a3, by omega, a5⟩) (k z w' hp))
end KB
/-! constructors: what they ask, what they leave -/
def wz : Wd := fun _ => z0
abbrev rmC (f n c s : Nat) : Room := { frames := f, cells := c, slots := s, locals := n }
def Cs (G : Ly) (o ci : Nat) (F : State → Prop) : State → Prop := fun U => (Sx G U U.heap ∧ F U) ∧ Rq G wz o ci [] [] U.heap ∧ U.heap.size = gAd G o + 1
abbrev Aq (G : Ly) (o : Nat) : Nat → Prop := fun q => gAd G o ≤ q
def Ci (l : Launch) (y : MethodName) (b : ByteArray) (n rf rl mc ms : Nat) (G : Ly) (o ci : Nat) (As : List Value) (F : State → Prop) (B : Nat → Bool) (post : Wd → Prop) : Prop :=
  Met l y (.code y b n none :: gw) (rmC rf rl mc ms) (va_Pc (.ref (gAd G o) :: As) (Cs G o ci F)) (va_Qv post (fun w' t => Hold (gR G B) w' t.heap ∧ t.heap.size = gAd G o + 1 + mc) (Aq G o)) mc ms (Aq G o)
theorem ci_of {l : Launch} {y : MethodName} {b : ByteArray} {n rf rl mc ms : Nat} {G : Ly} {o ci : Nat} {As : List Value} {F : State → Prop} {B : Nat → Bool} {post : Wd → Prop} {lv : List (Nat × Value)} (hy : plainName y.cls = true) (hyn : y.name = "<init>") (hn : (lg_sl (Value.ref (gAd G o) :: As)).length ≤ n) (hl : lv_args 0 (Value.ref (gAd G o) :: As) = lv)
    (h : ∀ p e s m below meth c, Cx p s m (Value.ref (gAd G o) :: As).toArray meth c b n none y.cls G → F s → meth.name = "<init>" → s.heap.size = gAd G o + 1 → Kj p l e (rmC rf rl mc ms) s m (Value.ref (gAd G o) :: As).toArray below meth c (MQ below (va_Qv post (fun w' t => Hold (gR G B) w' t.heap ∧ t.heap.size = gAd G o + 1 + mc) (Aq G o)) (Value.ref (gAd G o) :: As).toArray s mc ms (Aq G o)) (Aq G o) n 0 0 0 lv [] (fun H => True ∧ Rq G wz o ci [] [] H)) : Ci l y b n rf rl mc ms G o ci As F B post := by
  refine Met.ofW (cc := b) (maxL := n) (ret := none) hy rfl ?_
  intro p e s m args below meth c s₁ Bd hml hv
  obtain ⟨rfl, ⟨hS, hF⟩, hR, hz⟩ := hv
  rw [lg_entry_eq]
  refine h p e s m below meth c ⟨⟨Bd.exec, Bd.bytes, hml, findClass_of_methodNamed Bd.named, fun w hw => atoms_spec (ws := .code y b n none :: gw) Bd.pre w (List.mem_cons_of_mem _ hw), Bd.notSynchronized, Bd.returns⟩, hS⟩ hF ?_ hz s.heap [] _ ⟨trivial, hR⟩ rfl va_S.rf (hl ▸ lv_entry _ hn)
  rw [← hyn]
  exact (name_of_methodNamed Bd.named Bd.method).1
theorem cs_blind {G : Ly} {o ci : Nat} {F : State → Prop} {av : List Value} (hF : ∀ (U : State) (g : JFrame) (mk : MethodId) (a : Array Value), F U → F (U.calling g mk a)) : FrameBlind (va_Pc av (Cs G o ci F)) := fun a U g mk h => ⟨h.1, ⟨h.2.1.1.call, hF U g mk a h.2.1.2⟩, h.2.2⟩
section KC
variable {p : Program} {l : Launch} {e : Env} {R : Room} {s : State} {m : MethodId} {args : Array Value} {below : List Frame} {meth : Method} {c : Code} {Q : State → Prop} {cc : ByteArray} {nL : Nat} {ret : Option FieldType} {own : String} {G : Ly} {w : Wd} {A : Nat → Prop} {pc kc kn : Nat} {lv : List (Nat × Value)} {st : List Value}
/-- a constructor is called on the object that was made last -/
theorem k_init {P : Heap → Prop} (X : Cx p s m args meth c cc nL ret own G) (hAG : ∀ q, q < s.heap.size → A q → gA G q) {y : MethodName} {b : ByteArray} {n rf rl mc ms np idx o ci : Nat} {As stk : List Value} {F : State → Prop} {B : Nat → Bool} {post : Wd → Prop} (hM : Ci l y b n rf rl mc ms G o ci As F B post) (hF1 : ∀ (U : State) (g : JFrame) (mk : MethodId) (a : Array Value), F U → F (U.calling g mk a)) (hF2 : ∀ (H : Heap) (locs : List Loc) (U : State), va_S A s.heap H locs → U.heap = H → s.WarmedH U.vm → F U)
    (hc : CM y b n none np) (hi : Cond.instanceMethod y ∈ gw) (hyn : y.name = "<init>") (hl : Cond.methodLink own idx y ∈ gw) (hA : ∀ q, gAd G o ≤ q → A q) (hadr : s.heap.size + kc = gAd G o + 1) (hR : rf + 1 ≤ R.frames ∧ 8 + (n + 11) + rl ≤ R.locals) (hRc : kc + mc ≤ R.cells ∧ kn + ms ≤ R.slots) (hn : As.length = np) (hst : stk = As.reverse ++ .ref (gAd G o) :: st) (hcat : (st.map fun v => v.category).sum ≤ 8) (hd : decode cc pc = .ok (.invokespecial idx, 3))
    (k : ∀ w' : Wd, post w' → Kj p l e R s m args below meth c Q A nL (kc + mc) (kn + ms) (pc + 3) lv st (fun H => Pa (gAd G o) P H ∧ Hold (gR G B) w' H)) : Kj p l e R s m args below meth c Q A nL kc kn pc lv stk (fun H => Pa (gAd G o) P H ∧ Rq G wz o ci [] [] H) := by
  have ht := X.1.2.2.2.2.1
  refine k_callv (mc := mc) (ms := ms) (A1 := Aq G o) (fun H locs ls h1 hz h2 h3 => va_runI (Ts := gw) ⟨X.1.1, X.1.2.1, X.1.2.2.1, X.1.2.2.2.1, ht⟩ hM ⟨callB_of np ht (giY hc.1) rfl rfl rfl (ht _ hc.2.1) (ht _ hl) hc.2.2 hR, hyn, ht _ hi⟩ ⟨cs_blind hF1, fun U hU hW => ⟨rfl, ⟨X.2.goA hAG h2 hU hW, hF2 H locs U h2 hU hW⟩, by rw [hU]; exact h1.2, by rw [hU]; omega⟩⟩ rfl hn h3.1 hst (lv_room hcat) hd hRc) hA (fun w' t _ hB _ => by have := hB.2; omega) (fun w' hp => k_wk (fun H1 hz1 ⟨t, H, a1, a2, a3, a4, a5⟩ => ⟨pa_kept a3.1 (fun q hq => a5 q (by omega) (by show ¬ gAd G o ≤ q; omega)), by rw [← a1]; exact a2.1⟩) (k w' hp))
theorem k_initN {P : Heap → Prop} (X : Cx p s m args meth c cc nL ret own G) (hAG : ∀ q, q < s.heap.size → A q → gA G q) {y : MethodName} {b : ByteArray} {n rf rl mc ms np idx o ci : Nat} {As stk : List Value} {F : State → Prop} {B : Nat → Bool} {post : Wd → Prop} (hM : Ci l y b n rf rl mc ms G o ci As F B post) (hF1 : ∀ (U : State) (g : JFrame) (mk : MethodId) (a : Array Value), F U → F (U.calling g mk a)) (hF2 : ∀ (H : Heap) (locs : List Loc) (U : State), va_S A s.heap H locs → U.heap = H → s.WarmedH U.vm → F U)
    (hc : CM y b n none np) (hi : Cond.instanceMethod y ∈ gw) (hyn : y.name = "<init>") (hl : Cond.methodLinkNest own idx y "ColdHouse" ∈ nw) (hA : ∀ q, gAd G o ≤ q → A q) (hadr : s.heap.size + kc = gAd G o + 1) (hR : rf + 1 ≤ R.frames ∧ 8 + (n + 11) + rl ≤ R.locals) (hRc : kc + mc ≤ R.cells ∧ kn + ms ≤ R.slots) (hn : As.length = np) (hst : stk = As.reverse ++ .ref (gAd G o) :: st) (hcat : (st.map fun v => v.category).sum ≤ 8) (hd : decode cc pc = .ok (.invokespecial idx, 3))
    (k : ∀ w' : Wd, post w' → Kj p l e R s m args below meth c Q A nL (kc + mc) (kn + ms) (pc + 3) lv st (fun H => Pa (gAd G o) P H ∧ Hold (gR G B) w' H)) : Kj p l e R s m args below meth c Q A nL kc kn pc lv stk (fun H => Pa (gAd G o) P H ∧ Rq G wz o ci [] [] H) := by
  have ht := X.1.2.2.2.2.1
  refine k_callv (mc := mc) (ms := ms) (A1 := Aq G o) (fun H locs ls h1 hz h2 h3 => va_runIN (Ts := gw) ⟨X.1.1, X.1.2.1, X.1.2.2.1, X.1.2.2.2.1, ht⟩ hM ⟨va_cnB np ht (giY hc.1) rfl rfl rfl (X.2.2.2.1 _ hl) (ht _ hc.2.1) hc.2.2 hR, hyn, ht _ hi⟩ ⟨cs_blind hF1, fun U hU hW => ⟨rfl, ⟨X.2.goA hAG h2 hU hW, hF2 H locs U h2 hU hW⟩, by rw [hU]; exact h1.2, by rw [hU]; omega⟩⟩ rfl hn h3.1 hst (lv_room hcat) hd hRc) hA (fun w' t _ hB _ => by have := hB.2; omega) (fun w' hp => k_wk (fun H1 hz1 ⟨t, H, a1, a2, a3, a4, a5⟩ => ⟨pa_kept a3.1 (fun q hq => a5 q (by omega) (by show ¬ gAd G o ≤ q; omega)), by rw [← a1]; exact a2.1⟩) (k w' hp))
end KC
/-- two parts of a layout side by side -/
def mixW (B : Nat → Bool) (w' w : Wd) : Wd := fun o => if B o then w' o else w o
def orB (B B' : Nat → Bool) : Nat → Bool := fun o => B' o || B o
theorem hold_mix {G : Ly} {B B' : Nat → Bool} {w w' : Wd} {H : Heap} (h : Hold (gR G B) w H) (h' : Hold (gR G B') w' H) : Hold (gR G (orB B B')) (mixW B' w' w) H := by
  rw [hold_R] at h h' ⊢
  intro o c ho hc
  by_cases e : B' o = true
  · exact (h' o c e hc).world (by unfold mixW; rw [if_pos e])
  · have hb : B o = true := by
      unfold orB at ho
      cases hq : B' o
      · rw [hq] at ho; simpa using ho
      · exact absurd hq e
    exact (h o c hb hc).world (by unfold mixW; rw [if_neg e])
/-- a part with the object that was made -/
theorem hold_one {G : Ly} {o c : Nat} {w : Wd} {H : Heap} (ho : gOb G o = some c) (h : Oq G w o c H) : Hold (gR G (fun q => q == o)) w H := by
  rw [hold_R]
  intro o' c' e hc
  have e : o' = o := by simpa using e
  subst e
  cases ho.symm.trans hc
  exact h
theorem not_gA {G : Ly} (hA : Ap G) {B : Nat → Bool} {o c : Nat} (ho : gOb G o = some c) (hB : B o = false) : ¬ gA (gR G B) (gAd G o) := by
  rintro ⟨o', c', h1, h2⟩
  obtain ⟨b1, b2⟩ := gR_ob h1
  rcases h2 with h2 | ⟨f, f1, f2, h2⟩
  · have e := hA.1 _ _ _ _ ho b2 h2
    subst e
    rw [hB] at b1
    exact absurd b1 (by decide)
  · exact hA.2.2 _ _ _ _ _ ho b2 f1 f2 h2
