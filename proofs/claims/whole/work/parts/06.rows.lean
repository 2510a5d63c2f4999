/-! THE WALK: what holds at a method's entry, the judgement, a row an instruction -/
abbrev tyG (G : Ly) : List (ClassId × FieldType) := [(gCa G 0, .int), (gCa G 1, .long), (gCa G 2, .char), (gCa G 3, .object "ColdHouse$State")]
/-- the static arrays: name, length, values -/
def snX (k : Nat) : String := match k with
  | 0 => "TOLD_LEAST" | 1 => "TOLD_MOST" | 2 => "TOLD_FIRST" | 3 => "MACHINE_LEAST" | 4 => "MACHINE_MOST" | 5 => "RUN_LEAST" | 6 => "RUN_MOST" | 7 => "STAGE_LEAST" | _ => "STAGE_MOST"
def slX (k : Nat) : List Int := match k with
  | 0 => [0, 0, 0, 4] | 1 => [480, 240, 45, 14] | 2 => [0, 0, 25, 7] | 3 => [1, 1, 0, 0, 0, 1] | 4 => [40, 80, 99, 99, 99, 40] | 5 => [0, 0, 1, 0] | 6 => [30, 30, 9, 9] | 7 => [50, 1, 0] | _ => [99, 99, 9]
def Stt (G : Ly) (U : State) (H : Heap) : Prop := ∀ k, k < 9 → va_Z "ColdHouse" (snX k) "[I" (.ref (gSa G k)) (gA G) U H ∧ va_T .int (gSa G k) (slX k).length (fun j => .int (iI ((slX k).getD j 0))) (gA G) U H
/-- what is known of classes, links and statics -/
def Sx (G : Ly) (U : State) (H : Heap) : Prop := Ap G ∧ va_K (gD G) classes (tyG G) U ∧ (∀ w ∈ nw, va_Nw w U) ∧ Stt G U H
theorem nw_warm {s U : State} (hW : s.WarmedH U.vm) {w : Cond} (hw : w ∈ nw) (h : va_Nw w s) : va_Nw w U := by
  have h1 := (List.mem_filter.mp hw).2
  cases w <;> first | exact va_Nw.warmF hW h | exact va_Nw.warmM hW h | (simp [isNest] at h1)
theorem Sx.go {G : Ly} {s U : State} {H : Heap} {locs : List Loc} (h : Sx G s s.heap) (hS : va_S (gA G) s.heap H locs) (hU : U.heap = H) (hW : s.WarmedH U.vm) : Sx G U U.heap := by
  obtain ⟨h1, h2, h3, h4⟩ := h
  refine ⟨h1, va_K.moved hW.alike h2, fun w hw => nw_warm hW hw (h3 w hw), fun k hk => ?_⟩
  obtain ⟨a, b⟩ := h4 k hk
  rw [hU]
  exact ⟨va_Z.moved hW.alike (a.kept fun q q1 q2 => hS.2.1 q q1 q2), va_T.moved hW.alike (b.kept fun q q1 q2 => hS.2.1 q q1 q2)⟩
theorem Sx.call {G : Ly} {U : State} {g : JFrame} {mk : MethodId} {a : Array Value} (h : Sx G U U.heap) : Sx G (U.calling g mk a) (U.calling g mk a).heap := by
  obtain ⟨h1, h2, h3, h4⟩ := h
  refine ⟨h1, va_K.moved (u := U) (U := U.calling g mk a) (Vm.Alike.refl U.vm) h2, fun w hw => ?_, fun k hk => ?_⟩
  · have h1 := (List.mem_filter.mp hw).2
    have h2 := h3 w hw
    refine va_Nw.same ?_ (u := U) rfl h2
    cases w <;> first | rfl | (simp [isNest] at h1)
  · obtain ⟨a1, b1⟩ := h4 k hk
    exact ⟨va_Z.moved (u := U) (U := U.calling g mk a) (Vm.Alike.refl U.vm) a1, va_T.moved (u := U) (U := U.calling g mk a) (Vm.Alike.refl U.vm) b1⟩
/-- the world at a state -/
def AtW (G : Ly) (w : Wd) (U : State) : Prop := Hold G w U.heap ∧ Sx G U U.heap
/-- contracts: an int, nothing, a long -/
abbrev rmX (f n : Nat) : Room := { frames := f, cells := 0, slots := 0, locals := n }
def Mi (l : Launch) (y : MethodName) (b : ByteArray) (n : Nat) (ret : Option FieldType) (rf rl : Nat) (G : Ly) (av : List Value) (w : Wd) (post : Int → Wd → Prop) : Prop :=
  Met l y (.code y b n ret :: gw) (rmX rf rl) (va_Pc av (AtW G w)) (va_Qi (fun (r : Int32) (w' : Wd) => ∃ z, r = iI z ∧ post z w') (fun w' t => Hold G w' t.heap) (gA G)) 0 0 (gA G)
def Mv (l : Launch) (y : MethodName) (b : ByteArray) (n : Nat) (ret : Option FieldType) (rf rl : Nat) (G : Ly) (av : List Value) (w : Wd) (post : Wd → Prop) : Prop :=
  Met l y (.code y b n ret :: gw) (rmX rf rl) (va_Pc av (AtW G w)) (va_Qv (fun (w' : Wd) => post w') (fun w' t => Hold G w' t.heap) (gA G)) 0 0 (gA G)
def Ml (l : Launch) (y : MethodName) (b : ByteArray) (n : Nat) (ret : Option FieldType) (rf rl : Nat) (G : Ly) (av : List Value) (w : Wd) (post : Int → Wd → Prop) : Prop :=
  Met l y (.code y b n ret :: gw) (rmX rf rl) (va_Pc av (AtW G w)) (va_Ql (fun (r : Int64) (w' : Wd) => ∃ z, r = lI z ∧ post z w') (fun w' t => Hold G w' t.heap) (gA G)) 0 0 (gA G)
/-- the context of a walk -/
def Cx (p : Program) (s : State) (m : MethodId) (args : Array Value) (meth : Method) (c : Code) (cc : ByteArray) (nL : Nat) (ret : Option FieldType) (own : String) (G : Ly) : Prop :=
  (p.tables.exec = Jvm.exec ∧ c.code = cc ∧ c.maxLocals = nL ∧ s.vm.findClass own = some m.cls ∧ (∀ w ∈ gw, w.before args s = true) ∧ meth.locks = false ∧ meth.sig.returnType = ret) ∧ Sx G s s.heap
/-- the judgement: from here, with these locals, this stack, this world, the method comes to Q -/
def Gj (p : Program) (l : Launch) (e : Env) (R : Room) (s : State) (m : MethodId) (args : Array Value) (below : List Frame) (meth : Method) (c : Code) (Q : State → Prop) (G : Ly) (nL : Nat) (pc : Nat) (lv : List (Nat × Value)) (st : List Value) (w : Wd) : Prop :=
  ∀ (H : Heap) (locs : List Loc) (ls : Array Slot), Hold G w H → va_S (gA G) s.heap H locs → lv_has ls nL lv → W p l e R s m args below meth c H locs 0 0 Q (F0 m pc ls st)
abbrev Qi (below : List Frame) (args : Array Value) (s : State) (G : Ly) (post : Int → Wd → Prop) : State → Prop := MQ below (va_Qi (fun (r : Int32) (w' : Wd) => ∃ z, r = iI z ∧ post z w') (fun w' t => Hold G w' t.heap) (gA G)) args s 0 0 (gA G)
abbrev Qv (below : List Frame) (args : Array Value) (s : State) (G : Ly) (post : Wd → Prop) : State → Prop := MQ below (va_Qv (fun (w' : Wd) => post w') (fun w' t => Hold G w' t.heap) (gA G)) args s 0 0 (gA G)
abbrev Ql (below : List Frame) (args : Array Value) (s : State) (G : Ly) (post : Int → Wd → Prop) : State → Prop := MQ below (va_Ql (fun (r : Int64) (w' : Wd) => ∃ z, r = lI z ∧ post z w') (fun w' t => Hold G w' t.heap) (gA G)) args s 0 0 (gA G)
theorem Cx.of {p : Program} {l : Launch} {y : MethodName} {b : ByteArray} {n : Nat} {ret : Option FieldType} {rm : Room} {e : Env} {s : State} {m : MethodId} {args : Array Value} {below : List Frame} {meth : Method} {c : Code} {s₁ : State} {G : Ly}
    (B : BodyLoose p l y (headSpec (.code y b n ret :: gw) rm) b n ret e s m args below meth c s₁) (hml : c.maxLocals = n) (hS : Sx G s s.heap) : Cx p s m args meth c b n ret y.cls G :=
  ⟨⟨B.exec, B.bytes, hml, findClass_of_methodNamed B.named, fun w hw => atoms_spec (ws := .code y b n ret :: gw) B.pre w (List.mem_cons_of_mem _ hw), B.notSynchronized, B.returns⟩, hS⟩
section MK
variable {l : Launch} {y : MethodName} {b : ByteArray} {n rf rl : Nat} {ret : Option FieldType} {G : Ly} {av : List Value} {w : Wd} {lv : List (Nat × Value)}
theorem mi_of {post : Int → Wd → Prop} (hy : plainName y.cls = true) (hn : (lg_sl av).length ≤ n) (hl : lv_args 0 av = lv)
    (h : ∀ p e s m below meth c, Cx p s m av.toArray meth c b n ret y.cls G → Gj p l e (rmX rf rl) s m av.toArray below meth c (Qi below av.toArray s G post) G n 0 lv [] w) : Mi l y b n ret rf rl G av w post := by
  refine Met.ofW (cc := b) (maxL := n) (ret := ret) hy rfl ?_
  intro p e s m args below meth c s₁ B hml hv
  obtain ⟨rfl, hH, hS⟩ := hv
  rw [lg_entry_eq]
  exact h p e s m below meth c (Cx.of B hml hS) s.heap [] _ hH va_S.rf (hl ▸ lv_entry av hn)
theorem mv_of {post : Wd → Prop} (hy : plainName y.cls = true) (hn : (lg_sl av).length ≤ n) (hl : lv_args 0 av = lv)
    (h : ∀ p e s m below meth c, Cx p s m av.toArray meth c b n ret y.cls G → Gj p l e (rmX rf rl) s m av.toArray below meth c (Qv below av.toArray s G post) G n 0 lv [] w) : Mv l y b n ret rf rl G av w post := by
  refine Met.ofW (cc := b) (maxL := n) (ret := ret) hy rfl ?_
  intro p e s m args below meth c s₁ B hml hv
  obtain ⟨rfl, hH, hS⟩ := hv
  rw [lg_entry_eq]
  exact h p e s m below meth c (Cx.of B hml hS) s.heap [] _ hH va_S.rf (hl ▸ lv_entry av hn)
theorem ml_of {post : Int → Wd → Prop} (hy : plainName y.cls = true) (hn : (lg_sl av).length ≤ n) (hl : lv_args 0 av = lv)
    (h : ∀ p e s m below meth c, Cx p s m av.toArray meth c b n ret y.cls G → Gj p l e (rmX rf rl) s m av.toArray below meth c (Ql below av.toArray s G post) G n 0 lv [] w) : Ml l y b n ret rf rl G av w post := by
  refine Met.ofW (cc := b) (maxL := n) (ret := ret) hy rfl ?_
  intro p e s m args below meth c s₁ B hml hv
  obtain ⟨rfl, hH, hS⟩ := hv
  rw [lg_entry_eq]
  exact h p e s m below meth c (Cx.of B hml hS) s.heap [] _ hH va_S.rf (hl ▸ lv_entry av hn)
end MK
section RW
variable {p : Program} {l : Launch} {e : Env} {R : Room} {s : State} {m : MethodId} {args : Array Value} {below : List Frame} {meth : Method} {c : Code} {Q : State → Prop} {cc : ByteArray} {nL : Nat} {ret : Option FieldType} {own : String} {G : Ly} {pc : Nat} {lv lv' : List (Nat × Value)} {st : List Value} {w : Wd}
theorem g_iconst (X : Cx p s m args meth c cc nL ret own G) {n : Int} (hd : decode cc pc = .ok (.iconst n, 1)) (k : Gj p l e R s m args below meth c Q G nL (pc + 1) lv (.int (iI n) :: st) w) : Gj p l e R s m args below meth c Q G nL pc lv st w :=
  fun H locs ls a b d => lv_iconst X.1.1 X.1.2.1 hd rfl (k H locs ls a b d)
theorem g_bipush (X : Cx p s m args meth c cc nL ret own G) {n : Int} (hd : decode cc pc = .ok (.bipush n, 2)) (hv : (Int8.ofInt n).toInt32 = iI n) (k : Gj p l e R s m args below meth c Q G nL (pc + 2) lv (.int (iI n) :: st) w) : Gj p l e R s m args below meth c Q G nL pc lv st w :=
  fun H locs ls a b d => lv_bipush X.1.1 X.1.2.1 hd hv (k H locs ls a b d)
theorem g_sipush (X : Cx p s m args meth c cc nL ret own G) {n : Int} (hd : decode cc pc = .ok (.sipush n, 3)) (hv : (Int16.ofInt n).toInt32 = iI n) (k : Gj p l e R s m args below meth c Q G nL (pc + 3) lv (.int (iI n) :: st) w) : Gj p l e R s m args below meth c Q G nL pc lv st w :=
  fun H locs ls a b d => lv_sipush X.1.1 X.1.2.1 hd hv (k H locs ls a b d)
theorem g_ldc (X : Cx p s m args meth c cc nL ret own G) {i : Nat} {v : Int32} {n : Int} (hc : Cond.constant own i v ∈ gw) (hv : v = iI n) (hd : decode cc pc = .ok (.ldc i, 2)) (k : Gj p l e R s m args below meth c Q G nL (pc + 2) lv (.int (iI n) :: st) w) : Gj p l e R s m args below meth c Q G nL pc lv st w :=
  fun H locs ls a b d => lv_ldc X.1.1 X.1.2.1 X.1.2.2.2.1 (X.1.2.2.2.2.1 _ hc) hd (hv ▸ k H locs ls a b d)
theorem g_ldcw (X : Cx p s m args meth c cc nL ret own G) {i : Nat} {v : Int32} {n : Int} (hc : Cond.constant own i v ∈ gw) (hv : v = iI n) (hd : decode cc pc = .ok (.ldc_w i, 3)) (k : Gj p l e R s m args below meth c Q G nL (pc + 3) lv (.int (iI n) :: st) w) : Gj p l e R s m args below meth c Q G nL pc lv st w :=
  fun H locs ls a b d => lv_ldcw X.1.1 X.1.2.1 X.1.2.2.2.1 (X.1.2.2.2.2.1 _ hc) hd (hv ▸ k H locs ls a b d)
theorem g_ldc2 (X : Cx p s m args meth c cc nL ret own G) {i : Nat} {v : Int64} {n : Int} (hc : Cond.constantLong own i v ∈ gw) (hv : v = lI n) (hd : decode cc pc = .ok (.ldc2_w i, 3)) (k : Gj p l e R s m args below meth c Q G nL (pc + 3) lv (.long (lI n) :: st) w) : Gj p l e R s m args below meth c Q G nL pc lv st w :=
  fun H locs ls a b d => lv_ldc2 X.1.1 X.1.2.1 X.1.2.2.2.1 (X.1.2.2.2.2.1 _ hc) hd (hv ▸ k H locs ls a b d)
theorem g_lconst (X : Cx p s m args meth c cc nL ret own G) {n : Fin 2} {z : Int} (hd : decode cc pc = .ok (.lconst n, 1)) (hv : Int64.ofNat (n : Nat) = lI z) (k : Gj p l e R s m args below meth c Q G nL (pc + 1) lv (.long (lI z) :: st) w) : Gj p l e R s m args below meth c Q G nL pc lv st w :=
  fun H locs ls a b d => lv_lconst X.1.1 X.1.2.1 hd hv (k H locs ls a b d)
theorem g_iload_n (X : Cx p s m args meth c cc nL ret own G) {k : Fin 4} {i : Nat} {x : Int32} (hd : decode cc pc = .ok (.iload_n k, 1)) (hi : (k : Nat) = i) (j : Nat) (hj : lv[j]? = some (i, .int x)) (kk : Gj p l e R s m args below meth c Q G nL (pc + 1) lv (.int x :: st) w) : Gj p l e R s m args below meth c Q G nL pc lv st w :=
  fun H locs ls a b d => lv_iload_n X.1.1 X.1.2.1 hd hi (lv_at d j hj) (kk H locs ls a b d)
theorem g_iload (X : Cx p s m args meth c cc nL ret own G) {i : Nat} {x : Int32} (hd : decode cc pc = .ok (.iload i, 2)) (j : Nat) (hj : lv[j]? = some (i, .int x)) (kk : Gj p l e R s m args below meth c Q G nL (pc + 2) lv (.int x :: st) w) : Gj p l e R s m args below meth c Q G nL pc lv st w :=
  fun H locs ls a b d => lv_iload X.1.1 X.1.2.1 hd (lv_at d j hj) (kk H locs ls a b d)
theorem g_lload (X : Cx p s m args meth c cc nL ret own G) {i : Nat} {x : Int64} (hd : decode cc pc = .ok (.lload i, 2)) (j : Nat) (hj : lv[j]? = some (i, .long x)) (kk : Gj p l e R s m args below meth c Q G nL (pc + 2) lv (.long x :: st) w) : Gj p l e R s m args below meth c Q G nL pc lv st w :=
  fun H locs ls a b d => lv_lload X.1.1 X.1.2.1 hd (lv_at d j hj) (kk H locs ls a b d)
theorem g_aload_n (X : Cx p s m args meth c cc nL ret own G) {k : Fin 4} {i : Nat} {x : Nat} (hd : decode cc pc = .ok (.aload_n k, 1)) (hi : (k : Nat) = i) (j : Nat) (hj : lv[j]? = some (i, .ref x)) (kk : Gj p l e R s m args below meth c Q G nL (pc + 1) lv (.ref x :: st) w) : Gj p l e R s m args below meth c Q G nL pc lv st w :=
  fun H locs ls a b d => lv_aload_n X.1.1 X.1.2.1 hd hi (lv_at d j hj) (kk H locs ls a b d)
theorem g_istore_n (X : Cx p s m args meth c cc nL ret own G) {k : Fin 4} {i : Nat} {x : Int32} (hd : decode cc pc = .ok (.istore_n k, 1)) (hi : (k : Nat) = i) (hn : i < nL) (hl : (i, Value.int x) :: lv.filter (fun q => !(q.1 == i) && !(q.1 + 1 == i && q.2.category == 2)) = lv') (kk : Gj p l e R s m args below meth c Q G nL (pc + 1) lv' st w) : Gj p l e R s m args below meth c Q G nL pc lv (.int x :: st) w :=
  fun H locs ls a b d => lv_istore_n X.1.1 X.1.2.1 hd hi d hn hl (fun ls' h' => kk H locs ls' a b h')
theorem g_istore (X : Cx p s m args meth c cc nL ret own G) {i : Nat} {x : Int32} (hd : decode cc pc = .ok (.istore i, 2)) (hn : i < nL) (hl : (i, Value.int x) :: lv.filter (fun q => !(q.1 == i) && !(q.1 + 1 == i && q.2.category == 2)) = lv') (kk : Gj p l e R s m args below meth c Q G nL (pc + 2) lv' st w) : Gj p l e R s m args below meth c Q G nL pc lv (.int x :: st) w :=
  fun H locs ls a b d => lv_istore X.1.1 X.1.2.1 hd d hn hl (fun ls' h' => kk H locs ls' a b h')
theorem g_lstore (X : Cx p s m args meth c cc nL ret own G) {i : Nat} {x : Int64} (hd : decode cc pc = .ok (.lstore i, 2)) (hn : i + 1 < nL) (hl : (i, Value.long x) :: lv.filter (fun q => !(q.1 == i) && (!(q.1 == i + 1) && !(q.1 + 1 == i && q.2.category == 2))) = lv') (kk : Gj p l e R s m args below meth c Q G nL (pc + 2) lv' st w) : Gj p l e R s m args below meth c Q G nL pc lv (.long x :: st) w :=
  fun H locs ls a b d => lv_lstore X.1.1 X.1.2.1 hd d hn hl (fun ls' h' => kk H locs ls' a b h')
theorem g_iinc (X : Cx p s m args meth c cc nL ret own G) {i j : Nat} {n x : Int} (hd : decode cc pc = .ok (.iinc i n, 3)) (hj : lv[j]? = some (i, .int (iI x))) (hn : i < nL) (hl : (i, Value.int (iI (x + n))) :: lv.filter (fun q => !(q.1 == i) && !(q.1 + 1 == i && q.2.category == 2)) = lv') (kk : Gj p l e R s m args below meth c Q G nL (pc + 3) lv' st w) : Gj p l e R s m args below meth c Q G nL pc lv st w :=
  fun H locs ls a b d => lv_iinc X.1.1 X.1.2.1 hd d hj (iI_add x n) hn hl (fun ls' h' => kk H locs ls' a b h')
theorem g_lv (ks : List Nat) (h : lv_pick lv ks = lv') (k : Gj p l e R s m args below meth c Q G nL pc lv' st w) : Gj p l e R s m args below meth c Q G nL pc lv st w :=
  fun H locs ls a b d => k H locs ls a b (lv_sub d ks h)
theorem g_iadd (X : Cx p s m args meth c cc nL ret own G) {a b : Int} (hd : decode cc pc = .ok (.iadd, 1)) (k : Gj p l e R s m args below meth c Q G nL (pc + 1) lv (.int (iI (a + b)) :: st) w) : Gj p l e R s m args below meth c Q G nL pc lv (.int (iI b) :: .int (iI a) :: st) w :=
  fun H locs ls h1 h2 h3 => lv_iadd X.1.1 X.1.2.1 hd (by rw [iI_add]; exact k H locs ls h1 h2 h3)
theorem g_isub (X : Cx p s m args meth c cc nL ret own G) {a b : Int} (hd : decode cc pc = .ok (.isub, 1)) (k : Gj p l e R s m args below meth c Q G nL (pc + 1) lv (.int (iI (a - b)) :: st) w) : Gj p l e R s m args below meth c Q G nL pc lv (.int (iI b) :: .int (iI a) :: st) w :=
  fun H locs ls h1 h2 h3 => lv_isub X.1.1 X.1.2.1 hd (by rw [iI_sub]; exact k H locs ls h1 h2 h3)
theorem g_imul (X : Cx p s m args meth c cc nL ret own G) {a b : Int} (hd : decode cc pc = .ok (.imul, 1)) (k : Gj p l e R s m args below meth c Q G nL (pc + 1) lv (.int (iI (a * b)) :: st) w) : Gj p l e R s m args below meth c Q G nL pc lv (.int (iI b) :: .int (iI a) :: st) w :=
  fun H locs ls h1 h2 h3 => lv_imul X.1.1 X.1.2.1 hd (by rw [iI_mul]; exact k H locs ls h1 h2 h3)
theorem g_ineg (X : Cx p s m args meth c cc nL ret own G) {a : Int} (hd : decode cc pc = .ok (.ineg, 1)) (k : Gj p l e R s m args below meth c Q G nL (pc + 1) lv (.int (iI (-a)) :: st) w) : Gj p l e R s m args below meth c Q G nL pc lv (.int (iI a) :: st) w :=
  fun H locs ls h1 h2 h3 => lv_ineg X.1.1 X.1.2.1 hd (by rw [iI_neg]; exact k H locs ls h1 h2 h3)
theorem g_iand (X : Cx p s m args meth c cc nL ret own G) {a b : Int} (hd : decode cc pc = .ok (.iand, 1)) (k : Gj p l e R s m args below meth c Q G nL (pc + 1) lv (.int (iI (band a b)) :: st) w) : Gj p l e R s m args below meth c Q G nL pc lv (.int (iI b) :: .int (iI a) :: st) w :=
  fun H locs ls h1 h2 h3 => lv_iand X.1.1 X.1.2.1 hd (by have := k H locs ls h1 h2 h3; rwa [band, iI_of] at this)
theorem g_ior (X : Cx p s m args meth c cc nL ret own G) {a b : Int} (hd : decode cc pc = .ok (.ior, 1)) (k : Gj p l e R s m args below meth c Q G nL (pc + 1) lv (.int (iI (bor a b)) :: st) w) : Gj p l e R s m args below meth c Q G nL pc lv (.int (iI b) :: .int (iI a) :: st) w :=
  fun H locs ls h1 h2 h3 => lv_ior X.1.1 X.1.2.1 hd (by have := k H locs ls h1 h2 h3; rwa [bor, iI_of] at this)
theorem g_ixor (X : Cx p s m args meth c cc nL ret own G) {a b : Int} (hd : decode cc pc = .ok (.ixor, 1)) (k : Gj p l e R s m args below meth c Q G nL (pc + 1) lv (.int (iI (bxor a b)) :: st) w) : Gj p l e R s m args below meth c Q G nL pc lv (.int (iI b) :: .int (iI a) :: st) w :=
  fun H locs ls h1 h2 h3 => lv_ixor X.1.1 X.1.2.1 hd (by have := k H locs ls h1 h2 h3; rwa [bxor, iI_of] at this)
theorem g_ishl (X : Cx p s m args meth c cc nL ret own G) {a b : Int} (hd : decode cc pc = .ok (.ishl, 1)) (k : Gj p l e R s m args below meth c Q G nL (pc + 1) lv (.int (iI (bshl a b)) :: st) w) : Gj p l e R s m args below meth c Q G nL pc lv (.int (iI b) :: .int (iI a) :: st) w :=
  fun H locs ls h1 h2 h3 => lv_ishl X.1.1 X.1.2.1 hd (by have := k H locs ls h1 h2 h3; rwa [bshl, iI_of] at this)
theorem g_ishr (X : Cx p s m args meth c cc nL ret own G) {a b : Int} (hd : decode cc pc = .ok (.ishr, 1)) (k : Gj p l e R s m args below meth c Q G nL (pc + 1) lv (.int (iI (bshr a b)) :: st) w) : Gj p l e R s m args below meth c Q G nL pc lv (.int (iI b) :: .int (iI a) :: st) w :=
  fun H locs ls h1 h2 h3 => lv_ishr X.1.1 X.1.2.1 hd (by have := k H locs ls h1 h2 h3; rwa [bshr, iI_of] at this)
theorem g_iushr (X : Cx p s m args meth c cc nL ret own G) {a b : Int} (hd : decode cc pc = .ok (.iushr, 1)) (k : Gj p l e R s m args below meth c Q G nL (pc + 1) lv (.int (iI (bushr a b)) :: st) w) : Gj p l e R s m args below meth c Q G nL pc lv (.int (iI b) :: .int (iI a) :: st) w :=
  fun H locs ls h1 h2 h3 => lv_iushr (v := iI (bushr a b)) X.1.1 X.1.2.1 hd (by rw [bushr, iI_of]) (k H locs ls h1 h2 h3)
theorem g_idiv (X : Cx p s m args meth c cc nL ret own G) {a b : Int} (hd : decode cc pc = .ok (.idiv, 1)) (hb : InR b) (hne : b ≠ 0) (k : Gj p l e R s m args below meth c Q G nL (pc + 1) lv (.int (iI (jdiv a b)) :: st) w) : Gj p l e R s m args below meth c Q G nL pc lv (.int (iI b) :: .int (iI a) :: st) w :=
  fun H locs ls h1 h2 h3 => lv_idiv X.1.1 X.1.2.1 hd (fun q => hne ((iI_eq hb inR_zero).mp q)) (by have := k H locs ls h1 h2 h3; rwa [jdiv, iI_of] at this)
theorem g_irem (X : Cx p s m args meth c cc nL ret own G) {a b : Int} (hd : decode cc pc = .ok (.irem, 1)) (hb : InR b) (hne : b ≠ 0) (k : Gj p l e R s m args below meth c Q G nL (pc + 1) lv (.int (iI (jrem a b)) :: st) w) : Gj p l e R s m args below meth c Q G nL pc lv (.int (iI b) :: .int (iI a) :: st) w :=
  fun H locs ls h1 h2 h3 => lv_irem X.1.1 X.1.2.1 hd (fun q => hne ((iI_eq hb inR_zero).mp q)) (by have := k H locs ls h1 h2 h3; rwa [jrem, iI_of] at this)
theorem g_i2c (X : Cx p s m args meth c cc nL ret own G) {a : Int} (hd : decode cc pc = .ok (.i2c, 1)) (k : Gj p l e R s m args below meth c Q G nL (pc + 1) lv (.int (iI (j2c a)) :: st) w) : Gj p l e R s m args below meth c Q G nL pc lv (.int (iI a) :: st) w :=
  fun H locs ls h1 h2 h3 => lv_i2c (v := iI (j2c a)) X.1.1 X.1.2.1 hd (by rw [j2c, iI_of]) (k H locs ls h1 h2 h3)
theorem g_i2l (X : Cx p s m args meth c cc nL ret own G) {a : Int} (hd : decode cc pc = .ok (.i2l, 1)) (k : Gj p l e R s m args below meth c Q G nL (pc + 1) lv (.long (lI (j2l a)) :: st) w) : Gj p l e R s m args below meth c Q G nL pc lv (.int (iI a) :: st) w :=
  fun H locs ls h1 h2 h3 => lv_i2l (v := lI (j2l a)) X.1.1 X.1.2.1 hd (by rw [j2l, lI_of]) (k H locs ls h1 h2 h3)
theorem g_l2i (X : Cx p s m args meth c cc nL ret own G) {a : Int} (hd : decode cc pc = .ok (.l2i, 1)) (k : Gj p l e R s m args below meth c Q G nL (pc + 1) lv (.int (iI (l2j a)) :: st) w) : Gj p l e R s m args below meth c Q G nL pc lv (.long (lI a) :: st) w :=
  fun H locs ls h1 h2 h3 => lv_l2i (v := iI (l2j a)) X.1.1 X.1.2.1 hd (by rw [l2j, iI_of]) (k H locs ls h1 h2 h3)
theorem g_ladd (X : Cx p s m args meth c cc nL ret own G) {a b : Int} (hd : decode cc pc = .ok (.ladd, 1)) (k : Gj p l e R s m args below meth c Q G nL (pc + 1) lv (.long (lI (a + b)) :: st) w) : Gj p l e R s m args below meth c Q G nL pc lv (.long (lI b) :: .long (lI a) :: st) w :=
  fun H locs ls h1 h2 h3 => lv_ladd X.1.1 X.1.2.1 hd (by rw [lI_add]; exact k H locs ls h1 h2 h3)
theorem g_lshl (X : Cx p s m args meth c cc nL ret own G) {a b : Int} (hd : decode cc pc = .ok (.lshl, 1)) (k : Gj p l e R s m args below meth c Q G nL (pc + 1) lv (.long (lI (lshl a b)) :: st) w) : Gj p l e R s m args below meth c Q G nL pc lv (.int (iI b) :: .long (lI a) :: st) w :=
  fun H locs ls h1 h2 h3 => lv_lshl (v := lI (lshl a b)) X.1.1 X.1.2.1 hd (by rw [lshl, lI_of]) (k H locs ls h1 h2 h3)
theorem g_lshr (X : Cx p s m args meth c cc nL ret own G) {a b : Int} (hd : decode cc pc = .ok (.lshr, 1)) (k : Gj p l e R s m args below meth c Q G nL (pc + 1) lv (.long (lI (lshr a b)) :: st) w) : Gj p l e R s m args below meth c Q G nL pc lv (.int (iI b) :: .long (lI a) :: st) w :=
  fun H locs ls h1 h2 h3 => lv_lshr (v := lI (lshr a b)) X.1.1 X.1.2.1 hd (by rw [lshr, lI_of]) (k H locs ls h1 h2 h3)
theorem g_dup (X : Cx p s m args meth c cc nL ret own G) {v : Value} (hd : decode cc pc = .ok (.dup, 1)) (hv : v.category = 1) (k : Gj p l e R s m args below meth c Q G nL (pc + 1) lv (v :: v :: st) w) : Gj p l e R s m args below meth c Q G nL pc lv (v :: st) w :=
  fun H locs ls h1 h2 h3 => lv_dup X.1.1 X.1.2.1 hd hv (k H locs ls h1 h2 h3)
theorem g_dup2 (X : Cx p s m args meth c cc nL ret own G) {v u : Value} (hd : decode cc pc = .ok (.dup2, 1)) (hv : v.category = 1) (hu : u.category = 1) (k : Gj p l e R s m args below meth c Q G nL (pc + 1) lv (v :: u :: v :: u :: st) w) : Gj p l e R s m args below meth c Q G nL pc lv (v :: u :: st) w :=
  fun H locs ls h1 h2 h3 => lv_dup2_11 X.1.1 X.1.2.1 hd hv hu (k H locs ls h1 h2 h3)
theorem g_pop (X : Cx p s m args meth c cc nL ret own G) {v : Value} (hd : decode cc pc = .ok (.pop, 1)) (hv : v.category = 1) (k : Gj p l e R s m args below meth c Q G nL (pc + 1) lv st w) : Gj p l e R s m args below meth c Q G nL pc lv (v :: st) w :=
  fun H locs ls h1 h2 h3 => lv_pop X.1.1 X.1.2.1 hd hv (k H locs ls h1 h2 h3)
theorem g_goto (X : Cx p s m args meth c cc nL ret own G) {off : Int} {tgt : Nat} (hd : decode cc pc = .ok (.goto off, 3)) (ht : (pc : Int) + off = (tgt : Int)) (k : Gj p l e R s m args below meth c Q G nL tgt lv st w) : Gj p l e R s m args below meth c Q G nL pc lv st w :=
  fun H locs ls h1 h2 h3 => lv_goto X.1.1 X.1.2.1 hd ht (k H locs ls h1 h2 h3)
end RW
