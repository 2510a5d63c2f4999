/-! THE WALK WHERE CELLS ARE MADE: so many cells (kc) of so many slots (kn) are new; what holds of the heap is P -/
def Cb (p : Program) (s : State) (m : MethodId) (args : Array Value) (meth : Method) (c : Code) (cc : ByteArray) (nL : Nat) (ret : Option FieldType) (own : String) : Prop :=
  p.tables.exec = Jvm.exec ∧ c.code = cc ∧ c.maxLocals = nL ∧ s.vm.findClass own = some m.cls ∧ (∀ w ∈ gw, w.before args s = true) ∧ meth.locks = false ∧ meth.sig.returnType = ret
def Kj (p : Program) (l : Launch) (e : Env) (R : Room) (s : State) (m : MethodId) (args : Array Value) (below : List Frame) (meth : Method) (c : Code) (Q : State → Prop) (A : Nat → Prop) (nL kc kn pc : Nat) (lv : List (Nat × Value)) (st : List Value) (P : Heap → Prop) : Prop :=
  ∀ (H : Heap) (locs : List Loc) (ls : Array Slot), P H → H.size = s.heap.size + kc → va_S A s.heap H locs → lv_has ls nL lv → W p l e R s m args below meth c H locs kc kn Q (F0 m pc ls st)
section KA
variable {p : Program} {l : Launch} {e : Env} {R : Room} {s : State} {m : MethodId} {args : Array Value} {below : List Frame} {meth : Method} {c : Code} {Q : State → Prop} {cc : ByteArray} {nL : Nat} {ret : Option FieldType} {own : String} {A : Nat → Prop} {pc kc kn : Nat} {lv lv' : List (Nat × Value)} {st : List Value} {P : Heap → Prop}
theorem w_size {H : Heap} {locs : List Loc} {cells slots : Nat} {g : JFrame} (k : H.size ≤ s.heap.size + cells → W p l e R s m args below meth c H locs cells slots Q g) : W p l e R s m args below meth c H locs cells slots Q g :=
  fun T hT X => k (by rw [← hT]; exact X.heapSize) T hT X
theorem k_iconst (X : Cb p s m args meth c cc nL ret own) {n : Int} (hd : decode cc pc = .ok (.iconst n, 1)) (k : Kj p l e R s m args below meth c Q A nL kc kn (pc + 1) lv (.int (iI n) :: st) P) : Kj p l e R s m args below meth c Q A nL kc kn pc lv st P :=
  fun H locs ls a z b d => lv_iconst X.1 X.2.1 hd rfl (k H locs ls a z b d)
theorem k_bipush (X : Cb p s m args meth c cc nL ret own) {n : Int} (hd : decode cc pc = .ok (.bipush n, 2)) (hv : (Int8.ofInt n).toInt32 = iI n) (k : Kj p l e R s m args below meth c Q A nL kc kn (pc + 2) lv (.int (iI n) :: st) P) : Kj p l e R s m args below meth c Q A nL kc kn pc lv st P :=
  fun H locs ls a z b d => lv_bipush X.1 X.2.1 hd hv (k H locs ls a z b d)
theorem k_sipush (X : Cb p s m args meth c cc nL ret own) {n : Int} (hd : decode cc pc = .ok (.sipush n, 3)) (hv : (Int16.ofInt n).toInt32 = iI n) (k : Kj p l e R s m args below meth c Q A nL kc kn (pc + 3) lv (.int (iI n) :: st) P) : Kj p l e R s m args below meth c Q A nL kc kn pc lv st P :=
  fun H locs ls a z b d => lv_sipush X.1 X.2.1 hd hv (k H locs ls a z b d)
theorem k_iload_n (X : Cb p s m args meth c cc nL ret own) {k : Fin 4} {i : Nat} {x : Int32} (hd : decode cc pc = .ok (.iload_n k, 1)) (hi : (k : Nat) = i) (j : Nat) (hj : lv[j]? = some (i, .int x)) (kk : Kj p l e R s m args below meth c Q A nL kc kn (pc + 1) lv (.int x :: st) P) : Kj p l e R s m args below meth c Q A nL kc kn pc lv st P :=
  fun H locs ls a z b d => lv_iload_n X.1 X.2.1 hd hi (lv_at d j hj) (kk H locs ls a z b d)
theorem k_aload_n (X : Cb p s m args meth c cc nL ret own) {k : Fin 4} {i : Nat} {x : Nat} (hd : decode cc pc = .ok (.aload_n k, 1)) (hi : (k : Nat) = i) (j : Nat) (hj : lv[j]? = some (i, .ref x)) (kk : Kj p l e R s m args below meth c Q A nL kc kn (pc + 1) lv (.ref x :: st) P) : Kj p l e R s m args below meth c Q A nL kc kn pc lv st P :=
  fun H locs ls a z b d => lv_aload_n X.1 X.2.1 hd hi (lv_at d j hj) (kk H locs ls a z b d)
theorem k_istore_n (X : Cb p s m args meth c cc nL ret own) {k : Fin 4} {i : Nat} {x : Int32} (hd : decode cc pc = .ok (.istore_n k, 1)) (hi : (k : Nat) = i) (hn : i < nL) (hl : (i, Value.int x) :: lv.filter (fun q => !(q.1 == i) && !(q.1 + 1 == i && q.2.category == 2)) = lv') (kk : Kj p l e R s m args below meth c Q A nL kc kn (pc + 1) lv' st P) : Kj p l e R s m args below meth c Q A nL kc kn pc lv (.int x :: st) P :=
  fun H locs ls a z b d => lv_istore_n X.1 X.2.1 hd hi d hn hl (fun ls' h' => kk H locs ls' a z b h')
theorem k_iinc (X : Cb p s m args meth c cc nL ret own) {i j : Nat} {n x : Int} (hd : decode cc pc = .ok (.iinc i n, 3)) (hj : lv[j]? = some (i, .int (iI x))) (hn : i < nL) (hl : (i, Value.int (iI (x + n))) :: lv.filter (fun q => !(q.1 == i) && !(q.1 + 1 == i && q.2.category == 2)) = lv') (kk : Kj p l e R s m args below meth c Q A nL kc kn (pc + 3) lv' st P) : Kj p l e R s m args below meth c Q A nL kc kn pc lv st P :=
  fun H locs ls a z b d => lv_iinc X.1 X.2.1 hd d hj (iI_add x n) hn hl (fun ls' h' => kk H locs ls' a z b h')
theorem k_lv (ks : List Nat) (h : lv_pick lv ks = lv') (k : Kj p l e R s m args below meth c Q A nL kc kn pc lv' st P) : Kj p l e R s m args below meth c Q A nL kc kn pc lv st P :=
  fun H locs ls a z b d => k H locs ls a z b (lv_sub d ks h)
theorem k_iadd (X : Cb p s m args meth c cc nL ret own) {a b : Int} (hd : decode cc pc = .ok (.iadd, 1)) (k : Kj p l e R s m args below meth c Q A nL kc kn (pc + 1) lv (.int (iI (a + b)) :: st) P) : Kj p l e R s m args below meth c Q A nL kc kn pc lv (.int (iI b) :: .int (iI a) :: st) P :=
  fun H locs ls h1 hz h2 h3 => lv_iadd X.1 X.2.1 hd (by rw [iI_add]; exact k H locs ls h1 hz h2 h3)
theorem k_isub (X : Cb p s m args meth c cc nL ret own) {a b : Int} (hd : decode cc pc = .ok (.isub, 1)) (k : Kj p l e R s m args below meth c Q A nL kc kn (pc + 1) lv (.int (iI (a - b)) :: st) P) : Kj p l e R s m args below meth c Q A nL kc kn pc lv (.int (iI b) :: .int (iI a) :: st) P :=
  fun H locs ls h1 hz h2 h3 => lv_isub X.1 X.2.1 hd (by rw [iI_sub]; exact k H locs ls h1 hz h2 h3)
theorem k_iand (X : Cb p s m args meth c cc nL ret own) {a b : Int} (hd : decode cc pc = .ok (.iand, 1)) (k : Kj p l e R s m args below meth c Q A nL kc kn (pc + 1) lv (.int (iI (band a b)) :: st) P) : Kj p l e R s m args below meth c Q A nL kc kn pc lv (.int (iI b) :: .int (iI a) :: st) P :=
  fun H locs ls h1 hz h2 h3 => lv_iand X.1 X.2.1 hd (by have := k H locs ls h1 hz h2 h3; rwa [band, iI_of] at this)
theorem k_ishr (X : Cb p s m args meth c cc nL ret own) {a b : Int} (hd : decode cc pc = .ok (.ishr, 1)) (k : Kj p l e R s m args below meth c Q A nL kc kn (pc + 1) lv (.int (iI (bshr a b)) :: st) P) : Kj p l e R s m args below meth c Q A nL kc kn pc lv (.int (iI b) :: .int (iI a) :: st) P :=
  fun H locs ls h1 hz h2 h3 => lv_ishr X.1 X.2.1 hd (by have := k H locs ls h1 hz h2 h3; rwa [bshr, iI_of] at this)
theorem k_i2c (X : Cb p s m args meth c cc nL ret own) {a : Int} (hd : decode cc pc = .ok (.i2c, 1)) (k : Kj p l e R s m args below meth c Q A nL kc kn (pc + 1) lv (.int (iI (j2c a)) :: st) P) : Kj p l e R s m args below meth c Q A nL kc kn pc lv (.int (iI a) :: st) P :=
  fun H locs ls h1 hz h2 h3 => lv_i2c (v := iI (j2c a)) X.1 X.2.1 hd (by rw [j2c, iI_of]) (k H locs ls h1 hz h2 h3)
theorem k_dup (X : Cb p s m args meth c cc nL ret own) {v : Value} (hd : decode cc pc = .ok (.dup, 1)) (hv : v.category = 1) (k : Kj p l e R s m args below meth c Q A nL kc kn (pc + 1) lv (v :: v :: st) P) : Kj p l e R s m args below meth c Q A nL kc kn pc lv (v :: st) P :=
  fun H locs ls h1 hz h2 h3 => lv_dup X.1 X.2.1 hd hv (k H locs ls h1 hz h2 h3)
theorem k_pop (X : Cb p s m args meth c cc nL ret own) {v : Value} (hd : decode cc pc = .ok (.pop, 1)) (hv : v.category = 1) (k : Kj p l e R s m args below meth c Q A nL kc kn (pc + 1) lv st P) : Kj p l e R s m args below meth c Q A nL kc kn pc lv (v :: st) P :=
  fun H locs ls h1 hz h2 h3 => lv_pop X.1 X.2.1 hd hv (k H locs ls h1 hz h2 h3)
theorem k_goto (X : Cb p s m args meth c cc nL ret own) {off : Int} {tgt : Nat} (hd : decode cc pc = .ok (.goto off, 3)) (ht : (pc : Int) + off = (tgt : Int)) (k : Kj p l e R s m args below meth c Q A nL kc kn tgt lv st P) : Kj p l e R s m args below meth c Q A nL kc kn pc lv st P :=
  fun H locs ls h1 hz h2 h3 => lv_goto X.1 X.2.1 hd ht (k H locs ls h1 hz h2 h3)
theorem k_icmp_eq (X : Cb p s m args meth c cc nL ret own) {a b : Int} {off : Int} {tgt : Nat} (hd : decode cc pc = .ok (.if_icmp .eq off, 3)) (ht : (pc : Int) + off = (tgt : Int)) (ha : InR a) (hb : InR b) (kt : a = b → Kj p l e R s m args below meth c Q A nL kc kn tgt lv st P) (kf : ¬ (a = b) → Kj p l e R s m args below meth c Q A nL kc kn (pc + 3) lv st P) : Kj p l e R s m args below meth c Q A nL kc kn pc lv (.int (iI b) :: .int (iI a) :: st) P :=
  fun H locs ls h1 hz h2 h3 => lv_icmp_eq X.1 X.2.1 hd ht (fun q => kt ((iI_eq ha hb).mp q) H locs ls h1 hz h2 h3) (fun q => kf (fun z => q ((iI_eq ha hb).mpr z)) H locs ls h1 hz h2 h3)
theorem k_icmp_lt (X : Cb p s m args meth c cc nL ret own) {a b : Int} {off : Int} {tgt : Nat} (hd : decode cc pc = .ok (.if_icmp .lt off, 3)) (ht : (pc : Int) + off = (tgt : Int)) (ha : InR a) (hb : InR b) (kt : a < b → Kj p l e R s m args below meth c Q A nL kc kn tgt lv st P) (kf : ¬ (a < b) → Kj p l e R s m args below meth c Q A nL kc kn (pc + 3) lv st P) : Kj p l e R s m args below meth c Q A nL kc kn pc lv (.int (iI b) :: .int (iI a) :: st) P :=
  fun H locs ls h1 hz h2 h3 => lv_icmp_lt X.1 X.2.1 hd ht (fun q => kt ((iI_lt ha hb).mp q) H locs ls h1 hz h2 h3) (fun q => kf (fun z => q ((iI_lt ha hb).mpr z)) H locs ls h1 hz h2 h3)
theorem k_icmp_ge (X : Cb p s m args meth c cc nL ret own) {a b : Int} {off : Int} {tgt : Nat} (hd : decode cc pc = .ok (.if_icmp .ge off, 3)) (ht : (pc : Int) + off = (tgt : Int)) (ha : InR a) (hb : InR b) (kt : b ≤ a → Kj p l e R s m args below meth c Q A nL kc kn tgt lv st P) (kf : ¬ (b ≤ a) → Kj p l e R s m args below meth c Q A nL kc kn (pc + 3) lv st P) : Kj p l e R s m args below meth c Q A nL kc kn pc lv (.int (iI b) :: .int (iI a) :: st) P :=
  fun H locs ls h1 hz h2 h3 => lv_icmp_ge X.1 X.2.1 hd ht (fun q => kt ((iI_le hb ha).mp q) H locs ls h1 hz h2 h3) (fun q => kf (fun z => q ((iI_le hb ha).mpr z)) H locs ls h1 hz h2 h3)
theorem k_icmp_gt (X : Cb p s m args meth c cc nL ret own) {a b : Int} {off : Int} {tgt : Nat} (hd : decode cc pc = .ok (.if_icmp .gt off, 3)) (ht : (pc : Int) + off = (tgt : Int)) (ha : InR a) (hb : InR b) (kt : b < a → Kj p l e R s m args below meth c Q A nL kc kn tgt lv st P) (kf : ¬ (b < a) → Kj p l e R s m args below meth c Q A nL kc kn (pc + 3) lv st P) : Kj p l e R s m args below meth c Q A nL kc kn pc lv (.int (iI b) :: .int (iI a) :: st) P :=
  fun H locs ls h1 hz h2 h3 => lv_icmp_gt X.1 X.2.1 hd ht (fun q => kt ((iI_lt hb ha).mp q) H locs ls h1 hz h2 h3) (fun q => kf (fun z => q ((iI_lt hb ha).mpr z)) H locs ls h1 hz h2 h3)
theorem k_if_eq (X : Cb p s m args meth c cc nL ret own) {a : Int} {off : Int} {tgt : Nat} (hd : decode cc pc = .ok (.ifCond .eq off, 3)) (ht : (pc : Int) + off = (tgt : Int)) (ha : InR a) (kt : a = 0 → Kj p l e R s m args below meth c Q A nL kc kn tgt lv st P) (kf : ¬ (a = 0) → Kj p l e R s m args below meth c Q A nL kc kn (pc + 3) lv st P) : Kj p l e R s m args below meth c Q A nL kc kn pc lv (.int (iI a) :: st) P :=
  fun H locs ls h1 hz h2 h3 => lv_if_eq X.1 X.2.1 hd ht (fun q => kt ((iI_eq ha inR_zero).mp q) H locs ls h1 hz h2 h3) (fun q => kf (fun z => q ((iI_eq ha inR_zero).mpr z)) H locs ls h1 hz h2 h3)
theorem k_if_ne (X : Cb p s m args meth c cc nL ret own) {a : Int} {off : Int} {tgt : Nat} (hd : decode cc pc = .ok (.ifCond .ne off, 3)) (ht : (pc : Int) + off = (tgt : Int)) (ha : InR a) (kt : a ≠ 0 → Kj p l e R s m args below meth c Q A nL kc kn tgt lv st P) (kf : ¬ (a ≠ 0) → Kj p l e R s m args below meth c Q A nL kc kn (pc + 3) lv st P) : Kj p l e R s m args below meth c Q A nL kc kn pc lv (.int (iI a) :: st) P :=
  fun H locs ls h1 hz h2 h3 => lv_if_ne X.1 X.2.1 hd ht (fun q => kt (fun z => q ((iI_eq ha inR_zero).mpr z)) H locs ls h1 hz h2 h3) (fun q => kf (fun z => z ((iI_eq ha inR_zero).mp q)) H locs ls h1 hz h2 h3)
theorem k_if_lt (X : Cb p s m args meth c cc nL ret own) {a : Int} {off : Int} {tgt : Nat} (hd : decode cc pc = .ok (.ifCond .lt off, 3)) (ht : (pc : Int) + off = (tgt : Int)) (ha : InR a) (kt : a < 0 → Kj p l e R s m args below meth c Q A nL kc kn tgt lv st P) (kf : ¬ (a < 0) → Kj p l e R s m args below meth c Q A nL kc kn (pc + 3) lv st P) : Kj p l e R s m args below meth c Q A nL kc kn pc lv (.int (iI a) :: st) P :=
  fun H locs ls h1 hz h2 h3 => lv_if_lt X.1 X.2.1 hd ht (fun q => kt ((iI_lt ha inR_zero).mp q) H locs ls h1 hz h2 h3) (fun q => kf (fun z => q ((iI_lt ha inR_zero).mpr z)) H locs ls h1 hz h2 h3)
theorem k_tableIn (X : Cb p s m args meth c cc nL ret own) {dflt lo hi : Int} {offs : Array Int} {len : Nat} {a : Int} {off : Int} {tgt : Nat} (hd : decode cc pc = .ok (.tableswitch dflt lo hi offs, len)) (ha : InR a) (h1 : lo ≤ a) (h2 : a ≤ hi) (ho : offs[(a - lo).toNat]? = some off) (ht : (pc : Int) + off = (tgt : Int)) (k : Kj p l e R s m args below meth c Q A nL kc kn tgt lv st P) : Kj p l e R s m args below meth c Q A nL kc kn pc lv (.int (iI a) :: st) P :=
  fun H locs ls q1 qz q2 q3 => lv_tableIn X.1 X.2.1 hd (by rw [iI_to ha]; omega) (by rw [iI_to ha]; omega) (by rw [iI_to ha]; exact ho) ht (k H locs ls q1 qz q2 q3)
theorem k_astore_n (X : Cb p s m args meth c cc nL ret own) {k : Fin 4} {i x : Nat} (hd : decode cc pc = .ok (.astore_n k, 1)) (hi : (k : Nat) = i) (hn : i < nL) (hl : (i, Value.ref x) :: lv.filter (fun q => !(q.1 == i) && !(q.1 + 1 == i && q.2.category == 2)) = lv') (kk : Kj p l e R s m args below meth c Q A nL kc kn (pc + 1) lv' st P) : Kj p l e R s m args below meth c Q A nL kc kn pc lv (.ref x :: st) P :=
  fun H locs ls a z b d => lv_astore_n X.1 X.2.1 hd hi d hn hl (fun ls' h' => kk H locs ls' a z b h')
theorem k_wk {P' : Heap → Prop} (h : ∀ H : Heap, H.size = s.heap.size + kc → P H → P' H) (k : Kj p l e R s m args below meth c Q A nL kc kn pc lv st P') : Kj p l e R s m args below meth c Q A nL kc kn pc lv st P :=
  fun H locs ls a z b d => k H locs ls (h H z a) z b d
/-- a fact that the heap shows -/
theorem k_pf {F : Prop} (h : ∀ H : Heap, H.size = s.heap.size + kc → P H → F) (k : F → Kj p l e R s m args below meth c Q A nL kc kn pc lv st P) : Kj p l e R s m args below meth c Q A nL kc kn pc lv st P :=
  fun H locs ls a z b d => k (h H z a) H locs ls a z b d
theorem k_objInit (X : Cb p s m args meth c cc nL ret own) {idx a : Nat} (hl : Cond.methodLink own idx ⟨"java/lang/Object", "<init>", "()V"⟩ ∈ gw) (hR : 1 ≤ R.frames ∧ 20 ≤ R.locals) (hcat : (st.map fun v => v.category).sum ≤ 8) (hd : decode cc pc = .ok (.invokespecial idx, 3)) (k : Kj p l e R s m args below meth c Q A nL kc kn (pc + 3) lv st P) : Kj p l e R s m args below meth c Q A nL kc kn pc lv (.ref a :: st) P :=
  fun H locs ls h1 hz h2 h3 => W.objInit X.1 X.2.1 X.2.2.2.1 (X.2.2.2.2.1 _ hl) (X.2.2.2.2.1 _ oi_im) (X.2.2.2.2.1 _ oi_co) rfl (h3.1.trans X.2.2.1.symm) rfl hd hR.1 (by have h9 : 2 * (F0 m pc ls (Value.ref a :: st)).monitorRoom + (st.map fun v => v.category).sum ≤ 8 := lv_room hcat; omega) (k H locs ls h1 hz h2 h3)
theorem k_vret {S : Type} {post : S → Prop} {B : S → State → Prop} (X : Cb p s m args meth c cc nL ret own) (hr : ret = none) (hd : decode cc pc = .ok (.return_, 1)) (u : S) (hp : post u) (hB : ∀ t : State, P t.heap → t.heap.size = s.heap.size + kc → B u t) : Kj p l e R s m args below meth c (MQ below (va_Qv post B A) args s kc kn A) A nL kc kn pc lv [] P :=
  fun H locs ls h1 hz h2 h3 => W.vret X.1 X.2.1 (X.2.2.2.2.2.2.trans hr) (fun t ht hW => ⟨⟨u, rfl, hp, hB t (by rw [ht]; exact h1) (by rw [ht]; exact hz)⟩, h2.F ht⟩) h2.2.2 hd X.2.2.2.2.2.1
theorem k_iret {S : Type} {post : Int32 → S → Prop} {B : S → State → Prop} (X : Cb p s m args meth c cc nL ret own) {z : Int32} {ty : FieldType} (hr : ret = some ty) (hn : narrow ty (.int z) = .int z) (hd : decode cc pc = .ok (.ireturn, 1)) (u : S) (hp : post z u) (hB : ∀ t : State, P t.heap → t.heap.size = s.heap.size + kc → B u t) : Kj p l e R s m args below meth c (MQ below (va_Qi post B A) args s kc kn A) A nL kc kn pc lv [.int z] P :=
  fun H locs ls h1 hz h2 h3 => W.zret (ty := ty) X.1 X.2.1 (X.2.2.2.2.2.2.trans hr) hn (fun t ht hW => ⟨⟨z, u, rfl, hp, hB t (by rw [ht]; exact h1) (by rw [ht]; exact hz)⟩, h2.F ht⟩) h2.2.2 hd X.2.2.2.2.2.1
/-- a call without answer -/
theorem k_callv {S : Type} {post : S → Prop} {B : S → State → Prop} {A1 : Nat → Prop} {mc ms : Nat} {a : Array Value} {stk : List Value} (hr : ∀ (H : Heap) (locs : List Loc) (ls : Array Slot), P H → H.size = s.heap.size + kc → va_S A s.heap H locs → lv_has ls nL lv → va_Run p l e R s m args below meth c H locs kc kn mc ms (F0 m pc ls stk) st (va_Qv post B A1 a) A1) (hA : ∀ q, A1 q → A q)
    (hsz : ∀ (u : S) (t : State), post u → B u t → s.heap.size + kc ≤ t.heap.size → s.heap.size + (kc + mc) ≤ t.heap.size)
    (kk : ∀ u : S, post u → Kj p l e R s m args below meth c Q A nL (kc + mc) (kn + ms) (pc + 3) lv st (fun H1 => ∃ (t : State) (H : Heap), t.heap = H1 ∧ B u t ∧ P H ∧ H.size = s.heap.size + kc ∧ ∀ q : Nat, q < H.size → ¬ A1 q → H1[q]? = H[q]?)) : Kj p l e R s m args below meth c Q A nL kc kn pc lv stk P :=
  fun H locs ls h1 hz h2 h3 => va_callv (hr H locs ls h1 hz h2 h3) h2 (fun q _ h => hA q h) hA (fun u t H1 locs1 ht hvm hp hB hz1 hk hS => w_size fun hle => kk u hp H1 locs1 ls ⟨t, H, ht, hB, h1, hz, hk⟩ (by
    have := hsz u t hp hB (by rw [ht]; omega)
    rw [ht] at this
    omega) hS h3)
/-- a call with an int for an answer -/
theorem k_calli {S : Type} {post : Int32 → S → Prop} {B : S → State → Prop} {A1 : Nat → Prop} {a : Array Value} {stk : List Value} (hr : ∀ (H : Heap) (locs : List Loc) (ls : Array Slot), P H → H.size = s.heap.size + kc → va_S A s.heap H locs → lv_has ls nL lv → va_Run p l e R s m args below meth c H locs kc kn 0 0 (F0 m pc ls stk) st (va_Qi post B A1 a) A1) (hA : ∀ q, A1 q → A q)
    (kk : ∀ (r : Int32) (u : S), post r u → Kj p l e R s m args below meth c Q A nL kc kn (pc + 3) lv (.int r :: st) (fun H1 => ∃ (t : State) (H : Heap), t.heap = H1 ∧ B u t ∧ P H ∧ H.size = s.heap.size + kc ∧ ∀ q : Nat, q < H.size → ¬ A1 q → H1[q]? = H[q]?)) : Kj p l e R s m args below meth c Q A nL kc kn pc lv stk P :=
  fun H locs ls h1 hz h2 h3 => va_calli (hr H locs ls h1 hz h2 h3) h2 (fun q _ h => hA q h) hA (fun r u t H1 locs1 ht hvm hp hB hz1 hk hS => w_size fun hle => kk r u hp H1 locs1 ls ⟨t, H, ht, hB, h1, hz, hk⟩ (by omega) hS h3)
end KA
/-! parts of a layout -/
def gR (G : Ly) (B : Nat → Bool) : Ly := (fun o => if B o then gOb G o else none, G.2)
theorem gR_ob {G : Ly} {B : Nat → Bool} {o c : Nat} (h : gOb (gR G B) o = some c) : B o = true ∧ gOb G o = some c := by
  have h : (if B o then gOb G o else none) = some c := h
  by_cases e : B o = true
  · rw [if_pos e] at h; exact ⟨e, h⟩
  · rw [if_neg e] at h; exact absurd h (by simp)
theorem gR_of {G : Ly} {B : Nat → Bool} {o c : Nat} (hB : B o = true) (h : gOb G o = some c) : gOb (gR G B) o = some c := by
  show (if B o then gOb G o else none) = some c
  rw [if_pos hB]; exact h
/-- one object and its rows -/
def Oq (G : Ly) (w : Wd) (o c : Nat) (H : Heap) : Prop := t_OB (gAd G o) ((gD G).1 c) (nfX c) ((gD G).2 c) H (fval G w o c) ∧ ∀ f, f < nfX c → isA (fkX c f) = true → H[gAr G o f]? = some (acell G w o f (fkX c f))
theorem hold_R {G : Ly} {B : Nat → Bool} {w : Wd} {H : Heap} : Hold (gR G B) w H ↔ ∀ o c, B o = true → gOb G o = some c → Oq G w o c H :=
  ⟨fun h o c hB ho => h o c (gR_of hB ho), fun h o c ho => h o c (gR_ob ho).1 (gR_ob ho).2⟩
theorem Oq.kept {G : Ly} {w : Wd} {o c : Nat} {H H1 : Heap} (h : Oq G w o c H) (h1 : H1[gAd G o]? = H[gAd G o]?) (h2 : ∀ f, f < nfX c → isA (fkX c f) = true → H1[gAr G o f]? = H[gAr G o f]?) : Oq G w o c H1 :=
  ⟨h.1.kept h1, fun f hf ha => by rw [h2 f hf ha]; exact h.2 f hf ha⟩
theorem Oq.world {G : Ly} {w w2 : Wd} {o c : Nat} {H : Heap} (h : Oq G w o c H) (e : w2 o = w o) : Oq G w2 o c H := by
  refine ⟨h.1.to fun f hf => ?_, fun f hf ha => ?_⟩
  · unfold fval; rw [e]
  · rw [h.2 f hf ha]; unfold acell; rw [e]
theorem Hold.keptA {G : Ly} {w : Wd} {H H1 : Heap} (h : Hold G w H) (hk : ∀ q, gA G q → H1[q]? = H[q]?) : Hold G w H1 := fun o c ho =>
  ⟨(h o c ho).1.kept (hk _ (gA_o ho)), fun f hf ha => by rw [hk _ (gA_a ho hf ha)]; exact (h o c ho).2 f hf ha⟩
theorem Hold.lt {G : Ly} {w : Wd} {H : Heap} (h : Hold G w H) {q : Nat} (hq : gA G q) : q < H.size := by
  obtain ⟨o, c, ho, hq⟩ := hq
  obtain ⟨⟨cell, q1, -⟩, h2⟩ := h o c ho
  rcases hq with rfl | ⟨f, hf, ha, rfl⟩
  · exact (Array.getElem?_eq_some_iff.mp q1).1
  · exact (Array.getElem?_eq_some_iff.mp (h2 f hf ha)).1
theorem gA_R {G : Ly} {B : Nat → Bool} {q : Nat} (h : gA (gR G B) q) : gA G q := by
  obtain ⟨o, c, ho, hq⟩ := h
  exact ⟨o, c, (gR_ob ho).2, hq⟩
theorem ap_R {G : Ly} {B : Nat → Bool} (h : Ap G) : Ap (gR G B) :=
  ⟨fun o c o' c' h1 h2 e => h.1 o c o' c' (gR_ob h1).2 (gR_ob h2).2 e, fun o c o' c' f f' h1 h2 a1 a2 b1 b2 e => h.2.1 o c o' c' f f' (gR_ob h1).2 (gR_ob h2).2 a1 a2 b1 b2 e, fun o c o' c' f' h1 h2 a b => h.2.2 o c o' c' f' (gR_ob h1).2 (gR_ob h2).2 a b⟩
theorem sx_R {G : Ly} {B : Nat → Bool} {U : State} {H : Heap} (h : Sx G U H) : Sx (gR G B) U H :=
  ⟨ap_R h.1, h.2.1, h.2.2.1, fun k hk => ⟨(h.2.2.2 k hk).1.narrow (fun _ z => gA_R z), (h.2.2.2 k hk).2.narrow (fun _ z => gA_R z)⟩⟩
theorem Sx.goA {G : Ly} {A : Nat → Prop} {s U : State} {H : Heap} {locs : List Loc} (h : Sx G s s.heap) (hA : ∀ q, q < s.heap.size → A q → gA G q) (hS : va_S A s.heap H locs) (hU : U.heap = H) (hW : s.WarmedH U.vm) : Sx G U U.heap := by
  obtain ⟨h1, h2, h3, h4⟩ := h
  refine ⟨h1, va_K.moved hW.alike h2, fun w hw => nw_warm hW hw (h3 w hw), fun k hk => ?_⟩
  obtain ⟨a, b⟩ := h4 k hk
  rw [hU]
  exact ⟨va_Z.moved hW.alike (a.kept fun q q1 q2 => hS.2.1 q q1 (fun z => q2 (hA q q1 z))), va_T.moved hW.alike (b.kept fun q q1 q2 => hS.2.1 q q1 (fun z => q2 (hA q q1 z)))⟩
/-- an object that is being made: its set fields (S), its rows that stand (T) -/
def nuV (c f : Nat) : Value := if (fkX c f).1 = 0 ∨ (fkX c f).1 = 6 then .int 0 else .null
def Rq (G : Ly) (w : Wd) (o c : Nat) (S T : List Nat) (H : Heap) : Prop :=
  t_OB (gAd G o) ((gD G).1 c) (nfX c) ((gD G).2 c) H (fun f => if f ∈ S then fval G w o c f else nuV c f) ∧ ∀ f, f ∈ T → H[gAr G o f]? = some (acell G w o f (fkX c f))
def z0 : Nat → Nat → Int := fun _ _ => 0
theorem rq_done {G : Ly} {w : Wd} {o c : Nat} {S T : List Nat} {H : Heap} (h : Rq G w o c S T H) (hw : w o = z0) (hS : ∀ f, f < nfX c → (fkX c f).1 = 0 ∨ (fkX c f).1 = 6 ∨ f ∈ S) (hT : ∀ f, f < nfX c → isA (fkX c f) = true → f ∈ T) : Oq G w o c H := by
  refine ⟨h.1.to fun f hf => ?_, fun f hf ha => h.2 f (hT f hf ha)⟩
  by_cases e : f ∈ S
  · exact if_pos e
  · show (if f ∈ S then fval G w o c f else nuV c f) = fval G w o c f
    rw [if_neg e]
    rcases hS f hf with q | q | q
    · unfold nuV fval
      rw [if_pos (Or.inl q)]
      simp only [q, hw]
      rfl
    · unfold nuV fval
      rw [if_pos (Or.inr q)]
      simp only [q, hw]
      rfl
    · exact absurd q e
theorem rq_kept {G : Ly} {w : Wd} {o c : Nat} {S T : List Nat} {H H1 : Heap} (h : Rq G w o c S T H) (h1 : H1[gAd G o]? = H[gAd G o]?) (h2 : ∀ f, f ∈ T → H1[gAr G o f]? = H[gAr G o f]?) : Rq G w o c S T H1 :=
  ⟨h.1.kept h1, fun f hf => by rw [h2 f hf]; exact h.2 f hf⟩
theorem rq_world {G : Ly} {w w2 : Wd} {o c : Nat} {S T : List Nat} {H : Heap} (h : Rq G w o c S T H) (e : w2 o = w o) : Rq G w2 o c S T H := by
  refine ⟨h.1.to fun f hf => ?_, fun f hf => ?_⟩
  · unfold fval; rw [e]
  · rw [h.2 f hf]; unfold acell; rw [e]
theorem rq_lt {G : Ly} {w : Wd} {o c : Nat} {S T : List Nat} {H : Heap} (h : Rq G w o c S T H) : gAd G o < H.size ∧ ∀ f, f ∈ T → gAr G o f < H.size := by
  obtain ⟨⟨cell, q1, -⟩, h2⟩ := h
  exact ⟨(Array.getElem?_eq_some_iff.mp q1).1, fun f hf => (Array.getElem?_eq_some_iff.mp (h2 f hf)).1⟩
/-- holds on when cells are added; when the cell a is changed -/
def Ext (P : Heap → Prop) : Prop := ∀ H H1 : Heap, P H → (∀ q, q < H.size → H1[q]? = H[q]?) → P H1
def Off (a : Nat) (P : Heap → Prop) : Prop := ∀ H H1 : Heap, P H → (∀ q, q ≠ a → H1[q]? = H[q]?) → P H1
theorem ext_hold {G : Ly} {w : Wd} : Ext (Hold G w) := fun H H1 h hk => h.keptA (fun q hq => hk q (h.lt hq))
theorem off_hold {G : Ly} {w : Wd} {a : Nat} (ha : ¬ gA G a) : Off a (Hold G w) := fun H H1 h hk => h.keptA (fun q hq => hk q (fun z => ha (z ▸ hq)))
/-- what held when the heap had N cells, of these cells -/
def Pa (N : Nat) (P : Heap → Prop) : Heap → Prop := fun H1 => ∃ H0 : Heap, P H0 ∧ H0.size = N ∧ ∀ q, q < N → H1[q]? = H0[q]?
theorem pa_ext {N : Nat} {P : Heap → Prop} (h : Ext P) {H : Heap} (a : Pa N P H) : P H := by
  obtain ⟨H0, a1, a2, a3⟩ := a
  exact h H0 H a1 (fun q hq => a3 q (by omega))
theorem pa_kept {N : Nat} {P : Heap → Prop} {H H1 : Heap} (a : Pa N P H) (h : ∀ q, q < N → H1[q]? = H[q]?) : Pa N P H1 := by
  obtain ⟨H0, a1, a2, a3⟩ := a
  exact ⟨H0, a1, a2, fun q hq => (h q hq).trans (a3 q hq)⟩
theorem ext_true : Ext (fun _ => True) := fun _ _ _ _ => trivial
theorem off_true {a : Nat} : Off a (fun _ => True) := fun _ _ _ _ => trivial
theorem ext_rq {G : Ly} {w : Wd} {o c : Nat} {S T : List Nat} : Ext (Rq G w o c S T) := fun H H1 h hk => rq_kept h (hk _ (rq_lt h).1) (fun f hf => hk _ ((rq_lt h).2 f hf))
theorem ext_and {P P' : Heap → Prop} (h : Ext P) (h' : Ext P') : Ext (fun H => P H ∧ P' H) := fun H H1 a b => ⟨h H H1 a.1 b, h' H H1 a.2 b⟩
