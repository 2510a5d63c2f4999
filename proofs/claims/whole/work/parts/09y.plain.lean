/-! methods of classes some of whose methods the machine runs by itself; answers that are given outright -/
theorem met_ofWF {l : Launch} {y : MethodName} {ws ws' : List Cond} {rm : Room} {Pc : Array Value → State → Prop} {Qc : Array Value → State → Outcome → State → Prop} {mc ms : Nat} {free : Addr → Prop} {cc : ByteArray} {maxL : Nat} {ret : Option FieldType}
    (hy : plainFor y = true) (hw : ws = Cond.code y cc maxL ret :: ws')
    (body : ∀ p e s m args below meth c s₁, BodyLoose p l y (headSpec ws rm) cc maxL ret e s m args below meth c s₁ → c.maxLocals = maxL → Pc args s →
      W p l e (headSpec ws rm).room s m args below meth c s.heap [] 0 0 (MQ below Qc args s mc ms free) (entryFrame m args maxL)) : Met l y ws rm Pc Qc mc ms free := by
  refine MetFree.of_bodySF (code := cc) (maxLocals := maxL) (ret := ret) hy ?_ ?_
  · intro args s m h hn
    obtain ⟨meth, c, h1, h2, h3, h4, h5, h6, -, -⟩ := Cond.code_spec hn (atoms_spec (ws := ws) h _ (by rw [hw]; exact List.mem_cons_self))
    exact ⟨meth, c, h1, h2, h3, h4, h5, h6⟩
  · intro p e s m args below meth c s₁ B hml hP _
    have hh0 : s₁.heap = s.heap := by rw [B.state]; rfl
    obtain ⟨t, a1, o, b1, b2, b3⟩ := body p e s m args below meth c s₁ B hml hP s₁ hh0 (Stand.of_body B)
    exact ⟨t, o, a1, b1, b2, ⟨b3.1, b3.2⟩⟩
theorem mi_ofF {l : Launch} {y : MethodName} {b : ByteArray} {n rf rl : Nat} {ret : Option FieldType} {G : Ly} {av : List Value} {w : Wd} {lv : List (Nat × Value)} {post : Int → Wd → Prop} (hy : plainFor y = true) (hn : (lg_sl av).length ≤ n) (hl : lv_args 0 av = lv)
    (h : ∀ p e s m below meth c, Cx p s m av.toArray meth c b n ret y.cls G → Gj p l e (rmX rf rl) s m av.toArray below meth c (Qi below av.toArray s G post) G n 0 lv [] w) : Mi l y b n ret rf rl G av w post := by
  refine met_ofWF (cc := b) (maxL := n) (ret := ret) hy rfl ?_
  intro p e s m args below meth c s₁ B hml hv
  obtain ⟨rfl, hH, hS⟩ := hv
  rw [lg_entry_eq]
  exact h p e s m below meth c (Cx.of B hml hS) s.heap [] _ hH va_S.rf (hl ▸ lv_entry av hn)
section FN
variable {p : Program} {l : Launch} {e : Env} {R : Room} {s : State} {m : MethodId} {args : Array Value} {below : List Frame} {meth : Method} {c : Code} {Q : State → Prop} {G : Ly} {nL pc : Nat} {lv : List (Nat × Value)} {st : List Value}
theorem fn_i {v : Int} {w' : Wd} (k : Gj p l e R s m args below meth c Q G nL pc lv (.int (iI v) :: st) w') : ∀ (z : Int) (w2 : Wd), (z = v ∧ w2 = w') → Gj p l e R s m args below meth c Q G nL pc lv (.int (iI z) :: st) w2 := by
  rintro _ _ ⟨rfl, rfl⟩
  exact k
theorem fn_l {v : Int} {w' : Wd} (k : Gj p l e R s m args below meth c Q G nL pc lv (.long (lI v) :: st) w') : ∀ (z : Int) (w2 : Wd), (z = v ∧ w2 = w') → Gj p l e R s m args below meth c Q G nL pc lv (.long (lI z) :: st) w2 := by
  rintro _ _ ⟨rfl, rfl⟩
  exact k
theorem fn_v {w' : Wd} (k : Gj p l e R s m args below meth c Q G nL pc lv st w') : ∀ (w2 : Wd), w2 = w' → Gj p l e R s m args below meth c Q G nL pc lv st w2 := by
  rintro _ rfl
  exact k
end FN
