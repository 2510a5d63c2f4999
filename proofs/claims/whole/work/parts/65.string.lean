/-! the text that the class begins with -/
def txS : String := "c10,40,20,9,30,12;c10,40,25,8,20,12;c5,20,8,12,40,6;c20,60,40,7,15,20;r5,3,3,1;h90,60,2;"
def txL : List Int := [99, 49, 48, 44, 52, 48, 44, 50, 48, 44, 57, 44, 51, 48, 44, 49, 50, 59, 99, 49, 48, 44, 52, 48, 44, 50, 53, 44, 56, 44, 50, 48, 44, 49, 50, 59, 99, 53, 44, 50, 48, 44, 56, 44, 49, 50, 44, 52, 48, 44, 54, 59, 99, 50, 48, 44, 54, 48, 44, 52, 48, 44, 55, 44, 49, 53, 44, 50, 48, 59, 114, 53, 44, 51, 44, 51, 44, 49, 59, 104, 57, 48, 44, 54, 48, 44, 50, 59]
def tX (j : Nat) : Int := txL.getD j 0
theorem tx_in : ∀ j : Nat, 0 ≤ tX j ∧ tX j ≤ 126 := by
  have h : ∀ x ∈ txL, 0 ≤ x ∧ x ≤ 126 := by decide +kernel
  intro j
  unfold tX
  rw [List.getD_eq_getElem?_getD]
  cases e : txL[j]? with
  | none => simp
  | some x => simpa [e] using h x (List.mem_of_getElem? e)
def StK (aK aV : Nat) (A : Nat → Prop) (U : State) (H : Heap) : Prop :=
  vk_R "ColdHouse" 63 txS aK U ∧ (va_O "java/lang/String" aK A U H ∧ va_OF "java/lang/String" "coder" "B" (.int (iI 0)) aK A U H ∧ va_OF "java/lang/String" "value" "[B" (.ref aV) aK A U H ∧ va_T .byte aV 88 (fun j => .int (iI (tX j))) A U H) ∧ va_Z "java/lang/String" "COMPACT_STRINGS" "Z" (.int (iI 1)) A U H ∧ va_Zq "jdk/internal/util/Preconditions" "SIOOBE_FORMATTER" "Ljava/util/function/BiFunction;" A U H
theorem StK.go {aK aV : Nat} {A : Nat → Prop} {s U : State} {H : Heap} {locs : List Loc} (h : StK aK aV A s s.heap) (hS : va_S A s.heap H locs) (hU : U.heap = H) (hW : s.WarmedH U.vm) : StK aK aV A U U.heap := by
  obtain ⟨h1, ⟨h2, h3, h4, h5⟩, h6, h7⟩ := h
  have hk := hS.2.1
  rw [hU]
  exact ⟨h1.warm hW, ⟨va_O.moved hW.alike (h2.kept hk), va_OF.moved hW.alike (h3.kept hk), va_OF.moved hW.alike (h4.kept hk), va_T.moved hW.alike (h5.kept hk)⟩, va_Z.moved hW.alike (h6.kept hk), va_Zq.moved hW.alike (h7.kept hk)⟩
theorem StK.call {aK aV : Nat} {A : Nat → Prop} {U : State} {g : JFrame} {mk : MethodId} {a : Array Value} (h : StK aK aV A U U.heap) : StK aK aV A (U.calling g mk a) (U.calling g mk a).heap := by
  obtain ⟨h1, ⟨h2, h3, h4, h5⟩, h6, h7⟩ := h
  have e : U.vm.Alike (U.calling g mk a).vm := Vm.Alike.refl U.vm
  exact ⟨vk_R.same (u := U) rfl h1, ⟨va_O.moved e h2, va_OF.moved e h3, va_OF.moved e h4, va_T.moved e h5⟩, va_Z.moved e h6, va_Zq.moved e h7⟩
theorem StK.narrow {aK aV : Nat} {A B : Nat → Prop} {U : State} {H : Heap} (h : StK aK aV A U H) (hAB : ∀ q, B q → A q) : StK aK aV B U H := by
  obtain ⟨h1, ⟨h2, h3, h4, h5⟩, h6, h7⟩ := h
  exact ⟨h1, ⟨h2.narrow hAB, h3.narrow hAB, h4.narrow hAB, h5.narrow hAB⟩, h6.narrow hAB, h7.narrow hAB⟩
abbrev nA : Nat → Prop := fun _ => False
def Si (l : Launch) (y : MethodName) (b : ByteArray) (n : Nat) (ret : Option FieldType) (rf rl : Nat) (av : List Value) (aK aV : Nat) (r : Int) : Prop :=
  Met l y (.code y b n ret :: gw) (rmX rf rl) (va_Pc av (fun U => StK aK aV nA U U.heap)) (va_Qi (fun (z : Int32) (_ : Unit) => z = iI r) (fun _ _ => True) nA) 0 0 nA
def Sn (l : Launch) (y : MethodName) (b : ByteArray) (n : Nat) (ret : Option FieldType) (rf rl : Nat) (av : List Value) (aK aV : Nat) : Prop :=
  Met l y (.code y b n ret :: gw) (rmX rf rl) (va_Pc av (fun U => StK aK aV nA U U.heap)) (va_Qv (fun (_ : Unit) => True) (fun _ _ => True) nA) 0 0 nA
theorem si_of {l : Launch} {y : MethodName} {b : ByteArray} {n rf rl aK aV : Nat} {ret : Option FieldType} {av : List Value} {lv : List (Nat × Value)} {r : Int} (hy : plainFor y = true) (hn : (lg_sl av).length ≤ n) (hl : lv_args 0 av = lv)
    (h : ∀ p e s m below meth c, Cb p s m av.toArray meth c b n ret y.cls → StK aK aV nA s s.heap → Kj p l e (rmX rf rl) s m av.toArray below meth c (MQ below (va_Qi (fun (z : Int32) (_ : Unit) => z = iI r) (fun _ _ => True) nA) av.toArray s 0 0 nA) nA n 0 0 0 lv [] (fun _ => True)) : Si l y b n ret rf rl av aK aV r := by
  refine met_ofWF (cc := b) (maxL := n) (ret := ret) hy rfl ?_
  intro p e s m args below meth c s₁ B hml hv
  obtain ⟨rfl, hS⟩ := hv
  rw [lg_entry_eq]
  exact h p e s m below meth c ⟨B.exec, B.bytes, hml, findClass_of_methodNamed B.named, fun w hw => atoms_spec (ws := .code y b n ret :: gw) B.pre w (List.mem_cons_of_mem _ hw), B.notSynchronized, B.returns⟩ hS s.heap [] _ trivial rfl va_S.rf (hl ▸ lv_entry av hn)
theorem sn_of {l : Launch} {y : MethodName} {b : ByteArray} {n rf rl aK aV : Nat} {ret : Option FieldType} {av : List Value} {lv : List (Nat × Value)} (hy : plainFor y = true) (hn : (lg_sl av).length ≤ n) (hl : lv_args 0 av = lv)
    (h : ∀ p e s m below meth c, Cb p s m av.toArray meth c b n ret y.cls → StK aK aV nA s s.heap → Kj p l e (rmX rf rl) s m av.toArray below meth c (MQ below (va_Qv (fun (_ : Unit) => True) (fun _ _ => True) nA) av.toArray s 0 0 nA) nA n 0 0 0 lv [] (fun _ => True)) : Sn l y b n ret rf rl av aK aV := by
  refine met_ofWF (cc := b) (maxL := n) (ret := ret) hy rfl ?_
  intro p e s m args below meth c s₁ B hml hv
  obtain ⟨rfl, hS⟩ := hv
  rw [lg_entry_eq]
  exact h p e s m below meth c ⟨B.exec, B.bytes, hml, findClass_of_methodNamed B.named, fun w hw => atoms_spec (ws := .code y b n ret :: gw) B.pre w (List.mem_cons_of_mem _ hw), B.notSynchronized, B.returns⟩ hS s.heap [] _ trivial rfl va_S.rf (hl ▸ lv_entry av hn)
section KS
variable {p : Program} {l : Launch} {e : Env} {R : Room} {s : State} {m : MethodId} {args : Array Value} {below : List Frame} {meth : Method} {c : Code} {Q : State → Prop} {cc : ByteArray} {nL : Nat} {ret : Option FieldType} {own : String} {A : Nat → Prop} {pc kc kn : Nat} {lv : List (Nat × Value)} {st : List Value} {P : Heap → Prop} {aK aV : Nat}
theorem st_blind {av : List Value} : FrameBlind (va_Pc av (fun U => StK aK aV nA U U.heap)) := fun a U g mk h => ⟨h.1, h.2.call⟩
theorem k_scs (X : Cb p s m args meth c cc nL ret own) (hT : StK aK aV A s s.heap) {idx : Nat} (hl : Cond.fieldLink own idx "java/lang/String" "COMPACT_STRINGS" "Z" ∈ gw) (hd : decode cc pc = .ok (.getstatic idx, 3)) (k : Kj p l e R s m args below meth c Q A nL kc kn (pc + 3) lv (.int (iI 1) :: st) P) : Kj p l e R s m args below meth c Q A nL kc kn pc lv st P :=
  fun H locs ls h1 hz h2 h3 => va_gets X.1 X.2.1 hT.2.2.1 h2 X.2.2.2.1 (X.2.2.2.2.1 _ hl) (fun _ h => h) hd (k H locs ls h1 hz h2 h3)
theorem k_scod (X : Cb p s m args meth c cc nL ret own) (hT : StK aK aV A s s.heap) {idx : Nat} (hl : Cond.fieldLink own idx "java/lang/String" "coder" "B" ∈ gw) (hd : decode cc pc = .ok (.getfield idx, 3)) (k : Kj p l e R s m args below meth c Q A nL kc kn (pc + 3) lv (.int (iI 0) :: st) P) : Kj p l e R s m args below meth c Q A nL kc kn pc lv (.ref aK :: st) P :=
  fun H locs ls h1 hz h2 h3 => vk_getf X.1 X.2.1 hT.2.1.2.1 h2 X.2.2.2.1 (X.2.2.2.2.1 _ hl) (fun _ h => h) hd (k H locs ls h1 hz h2 h3)
theorem k_sval (X : Cb p s m args meth c cc nL ret own) (hT : StK aK aV A s s.heap) {idx : Nat} (hl : Cond.fieldLink own idx "java/lang/String" "value" "[B" ∈ gw) (hd : decode cc pc = .ok (.getfield idx, 3)) (k : Kj p l e R s m args below meth c Q A nL kc kn (pc + 3) lv (.ref aV :: st) P) : Kj p l e R s m args below meth c Q A nL kc kn pc lv (.ref aK :: st) P :=
  fun H locs ls h1 hz h2 h3 => vk_getf X.1 X.2.1 hT.2.1.2.2.1 h2 X.2.2.2.1 (X.2.2.2.2.1 _ hl) (fun _ h => h) hd (k H locs ls h1 hz h2 h3)
theorem k_sblen (X : Cb p s m args meth c cc nL ret own) (hT : StK aK aV A s s.heap) (hd : decode cc pc = .ok (.arraylength, 1)) (k : Kj p l e R s m args below meth c Q A nL kc kn (pc + 1) lv (.int (iI 88) :: st) P) : Kj p l e R s m args below meth c Q A nL kc kn pc lv (.ref aV :: st) P :=
  fun H locs ls h1 hz h2 h3 => va_tlen X.1 X.2.1 hT.2.1.2.2.2 h2 (v := iI 88) rfl hd (k H locs ls h1 hz h2 h3)
theorem k_sbald (X : Cb p s m args meth c cc nL ret own) (hT : StK aK aV A s s.heap) {i : Int} (hi : 0 ≤ i ∧ i < 88) (hd : decode cc pc = .ok (.baload, 1)) (k : Kj p l e R s m args below meth c Q A nL kc kn (pc + 1) lv (.int (iI (tX i.toNat)) :: st) P) : Kj p l e R s m args below meth c Q A nL kc kn pc lv (.int (iI i) :: .ref aV :: st) P :=
  fun H locs ls h1 hz h2 h3 => va_tb X.1 X.2.1 hT.2.1.2.2.2 h2 (iI_in hi.1 hi.2 (by decide)) (v := .int (iI (tX i.toNat))) (by rw [iI_clamp hi.1 (by omega)]) hd (k H locs ls h1 hz h2 h3)
theorem k_sV (X : Cb p s m args meth c cc nL ret own) (hT : StK aK aV A s s.heap) {y : MethodName} {b : ByteArray} {n rf rl np idx : Nat} {rt : Option FieldType} {r : Int} {As stk : List Value} (hM : Si l y b n rt rf rl (.ref aK :: As) aK aV r) (hc : CM y b n rt np) (hi : Cond.instanceMethod y ∈ gw) (hse : Cond.selects "java/lang/String" y y ∈ gw) (hl : Cond.methodLink own idx y ∈ gw) (hR : rf + 1 ≤ R.frames ∧ 8 + (n + 11) + rl ≤ R.locals) (hRc : kc ≤ R.cells ∧ kn ≤ R.slots) (hn : As.length = np) (hst : stk = As.reverse ++ .ref aK :: st) (hcat : (st.map fun v => v.category).sum ≤ 8) (hd : decode cc pc = .ok (.invokevirtual idx, 3)) (hE : Ext P)
    (k : Kj p l e R s m args below meth c Q A nL kc kn (pc + 3) lv (.int (iI r) :: st) P) : Kj p l e R s m args below meth c Q A nL kc kn pc lv stk P := by
  have ht := X.2.2.2.2.1
  refine k_calli (A1 := nA) (fun H locs ls h1 hz h2 h3 => va_runV (Ts := gw) ⟨X.1, X.2.1, X.2.2.1, X.2.2.2.1, ht⟩ hM ⟨callB_of np ht (giY hc.1) rfl rfl rfl (ht _ hc.2.1) (ht _ hl) hc.2.2 hR, ht _ hi, ht _ hse⟩ ⟨st_blind, ?_, fun U hU hW => ⟨rfl, (hT.go h2 hU hW).narrow (fun _ z => z.elim)⟩⟩ rfl hn h3.1 hst (lv_room hcat) hd hRc) (fun q z => z.elim) (fun z u hp => ?_)
  · obtain ⟨cell, q1, q2, q3, -⟩ := hT.2.1.1.kept h2.2.1
    exact ⟨cell, q1, q2, q3⟩
  · rw [hp]
    exact k_wk (fun H1 _ ⟨t, H, a1, a2, a3, a4, a5⟩ => hE H H1 a3 (fun q hq => a5 q hq (fun z => z))) k
theorem k_sS (X : Cb p s m args meth c cc nL ret own) (hT : StK aK aV A s s.heap) {y : MethodName} {b : ByteArray} {n rf rl np idx : Nat} {rt : Option FieldType} {r : Int} {As stk : List Value} (hM : Si l y b n rt rf rl As aK aV r) (hc : CM y b n rt np) (hs : Cond.static y ∈ gw) (hl : Cond.methodLink own idx y ∈ gw) (hR : rf + 1 ≤ R.frames ∧ 8 + (n + 11) + rl ≤ R.locals) (hRc : kc ≤ R.cells ∧ kn ≤ R.slots) (hn : As.length = np) (hst : stk = As.reverse ++ st) (hcat : (st.map fun v => v.category).sum ≤ 8) (hd : decode cc pc = .ok (.invokestatic idx, 3)) (hE : Ext P)
    (k : Kj p l e R s m args below meth c Q A nL kc kn (pc + 3) lv (.int (iI r) :: st) P) : Kj p l e R s m args below meth c Q A nL kc kn pc lv stk P := by
  have ht := X.2.2.2.2.1
  refine k_calli (A1 := nA) (fun H locs ls h1 hz h2 h3 => va_runS (Ts := gw) ⟨X.1, X.2.1, X.2.2.1, X.2.2.2.1, ht⟩ hM ⟨callB_of np ht (giY hc.1) rfl rfl rfl (ht _ hc.2.1) (ht _ hl) hc.2.2 hR, ht _ hs⟩ ⟨st_blind, fun U hU hW => ⟨rfl, (hT.go h2 hU hW).narrow (fun _ z => z.elim)⟩⟩ rfl hn h3.1 hst (lv_room hcat) hd hRc) (fun q z => z.elim) (fun z u hp => ?_)
  rw [hp]
  exact k_wk (fun H1 _ ⟨t, H, a1, a2, a3, a4, a5⟩ => hE H H1 a3 (fun q hq => a5 q hq (fun z => z))) k
theorem k_sN (X : Cb p s m args meth c cc nL ret own) (hT : StK aK aV A s s.heap) {y : MethodName} {b : ByteArray} {n rf rl np idx : Nat} {As stk : List Value} (hM : Sn l y b n none rf rl As aK aV) (hc : CM y b n none np) (hs : Cond.static y ∈ gw) (hl : Cond.methodLink own idx y ∈ gw) (hR : rf + 1 ≤ R.frames ∧ 8 + (n + 11) + rl ≤ R.locals) (hRc : kc ≤ R.cells ∧ kn ≤ R.slots) (hn : As.length = np) (hst : stk = As.reverse ++ st) (hcat : (st.map fun v => v.category).sum ≤ 8) (hd : decode cc pc = .ok (.invokestatic idx, 3)) (hE : Ext P)
    (k : Kj p l e R s m args below meth c Q A nL kc kn (pc + 3) lv st P) : Kj p l e R s m args below meth c Q A nL kc kn pc lv stk P := by
  have ht := X.2.2.2.2.1
  refine k_callv (mc := 0) (ms := 0) (A1 := nA) (fun H locs ls h1 hz h2 h3 => va_runS (Ts := gw) ⟨X.1, X.2.1, X.2.2.1, X.2.2.2.1, ht⟩ hM ⟨callB_of np ht (giY hc.1) rfl rfl rfl (ht _ hc.2.1) (ht _ hl) hc.2.2 hR, ht _ hs⟩ ⟨st_blind, fun U hU hW => ⟨rfl, (hT.go h2 hU hW).narrow (fun _ z => z.elim)⟩⟩ rfl hn h3.1 hst (lv_room hcat) hd hRc) (fun q z => z.elim) (fun u t _ _ h => h) (fun u hp => ?_)
  exact k_wk (fun H1 _ ⟨t, H, a1, a2, a3, a4, a5⟩ => hE H H1 a3 (fun q hq => a5 q hq (fun z => z))) k
end KS
set_option maxHeartbeats 4000000 in
set_option maxRecDepth 100000 in
theorem c_J0_coder (l : Launch) (aK aV : Nat) : Si l yJ0_coder_7d493 cJ0_coder_7d493 1 (some .byte) 0 0 [.ref aK] aK aV (0) := by
  refine si_of (by decide +kernel) (Nat.le_of_ble_eq_true rfl) rfl ?_
  intro p e s m below meth c X hT
  refine k_scs X hT fl_J0_38 dJ0_coder_7d493_0 ?_
  refine k_if_eq X dJ0_coder_7d493_3 (tgt := 13) rfl ⟨by decide, by decide⟩ (fun q => absurd q (by decide)) (fun _ => ?_)
  refine k_aload_n X dJ0_coder_7d493_6 rfl 0 rfl ?_
  refine k_scod X hT fl_J0_15 dJ0_coder_7d493_7 ?_
  refine k_goto X dJ0_coder_7d493_10 (tgt := 14) rfl ?_
  exact k_iret X rfl rfl dJ0_coder_7d493_14 () rfl (fun _ _ _ => trivial)
set_option maxHeartbeats 4000000 in
set_option maxRecDepth 100000 in
theorem c_J0_isLatin1 (l : Launch) (aK aV : Nat) : Si l yJ0_isLatin1_aae02 cJ0_isLatin1_aae02 1 (some .boolean) 0 0 [.ref aK] aK aV (1) := by
  refine si_of (by decide +kernel) (Nat.le_of_ble_eq_true rfl) rfl ?_
  intro p e s m below meth c X hT
  refine k_scs X hT fl_J0_38 dJ0_isLatin1_aae02_0 ?_
  refine k_if_eq X dJ0_isLatin1_aae02_3 (tgt := 17) rfl ⟨by decide, by decide⟩ (fun q => absurd q (by decide)) (fun _ => ?_)
  refine k_aload_n X dJ0_isLatin1_aae02_6 rfl 0 rfl ?_
  refine k_scod X hT fl_J0_15 dJ0_isLatin1_aae02_7 ?_
  refine k_if_ne X dJ0_isLatin1_aae02_10 (tgt := 17) rfl ⟨by decide, by decide⟩ (fun q => absurd rfl q) (fun _ => ?_)
  refine k_iconst X dJ0_isLatin1_aae02_13 ?_
  refine k_goto X dJ0_isLatin1_aae02_14 (tgt := 18) rfl ?_
  exact k_iret X rfl rfl dJ0_isLatin1_aae02_18 () rfl (fun _ _ _ => trivial)
set_option maxHeartbeats 4000000 in
set_option maxRecDepth 100000 in
theorem c_J0_length (l : Launch) (aK aV : Nat) : Si l yJ0_length_8abf5 cJ0_length_8abf5 1 (some .int) 1 20 [.ref aK] aK aV (88) := by
  refine si_of (by decide +kernel) (Nat.le_of_ble_eq_true rfl) rfl ?_
  intro p e s m below meth c X hT
  refine k_aload_n X dJ0_length_8abf5_0 rfl 0 rfl ?_
  refine k_sval X hT fl_J0_9 dJ0_length_8abf5_1 ?_
  refine k_sblen X hT dJ0_length_8abf5_4 ?_
  refine k_aload_n X dJ0_length_8abf5_5 rfl 0 rfl ?_
  refine k_sV (st := [.int (iI 88)]) X hT (c_J0_coder l aK aV) cm_J0_coder_7d493 im_J0_coder_7d493 se_J0_coder_7d493 ml_J0_335 ⟨(Nat.le_of_ble_eq_true rfl), (Nat.le_of_ble_eq_true rfl)⟩ ⟨Nat.zero_le _, Nat.zero_le _⟩ rfl rfl (Nat.le_of_ble_eq_true rfl) dJ0_length_8abf5_6 ext_true ?_
  refine k_ishr X dJ0_length_8abf5_9 ?_
  exact k_iret X rfl rfl dJ0_length_8abf5_10 () (by decide) (fun _ _ _ => trivial)
set_option maxHeartbeats 4000000 in
set_option maxRecDepth 100000 in
theorem c_J3_check (l : Launch) (aK aV : Nat) (i : Int) (v : Value) (hi : 0 ≤ i ∧ i < 88) (hv : v = .null ∨ ∃ t, v = .ref t) : Si l yJ3_checkIndex_8e157 cJ3_checkIndex_8e157 3 (some .int) 0 0 [.int (iI i), .int (iI 88), v] aK aV (i) := by
  have hl3 : (lg_sl [Value.int (iI i), .int (iI 88), v]).length ≤ 3 := by
    rcases hv with rfl | ⟨t, rfl⟩ <;> exact Nat.le_of_ble_eq_true rfl
  refine si_of (by decide +kernel) hl3 rfl ?_
  intro p e s m below meth c X hT
  refine k_iload_n X dJ3_checkIndex_8e157_0 rfl 0 rfl ?_
  refine k_if_lt X dJ3_checkIndex_8e157_1 (tgt := 9) rfl ⟨by omega, by omega⟩ (fun q => by omega) (fun _ => ?_)
  refine k_iload_n X dJ3_checkIndex_8e157_4 rfl 0 rfl ?_
  refine k_iload_n X dJ3_checkIndex_8e157_5 rfl 1 rfl ?_
  refine k_icmp_lt X dJ3_checkIndex_8e157_6 (tgt := 16) rfl ⟨by omega, by omega⟩ ⟨by decide, by decide⟩ (fun _ => ?_) (fun q => by omega)
  refine k_iload_n X dJ3_checkIndex_8e157_16 rfl 0 rfl ?_
  exact k_iret X rfl rfl dJ3_checkIndex_8e157_17 () rfl (fun _ _ _ => trivial)
set_option maxHeartbeats 4000000 in
set_option maxRecDepth 100000 in
theorem c_J0_check (l : Launch) (aK aV : Nat) (i : Int) (hi : 0 ≤ i ∧ i < 88) : Sn l yJ0_checkIndex_df160 cJ0_checkIndex_df160 2 none 1 22 [.int (iI i), .int (iI 88)] aK aV := by
  refine sn_of (by decide +kernel) (Nat.le_of_ble_eq_true rfl) rfl ?_
  intro p e s m below meth c X hT
  refine k_iload_n X dJ0_checkIndex_df160_0 rfl 0 rfl ?_
  refine k_iload_n X dJ0_checkIndex_df160_1 rfl 1 rfl ?_
  have go : ∀ v : Value, (v = .null ∨ ∃ t, v = .ref t) → Kj p l e (rmX 1 22) s m ([.int (iI i), .int (iI 88)] : List Value).toArray below meth c (MQ below (va_Qv (fun (_ : Unit) => True) (fun _ _ => True) nA) ([.int (iI i), .int (iI 88)] : List Value).toArray s 0 0 nA) nA 2 0 0 5 [(0, .int (iI i)), (1, .int (iI 88))] [v, .int (iI 88), .int (iI i)] (fun _ => True) := by
    intro v hv
    refine k_sS (st := []) X hT (c_J3_check l aK aV i v hi hv) cm_J3_checkIndex_8e157 sm_J3_checkIndex_8e157 ml_J0_1059 ⟨(Nat.le_of_ble_eq_true rfl), (Nat.le_of_ble_eq_true rfl)⟩ ⟨Nat.zero_le _, Nat.zero_le _⟩ rfl rfl (Nat.le_of_ble_eq_true rfl) dJ0_checkIndex_df160_5 ext_true ?_
    refine k_pop X dJ0_checkIndex_df160_8 rfl ?_
    exact k_vret X rfl dJ0_checkIndex_df160_9 () trivial (fun _ _ _ => trivial)
  intro H locs ls h1 hz h2 h3
  rcases hT.2.2.2 with hZ | ⟨t, hZ⟩
  · exact va_gets X.1 X.2.1 hZ h2 X.2.2.2.1 (X.2.2.2.2.1 _ fl_J0_1053) (fun _ h => h) dJ0_checkIndex_df160_2 (go _ (Or.inl rfl) H locs ls h1 hz h2 h3)
  · exact va_gets X.1 X.2.1 hZ h2 X.2.2.2.1 (X.2.2.2.2.1 _ fl_J0_1053) (fun _ h => h) dJ0_checkIndex_df160_2 (go _ (Or.inr ⟨t, rfl⟩) H locs ls h1 hz h2 h3)
theorem tx_c : ∀ j : Nat, j2c (band (tX j) 255) = tX j := by
  have h : ∀ x ∈ txL, j2c (band x 255) = x := by decide +kernel
  intro j
  unfold tX
  rw [List.getD_eq_getElem?_getD]
  cases e : txL[j]? with
  | none => decide +kernel
  | some x => simpa [e] using h x (List.mem_of_getElem? e)
theorem tx_n : ∀ j : Nat, narrow .char (.int (iI (tX j))) = .int (iI (tX j)) := by
  have h : ∀ x ∈ txL, (((iI x).toUInt32 % 65536).toInt32) = iI x := by decide +kernel
  intro j
  have e2 : (((iI (tX j)).toUInt32 % 65536).toInt32) = iI (tX j) := by
    unfold tX
    rw [List.getD_eq_getElem?_getD]
    cases e : txL[j]? with
    | none => decide +kernel
    | some x => simpa [e] using h x (List.mem_of_getElem? e)
  exact congrArg Value.int e2
set_option maxHeartbeats 4000000 in
set_option maxRecDepth 100000 in
theorem c_J1_charAt (l : Launch) (aK aV : Nat) (i : Int) (hi : 0 ≤ i ∧ i < 88) : Si l yJ1_charAt_3b067 cJ1_charAt_3b067 2 (some .char) 2 43 [.ref aV, .int (iI i)] aK aV (tX i.toNat) := by
  refine si_of (by decide +kernel) (Nat.le_of_ble_eq_true rfl) rfl ?_
  intro p e s m below meth c X hT
  refine k_iload_n X dJ1_charAt_3b067_0 rfl 1 rfl ?_
  refine k_aload_n X dJ1_charAt_3b067_1 rfl 0 rfl ?_
  refine k_sblen X hT dJ1_charAt_3b067_2 ?_
  refine k_sN (st := []) X hT (c_J0_check l aK aV i hi) cm_J0_checkIndex_df160 sm_J0_checkIndex_df160 ml_J1_9 ⟨(Nat.le_of_ble_eq_true rfl), (Nat.le_of_ble_eq_true rfl)⟩ ⟨Nat.zero_le _, Nat.zero_le _⟩ rfl rfl (Nat.le_of_ble_eq_true rfl) dJ1_charAt_3b067_3 ext_true ?_
  refine k_aload_n X dJ1_charAt_3b067_6 rfl 0 rfl ?_
  refine k_iload_n X dJ1_charAt_3b067_7 rfl 1 rfl ?_
  refine k_sbald X hT hi dJ1_charAt_3b067_8 ?_
  refine k_sipush X dJ1_charAt_3b067_9 rfl ?_
  refine k_iand X dJ1_charAt_3b067_12 ?_
  refine k_i2c X dJ1_charAt_3b067_13 ?_
  rw [tx_c]
  exact k_iret X rfl (tx_n _) dJ1_charAt_3b067_14 () rfl (fun _ _ _ => trivial)
set_option maxHeartbeats 4000000 in
set_option maxRecDepth 100000 in
theorem c_J0_charAt (l : Launch) (aK aV : Nat) (i : Int) (hi : 0 ≤ i ∧ i < 88) : Si l yJ0_charAt_5068e cJ0_charAt_5068e 2 (some .char) 4 85 [.ref aK, .int (iI i)] aK aV (tX i.toNat) := by
  refine si_of (by decide +kernel) (Nat.le_of_ble_eq_true rfl) rfl ?_
  intro p e s m below meth c X hT
  refine k_aload_n X dJ0_charAt_5068e_0 rfl 0 rfl ?_
  refine k_sV (st := []) X hT (c_J0_isLatin1 l aK aV) cm_J0_isLatin1_aae02 im_J0_isLatin1_aae02 se_J0_isLatin1_aae02 ml_J0_492 ⟨(Nat.le_of_ble_eq_true rfl), (Nat.le_of_ble_eq_true rfl)⟩ ⟨Nat.zero_le _, Nat.zero_le _⟩ rfl rfl (Nat.le_of_ble_eq_true rfl) dJ0_charAt_5068e_1 ext_true ?_
  refine k_if_eq X dJ0_charAt_5068e_4 (tgt := 16) rfl ⟨by decide, by decide⟩ (fun q => absurd q (by decide)) (fun _ => ?_)
  refine k_aload_n X dJ0_charAt_5068e_7 rfl 0 rfl ?_
  refine k_sval X hT fl_J0_9 dJ0_charAt_5068e_8 ?_
  refine k_iload_n X dJ0_charAt_5068e_11 rfl 1 rfl ?_
  refine k_sS (st := []) X hT (c_J1_charAt l aK aV i hi) cm_J1_charAt_3b067 sm_J1_charAt_3b067 ml_J0_495 ⟨(Nat.le_of_ble_eq_true rfl), (Nat.le_of_ble_eq_true rfl)⟩ ⟨Nat.zero_le _, Nat.zero_le _⟩ rfl rfl (Nat.le_of_ble_eq_true rfl) dJ0_charAt_5068e_12 ext_true ?_
  exact k_iret X rfl (tx_n _) dJ0_charAt_5068e_15 () rfl (fun _ _ _ => trivial)
