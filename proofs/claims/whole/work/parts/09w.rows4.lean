section RD
variable {p : Program} {l : Launch} {e : Env} {R : Room} {s : State} {m : MethodId} {args : Array Value} {below : List Frame} {meth : Method} {c : Code} {Q : State → Prop} {cc : ByteArray} {nL : Nat} {ret : Option FieldType} {own : String} {G : Ly} {pc : Nat} {lv : List (Nat × Value)} {st : List Value} {w : Wd}
theorem h_iald (X : Cx p s m args meth c cc nL ret own G) {ci o f n j : Nat} {a : Int} (hj : a.toNat = j) (ho : gOb G o = some ci) (hf : f < nfX ci) (hk : fkX ci f = (1, n)) (hn : n ≤ 100000) (h0 : 0 ≤ a) (ha : a < (n : Int)) (hd : decode cc pc = .ok (.iaload, 1)) (k : Gj p l e R s m args below meth c Q G nL (pc + 1) lv (.int (iI (w o f j)) :: st) w) : Gj p l e R s m args below meth c Q G nL pc lv (.int (iI a) :: .ref (gAr G o f) :: st) w := by
  subst hj
  exact g_iald X ho hf hk hn h0 ha hd k
theorem h_cald (X : Cx p s m args meth c cc nL ret own G) {ci o f n j : Nat} {a : Int} (hj : a.toNat = j) (ho : gOb G o = some ci) (hf : f < nfX ci) (hk : fkX ci f = (3, n)) (hn : n ≤ 100000) (h0 : 0 ≤ a) (ha : a < (n : Int)) (hd : decode cc pc = .ok (.caload, 1)) (k : Gj p l e R s m args below meth c Q G nL (pc + 1) lv (.int (iI (w o f j)) :: st) w) : Gj p l e R s m args below meth c Q G nL pc lv (.int (iI a) :: .ref (gAr G o f) :: st) w := by
  subst hj
  exact g_cald X ho hf hk hn h0 ha hd k
theorem h_lald (X : Cx p s m args meth c cc nL ret own G) {ci o f n j : Nat} {a : Int} (hj : a.toNat = j) (ho : gOb G o = some ci) (hf : f < nfX ci) (hk : fkX ci f = (2, n)) (hn : n ≤ 100000) (h0 : 0 ≤ a) (ha : a < (n : Int)) (hd : decode cc pc = .ok (.laload, 1)) (k : Gj p l e R s m args below meth c Q G nL (pc + 1) lv (.long (lI (w o f j)) :: st) w) : Gj p l e R s m args below meth c Q G nL pc lv (.int (iI a) :: .ref (gAr G o f) :: st) w := by
  subst hj
  exact g_lald X ho hf hk hn h0 ha hd k
theorem h_iast (X : Cx p s m args meth c cc nL ret own G) {ci o f n j : Nat} {a v : Int} (hj : a.toNat = j) (ho : gOb G o = some ci) (hf : f < nfX ci) (hk : fkX ci f = (1, n)) (hn : n ≤ 100000) (h0 : 0 ≤ a) (ha : a < (n : Int)) (hd : decode cc pc = .ok (.iastore, 1)) (k : Gj p l e R s m args below meth c Q G nL (pc + 1) lv st (up w o f j v)) : Gj p l e R s m args below meth c Q G nL pc lv (.int (iI v) :: .int (iI a) :: .ref (gAr G o f) :: st) w := by
  subst hj
  exact g_iast X ho hf hk hn h0 ha hd k
theorem h_last (X : Cx p s m args meth c cc nL ret own G) {ci o f n j : Nat} {a v : Int} (hj : a.toNat = j) (ho : gOb G o = some ci) (hf : f < nfX ci) (hk : fkX ci f = (2, n)) (hn : n ≤ 100000) (h0 : 0 ≤ a) (ha : a < (n : Int)) (hd : decode cc pc = .ok (.lastore, 1)) (k : Gj p l e R s m args below meth c Q G nL (pc + 1) lv st (up w o f j v)) : Gj p l e R s m args below meth c Q G nL pc lv (.long (lI v) :: .int (iI a) :: .ref (gAr G o f) :: st) w := by
  subst hj
  exact g_last X ho hf hk hn h0 ha hd k
end RD
section RE
variable {p : Program} {l : Launch} {e : Env} {R : Room} {s : State} {m : MethodId} {args : Array Value} {below : List Frame} {meth : Method} {c : Code} {Q : State → Prop} {cc : ByteArray} {nL : Nat} {ret : Option FieldType} {own : String} {G : Ly} {pc : Nat} {lv : List (Nat × Value)} {st : List Value} {w : Wd}
theorem h_slen (X : Cx p s m args meth c cc nL ret own G) (k0 : Nat) (hk : k0 < 9) (v : Int) (hv : ((slX k0).length : Int) = v) (hd : decode cc pc = .ok (.arraylength, 1)) (k : Gj p l e R s m args below meth c Q G nL (pc + 1) lv (.int (iI v) :: st) w) : Gj p l e R s m args below meth c Q G nL pc lv (.ref (gSa G k0) :: st) w := by
  subst hv
  exact g_slen X k0 hk hd k
theorem h_alen (X : Cx p s m args meth c cc nL ret own G) {ci o f n : Nat} (v : Int) (hv : (n : Int) = v) (ho : gOb G o = some ci) (hf : f < nfX ci) (hk : fkX ci f = (1, n)) (hd : decode cc pc = .ok (.arraylength, 1)) (k : Gj p l e R s m args below meth c Q G nL (pc + 1) lv (.int (iI v) :: st) w) : Gj p l e R s m args below meth c Q G nL pc lv (.ref (gAr G o f) :: st) w := by
  subst hv
  exact g_alen X ho hf hk hd k
end RE
