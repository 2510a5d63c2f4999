section RB
variable {p : Program} {l : Launch} {e : Env} {R : Room} {s : State} {m : MethodId} {args : Array Value} {below : List Frame} {meth : Method} {c : Code} {Q : State → Prop} {cc : ByteArray} {nL : Nat} {ret : Option FieldType} {own : String} {G : Ly} {pc : Nat} {lv : List (Nat × Value)} {st : List Value} {w : Wd}
theorem g_icmp_eq (X : Cx p s m args meth c cc nL ret own G) {a b : Int} {off : Int} {tgt : Nat} (hd : decode cc pc = .ok (.if_icmp .eq off, 3)) (ht : (pc : Int) + off = (tgt : Int)) (ha : InR a) (hb : InR b) (kt : a = b → Gj p l e R s m args below meth c Q G nL tgt lv st w) (kf : ¬ (a = b) → Gj p l e R s m args below meth c Q G nL (pc + 3) lv st w) : Gj p l e R s m args below meth c Q G nL pc lv (.int (iI b) :: .int (iI a) :: st) w :=
  fun H locs ls h1 h2 h3 => lv_icmp_eq X.1.1 X.1.2.1 hd ht (fun q => kt ((iI_eq ha hb).mp q) H locs ls h1 h2 h3) (fun q => kf (fun z => q ((iI_eq ha hb).mpr z)) H locs ls h1 h2 h3)
theorem g_if_eq (X : Cx p s m args meth c cc nL ret own G) {a : Int} {off : Int} {tgt : Nat} (hd : decode cc pc = .ok (.ifCond .eq off, 3)) (ht : (pc : Int) + off = (tgt : Int)) (ha : InR a) (kt : a = 0 → Gj p l e R s m args below meth c Q G nL tgt lv st w) (kf : ¬ (a = 0) → Gj p l e R s m args below meth c Q G nL (pc + 3) lv st w) : Gj p l e R s m args below meth c Q G nL pc lv (.int (iI a) :: st) w :=
  fun H locs ls h1 h2 h3 => lv_if_eq X.1.1 X.1.2.1 hd ht (fun q => kt ((iI_eq ha inR_zero).mp q) H locs ls h1 h2 h3) (fun q => kf (fun z => q ((iI_eq ha inR_zero).mpr z)) H locs ls h1 h2 h3)
theorem g_icmp_ne (X : Cx p s m args meth c cc nL ret own G) {a b : Int} {off : Int} {tgt : Nat} (hd : decode cc pc = .ok (.if_icmp .ne off, 3)) (ht : (pc : Int) + off = (tgt : Int)) (ha : InR a) (hb : InR b) (kt : a ≠ b → Gj p l e R s m args below meth c Q G nL tgt lv st w) (kf : ¬ (a ≠ b) → Gj p l e R s m args below meth c Q G nL (pc + 3) lv st w) : Gj p l e R s m args below meth c Q G nL pc lv (.int (iI b) :: .int (iI a) :: st) w :=
  fun H locs ls h1 h2 h3 => lv_icmp_ne X.1.1 X.1.2.1 hd ht (fun q => kt (fun z => q ((iI_eq ha hb).mpr z)) H locs ls h1 h2 h3) (fun q => kf (fun z => z ((iI_eq ha hb).mp q)) H locs ls h1 h2 h3)
theorem g_if_ne (X : Cx p s m args meth c cc nL ret own G) {a : Int} {off : Int} {tgt : Nat} (hd : decode cc pc = .ok (.ifCond .ne off, 3)) (ht : (pc : Int) + off = (tgt : Int)) (ha : InR a) (kt : a ≠ 0 → Gj p l e R s m args below meth c Q G nL tgt lv st w) (kf : ¬ (a ≠ 0) → Gj p l e R s m args below meth c Q G nL (pc + 3) lv st w) : Gj p l e R s m args below meth c Q G nL pc lv (.int (iI a) :: st) w :=
  fun H locs ls h1 h2 h3 => lv_if_ne X.1.1 X.1.2.1 hd ht (fun q => kt (fun z => q ((iI_eq ha inR_zero).mpr z)) H locs ls h1 h2 h3) (fun q => kf (fun z => z ((iI_eq ha inR_zero).mp q)) H locs ls h1 h2 h3)
theorem g_icmp_lt (X : Cx p s m args meth c cc nL ret own G) {a b : Int} {off : Int} {tgt : Nat} (hd : decode cc pc = .ok (.if_icmp .lt off, 3)) (ht : (pc : Int) + off = (tgt : Int)) (ha : InR a) (hb : InR b) (kt : a < b → Gj p l e R s m args below meth c Q G nL tgt lv st w) (kf : ¬ (a < b) → Gj p l e R s m args below meth c Q G nL (pc + 3) lv st w) : Gj p l e R s m args below meth c Q G nL pc lv (.int (iI b) :: .int (iI a) :: st) w :=
  fun H locs ls h1 h2 h3 => lv_icmp_lt X.1.1 X.1.2.1 hd ht (fun q => kt ((iI_lt ha hb).mp q) H locs ls h1 h2 h3) (fun q => kf (fun z => q ((iI_lt ha hb).mpr z)) H locs ls h1 h2 h3)
theorem g_if_lt (X : Cx p s m args meth c cc nL ret own G) {a : Int} {off : Int} {tgt : Nat} (hd : decode cc pc = .ok (.ifCond .lt off, 3)) (ht : (pc : Int) + off = (tgt : Int)) (ha : InR a) (kt : a < 0 → Gj p l e R s m args below meth c Q G nL tgt lv st w) (kf : ¬ (a < 0) → Gj p l e R s m args below meth c Q G nL (pc + 3) lv st w) : Gj p l e R s m args below meth c Q G nL pc lv (.int (iI a) :: st) w :=
  fun H locs ls h1 h2 h3 => lv_if_lt X.1.1 X.1.2.1 hd ht (fun q => kt ((iI_lt ha inR_zero).mp q) H locs ls h1 h2 h3) (fun q => kf (fun z => q ((iI_lt ha inR_zero).mpr z)) H locs ls h1 h2 h3)
theorem g_icmp_ge (X : Cx p s m args meth c cc nL ret own G) {a b : Int} {off : Int} {tgt : Nat} (hd : decode cc pc = .ok (.if_icmp .ge off, 3)) (ht : (pc : Int) + off = (tgt : Int)) (ha : InR a) (hb : InR b) (kt : b ≤ a → Gj p l e R s m args below meth c Q G nL tgt lv st w) (kf : ¬ (b ≤ a) → Gj p l e R s m args below meth c Q G nL (pc + 3) lv st w) : Gj p l e R s m args below meth c Q G nL pc lv (.int (iI b) :: .int (iI a) :: st) w :=
  fun H locs ls h1 h2 h3 => lv_icmp_ge X.1.1 X.1.2.1 hd ht (fun q => kt ((iI_le hb ha).mp q) H locs ls h1 h2 h3) (fun q => kf (fun z => q ((iI_le hb ha).mpr z)) H locs ls h1 h2 h3)
theorem g_if_ge (X : Cx p s m args meth c cc nL ret own G) {a : Int} {off : Int} {tgt : Nat} (hd : decode cc pc = .ok (.ifCond .ge off, 3)) (ht : (pc : Int) + off = (tgt : Int)) (ha : InR a) (kt : 0 ≤ a → Gj p l e R s m args below meth c Q G nL tgt lv st w) (kf : ¬ (0 ≤ a) → Gj p l e R s m args below meth c Q G nL (pc + 3) lv st w) : Gj p l e R s m args below meth c Q G nL pc lv (.int (iI a) :: st) w :=
  fun H locs ls h1 h2 h3 => lv_if_ge X.1.1 X.1.2.1 hd ht (fun q => kt ((iI_le inR_zero ha).mp q) H locs ls h1 h2 h3) (fun q => kf (fun z => q ((iI_le inR_zero ha).mpr z)) H locs ls h1 h2 h3)
theorem g_icmp_gt (X : Cx p s m args meth c cc nL ret own G) {a b : Int} {off : Int} {tgt : Nat} (hd : decode cc pc = .ok (.if_icmp .gt off, 3)) (ht : (pc : Int) + off = (tgt : Int)) (ha : InR a) (hb : InR b) (kt : b < a → Gj p l e R s m args below meth c Q G nL tgt lv st w) (kf : ¬ (b < a) → Gj p l e R s m args below meth c Q G nL (pc + 3) lv st w) : Gj p l e R s m args below meth c Q G nL pc lv (.int (iI b) :: .int (iI a) :: st) w :=
  fun H locs ls h1 h2 h3 => lv_icmp_gt X.1.1 X.1.2.1 hd ht (fun q => kt ((iI_lt hb ha).mp q) H locs ls h1 h2 h3) (fun q => kf (fun z => q ((iI_lt hb ha).mpr z)) H locs ls h1 h2 h3)
theorem g_if_gt (X : Cx p s m args meth c cc nL ret own G) {a : Int} {off : Int} {tgt : Nat} (hd : decode cc pc = .ok (.ifCond .gt off, 3)) (ht : (pc : Int) + off = (tgt : Int)) (ha : InR a) (kt : 0 < a → Gj p l e R s m args below meth c Q G nL tgt lv st w) (kf : ¬ (0 < a) → Gj p l e R s m args below meth c Q G nL (pc + 3) lv st w) : Gj p l e R s m args below meth c Q G nL pc lv (.int (iI a) :: st) w :=
  fun H locs ls h1 h2 h3 => lv_if_gt X.1.1 X.1.2.1 hd ht (fun q => kt ((iI_lt inR_zero ha).mp q) H locs ls h1 h2 h3) (fun q => kf (fun z => q ((iI_lt inR_zero ha).mpr z)) H locs ls h1 h2 h3)
theorem g_icmp_le (X : Cx p s m args meth c cc nL ret own G) {a b : Int} {off : Int} {tgt : Nat} (hd : decode cc pc = .ok (.if_icmp .le off, 3)) (ht : (pc : Int) + off = (tgt : Int)) (ha : InR a) (hb : InR b) (kt : a ≤ b → Gj p l e R s m args below meth c Q G nL tgt lv st w) (kf : ¬ (a ≤ b) → Gj p l e R s m args below meth c Q G nL (pc + 3) lv st w) : Gj p l e R s m args below meth c Q G nL pc lv (.int (iI b) :: .int (iI a) :: st) w :=
  fun H locs ls h1 h2 h3 => lv_icmp_le X.1.1 X.1.2.1 hd ht (fun q => kt ((iI_le ha hb).mp q) H locs ls h1 h2 h3) (fun q => kf (fun z => q ((iI_le ha hb).mpr z)) H locs ls h1 h2 h3)
theorem g_if_le (X : Cx p s m args meth c cc nL ret own G) {a : Int} {off : Int} {tgt : Nat} (hd : decode cc pc = .ok (.ifCond .le off, 3)) (ht : (pc : Int) + off = (tgt : Int)) (ha : InR a) (kt : a ≤ 0 → Gj p l e R s m args below meth c Q G nL tgt lv st w) (kf : ¬ (a ≤ 0) → Gj p l e R s m args below meth c Q G nL (pc + 3) lv st w) : Gj p l e R s m args below meth c Q G nL pc lv (.int (iI a) :: st) w :=
  fun H locs ls h1 h2 h3 => lv_if_le X.1.1 X.1.2.1 hd ht (fun q => kt ((iI_le ha inR_zero).mp q) H locs ls h1 h2 h3) (fun q => kf (fun z => q ((iI_le ha inR_zero).mpr z)) H locs ls h1 h2 h3)
theorem g_tableIn (X : Cx p s m args meth c cc nL ret own G) {dflt lo hi : Int} {offs : Array Int} {len : Nat} {a : Int} {off : Int} {tgt : Nat} (hd : decode cc pc = .ok (.tableswitch dflt lo hi offs, len)) (ha : InR a) (h1 : lo ≤ a) (h2 : a ≤ hi) (ho : offs[(a - lo).toNat]? = some off) (ht : (pc : Int) + off = (tgt : Int)) (k : Gj p l e R s m args below meth c Q G nL tgt lv st w) : Gj p l e R s m args below meth c Q G nL pc lv (.int (iI a) :: st) w :=
  fun H locs ls q1 q2 q3 => lv_tableIn X.1.1 X.1.2.1 hd (by rw [iI_to ha]; omega) (by rw [iI_to ha]; omega) (by rw [iI_to ha]; exact ho) ht (k H locs ls q1 q2 q3)
theorem g_tableOut (X : Cx p s m args meth c cc nL ret own G) {dflt lo hi : Int} {offs : Array Int} {len : Nat} {a : Int} {tgt : Nat} (hd : decode cc pc = .ok (.tableswitch dflt lo hi offs, len)) (ha : InR a) (h : a < lo ∨ hi < a) (ht : (pc : Int) + dflt = (tgt : Int)) (k : Gj p l e R s m args below meth c Q G nL tgt lv st w) : Gj p l e R s m args below meth c Q G nL pc lv (.int (iI a) :: st) w :=
  fun H locs ls q1 q2 q3 => lv_tableOut X.1.1 X.1.2.1 hd (by rw [iI_to ha]; exact h) ht (k H locs ls q1 q2 q3)
theorem g_lcmp (X : Cx p s m args meth c cc nL ret own G) {a b : Int} (hd : decode cc pc = .ok (.lcmp, 1)) (ha : InL a) (hb : InL b) (k : Gj p l e R s m args below meth c Q G nL (pc + 1) lv (.int (iI (if b < a then 1 else if a = b then 0 else -1)) :: st) w) : Gj p l e R s m args below meth c Q G nL pc lv (.long (lI b) :: .long (lI a) :: st) w := by
  intro H locs ls q1 q2 q3
  refine W.lcmp X.1.1 X.1.2.1 hd ?_
  have h := k H locs ls q1 q2 q3
  have e : lg_cmp (lI a) (lI b) = iI (if b < a then 1 else if a = b then 0 else -1) := by
    unfold lg_cmp
    simp only [gt_iff_lt, lI_lt hb ha, lI_eq ha hb]
    split
    · rfl
    · split <;> rfl
  rw [e]
  exact h
/-- a class, its table, the words of it -/
def CK (ci : Nat) (C : String) (T : u_T) (N : Nat) (ty : Nat → FieldType) : Prop := classes[ci]? = some (C, T, N) ∧ (∀ w ∈ u_ws C T N, w ∈ gw) ∧ (∀ k, k < N → parseFieldDescriptor (T k).2.2.1 = some (ty k)) ∧ (∀ a, a < N → ∀ b, b < N → a ≠ b → (T a).2.1 ≠ (T b).2.1) ∧ N = nfX ci
theorem g_getf (X : Cx p s m args meth c cc nL ret own G) {ci N o idx : Nat} {C : String} {T : u_T} {ty : Nat → FieldType} (K : CK ci C T N ty) (ho : gOb G o = some ci) (f : Nat) (hf : f < N) (hl : Cond.fieldLink own idx (T f).1 (T f).2.1 (T f).2.2.1 ∈ gw) {v : Value} (hv : fval G w o ci f = v) (hd : decode cc pc = .ok (.getfield idx, 3)) (k : Gj p l e R s m args below meth c Q G nL (pc + 3) lv (v :: st) w) : Gj p l e R s m args below meth c Q G nL pc lv (.ref (gAd G o) :: st) w := by
  intro H locs ls h1 h2 h3
  obtain ⟨⟨cell, q1, q2, q3, q4⟩, -⟩ := h1 o ci ho
  obtain ⟨hS, hfc, kC, hkC, hkind⟩ := X.2.2.1.1 ci _ K.1
  obtain ⟨cf, kf, fi, fd, hi, hsl⟩ := hS f hf
  refine W.getf X.1.1 X.1.2.1 X.1.2.2.2.1 (X.1.2.2.2.2.1 _ hl) hi (u_facts hfc hkC (u_lays X.1.2.2.2.2.1 K.2.1 hf) hi).1 q1 (by rw [q3]; exact fun h => by cases h) (v := v) ?_ rfl rfl hd (k H locs ls h1 h2 h3)
  rw [hsl, q4 f (by rw [← K.2.2.2.2]; exact hf), hv]
theorem g_geti (X : Cx p s m args meth c cc nL ret own G) {ci N o idx : Nat} {C : String} {T : u_T} {ty : Nat → FieldType} (K : CK ci C T N ty) (ho : gOb G o = some ci) (f : Nat) (hf : f < N) (hl : Cond.fieldLink own idx (T f).1 (T f).2.1 (T f).2.2.1 ∈ gw) (hk : (fkX ci f).1 = 0 ∨ (fkX ci f).1 = 6) (hd : decode cc pc = .ok (.getfield idx, 3)) (k : Gj p l e R s m args below meth c Q G nL (pc + 3) lv (.int (iI (w o f 0)) :: st) w) : Gj p l e R s m args below meth c Q G nL pc lv (.ref (gAd G o) :: st) w :=
  g_getf X K ho f hf hl (by rcases hk with hk | hk <;> simp [fval, hk]) hd k
theorem g_geto (X : Cx p s m args meth c cc nL ret own G) {ci N o o' idx : Nat} {C : String} {T : u_T} {ty : Nat → FieldType} (K : CK ci C T N ty) (ho : gOb G o = some ci) (f : Nat) (hf : f < N) (hl : Cond.fieldLink own idx (T f).1 (T f).2.1 (T f).2.2.1 ∈ gw) (hk : (fkX ci f).1 = 4) (ho' : gLk G o f = o') (hd : decode cc pc = .ok (.getfield idx, 3)) (k : Gj p l e R s m args below meth c Q G nL (pc + 3) lv (.ref (gAd G o') :: st) w) : Gj p l e R s m args below meth c Q G nL pc lv (.ref (gAd G o) :: st) w :=
  g_getf X K ho f hf hl (by rw [← ho']; simp [fval, hk]) hd k
theorem g_geta (X : Cx p s m args meth c cc nL ret own G) {ci N o idx : Nat} {C : String} {T : u_T} {ty : Nat → FieldType} (K : CK ci C T N ty) (ho : gOb G o = some ci) (f : Nat) (hf : f < N) (hl : Cond.fieldLink own idx (T f).1 (T f).2.1 (T f).2.2.1 ∈ gw) (hk : isA (fkX ci f) = true) (hd : decode cc pc = .ok (.getfield idx, 3)) (k : Gj p l e R s m args below meth c Q G nL (pc + 3) lv (.ref (gAr G o f) :: st) w) : Gj p l e R s m args below meth c Q G nL pc lv (.ref (gAd G o) :: st) w :=
  g_getf X K ho f hf hl (by
    have h : (fkX ci f).1 = 1 ∨ (fkX ci f).1 = 2 ∨ (fkX ci f).1 = 3 ∨ (fkX ci f).1 = 5 := by
      simp [isA] at hk
      omega
    rcases h with h | h | h | h <;> simp [fval, h]) hd k
theorem g_putf (X : Cx p s m args meth c cc nL ret own G) {ci N o idx : Nat} {C : String} {T : u_T} {ty : Nat → FieldType} (K : CK ci C T N ty) (ho : gOb G o = some ci) (f : Nat) (hf : f < N) (hl : Cond.fieldLink own idx (T f).1 (T f).2.1 (T f).2.2.1 ∈ gw) (hk : (fkX ci f).1 = 0 ∨ (fkX ci f).1 = 6) (hfin : (T f).2.2.2 = false) {v : Int} (hn : narrow (ty f) (.int (iI v)) = .int (iI v)) (hfit : fits (ty f) (.int (iI v)) = true) (hd : decode cc pc = .ok (.putfield idx, 3)) (k : Gj p l e R s m args below meth c Q G nL (pc + 3) lv st (up w o f 0 v)) : Gj p l e R s m args below meth c Q G nL pc lv (.int (iI v) :: .ref (gAd G o) :: st) w := by
  intro H locs ls h1 h2 h3
  have hap := va_apart (own := own) X.1.2.2.2.2.1 K.2.1 ty K.2.2.1 K.2.2.2.1 X.2.2.1 K.1
  obtain ⟨⟨cell, q1, q2, q3, q4⟩, -⟩ := h1 o ci ho
  obtain ⟨hS, hfc, kC, hkC, hkind⟩ := X.2.2.1.1 ci _ K.1
  obtain ⟨cf, kf, fi, fd, hi, hsl⟩ := hS f hf
  have hlay := X.1.2.2.2.2.1 _ (K.2.1 _ (u_in_lay hf))
  unfold u_lay at hlay
  rw [if_neg (by rw [hfin]; decide)] at hlay
  have hst := (u_facts hfc hkC (u_lays X.1.2.2.2.2.1 K.2.1 hf) hi).1
  have h6 := u_store hfc hkC hkind hlay hi (K.2.2.1 f hf) hn hfit
  have hfn : f < nfX ci := by rw [← K.2.2.2.2]; exact hf
  refine W.putK X.1.1 X.1.2.1 (f := fd) ⟨X.1.2.2.2.1, X.1.2.2.2.2.1 _ hl, ⟨_, _, _, hi⟩, hst⟩ (by rw [q2]; exact h6) q1 q3 (by rw [hsl]; exact k2_hasslot (q4 f hfn)) rfl rfl hd fun H' e1 e2 e3 => ?_
  rw [hsl] at e1 ⊢
  refine k H' _ ls (h1.puti X.2.1 ho hk ⟨_, e1, q2, q3, ?_⟩ e3) (h2.put e2 e3 (gA_o ho)) h3
  exact t_set q4 (by rw [← K.2.2.2.2]; exact hap) hfn (.int (iI v))
theorem g_puti (X : Cx p s m args meth c cc nL ret own G) {ci N o idx : Nat} {C : String} {T : u_T} {ty : Nat → FieldType} (K : CK ci C T N ty) (ho : gOb G o = some ci) (f : Nat) (hf : f < N) (hl : Cond.fieldLink own idx (T f).1 (T f).2.1 (T f).2.2.1 ∈ gw) (hk : (fkX ci f).1 = 0) (hfin : (T f).2.2.2 = false) {v : Int} (hty : ty f = .int) (hd : decode cc pc = .ok (.putfield idx, 3)) (k : Gj p l e R s m args below meth c Q G nL (pc + 3) lv st (up w o f 0 v)) : Gj p l e R s m args below meth c Q G nL pc lv (.int (iI v) :: .ref (gAd G o) :: st) w :=
  g_putf X K ho f hf hl (Or.inl hk) hfin (by rw [hty]; rfl) (by rw [hty]; rfl) hd k
theorem isA_of {k : Nat × Nat} {t n : Nat} (h : k = (t, n)) (ht : t = 1 ∨ t = 2 ∨ t = 3 ∨ t = 5) : isA k = true := by
  subst h
  rcases ht with rfl | rfl | rfl | rfl <;> rfl
theorem g_iald (X : Cx p s m args meth c cc nL ret own G) {ci o f n : Nat} (ho : gOb G o = some ci) (hf : f < nfX ci) (hk : fkX ci f = (1, n)) (hn : n ≤ 100000) {a : Int} (h0 : 0 ≤ a) (ha : a < (n : Int)) (hd : decode cc pc = .ok (.iaload, 1)) (k : Gj p l e R s m args below meth c Q G nL (pc + 1) lv (.int (iI (w o f a.toNat)) :: st) w) : Gj p l e R s m args below meth c Q G nL pc lv (.int (iI a) :: .ref (gAr G o f) :: st) w := by
  intro H locs ls h1 h2 h3
  have hc := (h1 o ci ho).2 f hf (isA_of hk (by decide))
  rw [hk] at hc
  have hcl : (iI a).toNatClampNeg = a.toNat := iI_clamp h0 (by omega)
  have hin := iI_in h0 ha (by omega)
  exact W.iald (v := .int (iI (w o f a.toNat))) X.1.1 X.1.2.1 hc ((X.2.2.1.2 0 _ rfl).1 n (fun j => .int (iI (w o f j)))) (fun q => by cases q) (by show ¬ (_ ∨ (arrV _ _ _).slots.size ≤ _); rw [arrV_size]; exact hin) (by show (arrV _ _ _).slots[_]? = _; rw [arrV_read _ _ (by rw [hcl]; omega), hcl]) rfl rfl hd (k H locs ls h1 h2 h3)
theorem g_cald (X : Cx p s m args meth c cc nL ret own G) {ci o f n : Nat} (ho : gOb G o = some ci) (hf : f < nfX ci) (hk : fkX ci f = (3, n)) (hn : n ≤ 100000) {a : Int} (h0 : 0 ≤ a) (ha : a < (n : Int)) (hd : decode cc pc = .ok (.caload, 1)) (k : Gj p l e R s m args below meth c Q G nL (pc + 1) lv (.int (iI (w o f a.toNat)) :: st) w) : Gj p l e R s m args below meth c Q G nL pc lv (.int (iI a) :: .ref (gAr G o f) :: st) w := by
  intro H locs ls h1 h2 h3
  have hc := (h1 o ci ho).2 f hf (isA_of hk (by decide))
  rw [hk] at hc
  have hcl : (iI a).toNatClampNeg = a.toNat := iI_clamp h0 (by omega)
  have hin := iI_in h0 ha (by omega)
  exact W.cald (v := .int (iI (w o f a.toNat))) X.1.1 X.1.2.1 hc ((X.2.2.1.2 2 _ rfl).1 n (fun j => .int (iI (w o f j)))) (fun q => by cases q) (by show ¬ (_ ∨ (arrV _ _ _).slots.size ≤ _); rw [arrV_size]; exact hin) (by show (arrV _ _ _).slots[_]? = _; rw [arrV_read _ _ (by rw [hcl]; omega), hcl]) rfl rfl hd (k H locs ls h1 h2 h3)
theorem g_lald (X : Cx p s m args meth c cc nL ret own G) {ci o f n : Nat} (ho : gOb G o = some ci) (hf : f < nfX ci) (hk : fkX ci f = (2, n)) (hn : n ≤ 100000) {a : Int} (h0 : 0 ≤ a) (ha : a < (n : Int)) (hd : decode cc pc = .ok (.laload, 1)) (k : Gj p l e R s m args below meth c Q G nL (pc + 1) lv (.long (lI (w o f a.toNat)) :: st) w) : Gj p l e R s m args below meth c Q G nL pc lv (.int (iI a) :: .ref (gAr G o f) :: st) w := by
  intro H locs ls h1 h2 h3
  have hc := (h1 o ci ho).2 f hf (isA_of hk (by decide))
  rw [hk] at hc
  have hcl : (iI a).toNatClampNeg = a.toNat := iI_clamp h0 (by omega)
  have hin := iI_in h0 ha (by omega)
  exact W.lald (v := .long (lI (w o f a.toNat))) X.1.1 X.1.2.1 hc ((X.2.2.1.2 1 _ rfl).1 n (fun j => .long (lI (w o f j)))) (fun q => by cases q) (by show ¬ (_ ∨ (arrV _ _ _).slots.size ≤ _); rw [arrV_size]; exact hin) (by show (arrV _ _ _).slots[_]? = _; rw [arrV_read _ _ (by rw [hcl]; omega), hcl]) rfl rfl hd (k H locs ls h1 h2 h3)
theorem g_aald (X : Cx p s m args meth c cc nL ret own G) {ci o f n o' : Nat} (ho : gOb G o = some ci) (hf : f < nfX ci) (hk : fkX ci f = (5, n)) (hn : n ≤ 100000) {a : Int} (h0 : 0 ≤ a) (ha : a < (n : Int)) (ho' : gLk G o (100 + a.toNat) = o') (hd : decode cc pc = .ok (.aaload, 1)) (k : Gj p l e R s m args below meth c Q G nL (pc + 1) lv (.ref (gAd G o') :: st) w) : Gj p l e R s m args below meth c Q G nL pc lv (.int (iI a) :: .ref (gAr G o f) :: st) w := by
  intro H locs ls h1 h2 h3
  have hc := (h1 o ci ho).2 f hf (isA_of hk (by decide))
  rw [hk] at hc
  have hcl : (iI a).toNatClampNeg = a.toNat := iI_clamp h0 (by omega)
  have hin := iI_in h0 ha (by omega)
  subst ho'
  exact W.aald (v := .ref (gAd G (gLk G o (100 + a.toNat)))) (ty := .object "ColdHouse$State") X.1.1 X.1.2.1 hc ((X.2.2.1.2 3 _ rfl).1 n (fun j => va_rf (some (gAd G (gLk G o (100 + j)))))) rfl (fun q => by cases q) (by show ¬ (_ ∨ (arrV _ _ _).slots.size ≤ _); rw [arrV_size]; exact hin) (by show (arrV _ _ _).slots[_]? = _; rw [arrV_read _ _ (by rw [hcl]; omega), hcl]; rfl) rfl rfl hd (k H locs ls h1 h2 h3)
theorem g_iast (X : Cx p s m args meth c cc nL ret own G) {ci o f n : Nat} (ho : gOb G o = some ci) (hf : f < nfX ci) (hk : fkX ci f = (1, n)) (hn : n ≤ 100000) {a v : Int} (h0 : 0 ≤ a) (ha : a < (n : Int)) (hd : decode cc pc = .ok (.iastore, 1)) (k : Gj p l e R s m args below meth c Q G nL (pc + 1) lv st (up w o f a.toNat v)) : Gj p l e R s m args below meth c Q G nL pc lv (.int (iI v) :: .int (iI a) :: .ref (gAr G o f) :: st) w := by
  intro H locs ls h1 h2 h3
  have hA := isA_of hk (Or.inl rfl)
  have hc := (h1 o ci ho).2 f hf hA
  rw [hk] at hc
  have hcl : (iI a).toNatClampNeg = a.toNat := iI_clamp h0 (by omega)
  have hin := iI_in h0 ha (by omega)
  refine W.iast X.1.1 X.1.2.1 hc ((X.2.2.1.2 0 _ rfl).1 n (fun j => .int (iI (w o f j)))) (fun q => by cases q) (by show ¬ (_ ∨ (arrV _ _ _).slots.size ≤ _); rw [arrV_size]; exact hin) rfl rfl hd fun H1 e z oq => ?_
  refine k H1 _ ls (h1.puta X.2.1 ho hf hA (fun o' f' j' hq => up_ne (fun q => hq ⟨q.1, q.2.1⟩)) ?_ oq) (h2.put z oq (gA_a ho hf hA)) h3
  rw [e, hk, hcl]
  simp only [acell]
  rw [vp_cell_i, vp_cell_i]
  rw [arrV_store]
  congr 2
  funext q
  by_cases hq : q = a.toNat <;> simp [updV, up, hq]
theorem g_last (X : Cx p s m args meth c cc nL ret own G) {ci o f n : Nat} (ho : gOb G o = some ci) (hf : f < nfX ci) (hk : fkX ci f = (2, n)) (hn : n ≤ 100000) {a v : Int} (h0 : 0 ≤ a) (ha : a < (n : Int)) (hd : decode cc pc = .ok (.lastore, 1)) (k : Gj p l e R s m args below meth c Q G nL (pc + 1) lv st (up w o f a.toNat v)) : Gj p l e R s m args below meth c Q G nL pc lv (.long (lI v) :: .int (iI a) :: .ref (gAr G o f) :: st) w := by
  intro H locs ls h1 h2 h3
  have hA := isA_of hk (Or.inr (Or.inl rfl))
  have hc := (h1 o ci ho).2 f hf hA
  rw [hk] at hc
  have hcl : (iI a).toNatClampNeg = a.toNat := iI_clamp h0 (by omega)
  have hin := iI_in h0 ha (by omega)
  refine W.last X.1.1 X.1.2.1 hc ((X.2.2.1.2 1 _ rfl).1 n (fun j => .long (lI (w o f j)))) (fun q => by cases q) (by show ¬ (_ ∨ (arrV _ _ _).slots.size ≤ _); rw [arrV_size]; exact hin) rfl rfl hd fun H1 e z oq => ?_
  refine k H1 _ ls (h1.puta X.2.1 ho hf hA (fun o' f' j' hq => up_ne (fun q => hq ⟨q.1, q.2.1⟩)) ?_ oq) (h2.put z oq (gA_a ho hf hA)) h3
  rw [e, hk, hcl]
  simp only [acell]
  rw [vp_cell_l, vp_cell_l]
  rw [arrV_store]
  congr 2
  funext q
  by_cases hq : q = a.toNat <;> simp [updV, up, hq]
theorem g_cast (X : Cx p s m args meth c cc nL ret own G) {ci o f n : Nat} (ho : gOb G o = some ci) (hf : f < nfX ci) (hk : fkX ci f = (3, n)) (hn : n ≤ 100000) {a v : Int} (h0 : 0 ≤ a) (ha : a < (n : Int)) (hv : narrow .char (.int (iI v)) = .int (iI v)) (hd : decode cc pc = .ok (.castore, 1)) (k : Gj p l e R s m args below meth c Q G nL (pc + 1) lv st (up w o f a.toNat v)) : Gj p l e R s m args below meth c Q G nL pc lv (.int (iI v) :: .int (iI a) :: .ref (gAr G o f) :: st) w := by
  intro H locs ls h1 h2 h3
  have hA := isA_of hk (Or.inr (Or.inr (Or.inl rfl)))
  have hc := (h1 o ci ho).2 f hf hA
  rw [hk] at hc
  have hcl : (iI a).toNatClampNeg = a.toNat := iI_clamp h0 (by omega)
  have hin := iI_in h0 ha (by omega)
  refine W.cast X.1.1 X.1.2.1 hc ((X.2.2.1.2 2 _ rfl).1 n (fun j => .int (iI (w o f j)))) (fun q => by cases q) (by show ¬ (_ ∨ (arrV _ _ _).slots.size ≤ _); rw [arrV_size]; exact hin) rfl rfl hd fun H1 e z oq => ?_
  refine k H1 _ ls (h1.puta X.2.1 ho hf hA (fun o' f' j' hq => up_ne (fun q => hq ⟨q.1, q.2.1⟩)) ?_ oq) (h2.put z oq (gA_a ho hf hA)) h3
  rw [e, hk, hcl]
  simp only [acell]
  rw [vp_cell_i, vp_cell_i]
  rw [arrV_store, hv]
  congr 2
  funext q
  by_cases hq : q = a.toNat <;> simp [updV, up, hq]
theorem g_alen (X : Cx p s m args meth c cc nL ret own G) {ci o f n : Nat} (ho : gOb G o = some ci) (hf : f < nfX ci) (hk : fkX ci f = (1, n)) (hd : decode cc pc = .ok (.arraylength, 1)) (k : Gj p l e R s m args below meth c Q G nL (pc + 1) lv (.int (iI (n : Int)) :: st) w) : Gj p l e R s m args below meth c Q G nL pc lv (.ref (gAr G o f) :: st) w := by
  intro H locs ls h1 h2 h3
  have hc := (h1 o ci ho).2 f hf (isA_of hk (Or.inl rfl))
  rw [hk] at hc
  exact W.alen (n := iI (n : Int)) X.1.1 X.1.2.1 hc ((X.2.2.1.2 0 _ rfl).1 n (fun j => .int (iI (w o f j)))) (by show ((arrV _ _ _).slots.size).toInt32 = _; rw [arrV_size]; exact (Int32.ofInt_eq_ofNat).symm) rfl rfl hd (k H locs ls h1 h2 h3)
theorem g_gets (X : Cx p s m args meth c cc nL ret own G) {idx : Nat} (k0 : Nat) (hk : k0 < 9) (hl : Cond.fieldLink own idx "ColdHouse" (snX k0) "[I" ∈ gw) (hd : decode cc pc = .ok (.getstatic idx, 3)) (k : Gj p l e R s m args below meth c Q G nL (pc + 3) lv (.ref (gSa G k0) :: st) w) : Gj p l e R s m args below meth c Q G nL pc lv st w :=
  fun H locs ls h1 h2 h3 => va_gets X.1.1 X.1.2.1 (X.2.2.2.2 k0 hk).1 h2 X.1.2.2.2.1 (X.1.2.2.2.2.1 _ hl) (fun _ h => h) hd (k H locs ls h1 h2 h3)
theorem g_getsN (X : Cx p s m args meth c cc nL ret own G) {idx : Nat} (k0 : Nat) (hk : k0 < 9) (hl : Cond.fieldLinkNest own idx "ColdHouse" (snX k0) "[I" "ColdHouse" ∈ nw) (hd : decode cc pc = .ok (.getstatic idx, 3)) (k : Gj p l e R s m args below meth c Q G nL (pc + 3) lv (.ref (gSa G k0) :: st) w) : Gj p l e R s m args below meth c Q G nL pc lv st w :=
  fun H locs ls h1 h2 h3 => va_getsN X.1.1 X.1.2.1 (X.2.2.2.2 k0 hk).1 h2 X.1.2.2.2.1 (va_Nw.use rfl (X.2.2.2.1 _ hl)) (fun _ h => h) hd (k H locs ls h1 h2 h3)
theorem g_sald (X : Cx p s m args meth c cc nL ret own G) (k0 : Nat) (hk : k0 < 9) {a v : Int} (h0 : 0 ≤ a) (ha : a < ((slX k0).length : Int)) (hv : (slX k0).getD a.toNat 0 = v) (hn : (slX k0).length ≤ 100000) (hd : decode cc pc = .ok (.iaload, 1)) (k : Gj p l e R s m args below meth c Q G nL (pc + 1) lv (.int (iI v) :: st) w) : Gj p l e R s m args below meth c Q G nL pc lv (.int (iI a) :: .ref (gSa G k0) :: st) w :=
  fun H locs ls h1 h2 h3 => va_ti X.1.1 X.1.2.1 (X.2.2.2.2 k0 hk).2 h2 (iI_in h0 ha (by omega)) (v := .int (iI v)) (by rw [iI_clamp h0 (by omega), hv]) hd (k H locs ls h1 h2 h3)
theorem g_slen (X : Cx p s m args meth c cc nL ret own G) (k0 : Nat) (hk : k0 < 9) (hd : decode cc pc = .ok (.arraylength, 1)) (k : Gj p l e R s m args below meth c Q G nL (pc + 1) lv (.int (iI ((slX k0).length : Int)) :: st) w) : Gj p l e R s m args below meth c Q G nL pc lv (.ref (gSa G k0) :: st) w :=
  fun H locs ls h1 h2 h3 => va_tlen X.1.1 X.1.2.1 (X.2.2.2.2 k0 hk).2 h2 (v := iI ((slX k0).length : Int)) (Int32.ofInt_eq_ofNat).symm hd (k H locs ls h1 h2 h3)
theorem g_iret (X : Cx p s m args meth c cc nL ret own G) {post : Int → Wd → Prop} {z : Int} {ty : FieldType} (hr : ret = some ty) (hn : narrow ty (.int (iI z)) = .int (iI z)) (hd : decode cc pc = .ok (.ireturn, 1)) (hp : post z w) : Gj p l e R s m args below meth c (Qi below args s G post) G nL pc lv [.int (iI z)] w :=
  fun H locs ls h1 h2 h3 => W.zret (ty := ty) X.1.1 X.1.2.1 (X.1.2.2.2.2.2.2.trans hr) hn (fun t ht hW => ⟨⟨iI z, w, rfl, ⟨z, rfl, hp⟩, (show Hold G w t.heap by rw [ht]; exact h1)⟩, h2.F ht⟩) h2.2.2 hd X.1.2.2.2.2.2.1
theorem g_vret (X : Cx p s m args meth c cc nL ret own G) {post : Wd → Prop} (hr : ret = none) (hd : decode cc pc = .ok (.return_, 1)) (hp : post w) : Gj p l e R s m args below meth c (Qv below args s G post) G nL pc lv [] w :=
  fun H locs ls h1 h2 h3 => W.vret X.1.1 X.1.2.1 (X.1.2.2.2.2.2.2.trans hr) (fun t ht hW => ⟨⟨w, rfl, hp, (show Hold G w t.heap by rw [ht]; exact h1)⟩, h2.F ht⟩) h2.2.2 hd X.1.2.2.2.2.2.1
theorem g_lret (X : Cx p s m args meth c cc nL ret own G) {post : Int → Wd → Prop} {z : Int} (hr : ret = some .long) (hd : decode cc pc = .ok (.lreturn, 1)) (hp : post z w) : Gj p l e R s m args below meth c (Ql below args s G post) G nL pc lv [.long (lI z)] w :=
  fun H locs ls h1 h2 h3 => W.lret X.1.1 X.1.2.1 (X.1.2.2.2.2.2.2.trans hr) (fun t ht hW => ⟨⟨lI z, w, rfl, ⟨z, rfl, hp⟩, (show Hold G w t.heap by rw [ht]; exact h1)⟩, h2.F ht⟩) h2.2.2 hd X.1.2.2.2.2.2.1
theorem g_max (X : Cx p s m args meth c cc nL ret own G) {a b : Int} {idx : Nat} (hl : Cond.methodLink own idx Lib.Math.max.name ∈ gw) (ha : InR a) (hb : InR b) (hR : 1 ≤ R.frames ∧ 21 ≤ R.locals) (hcat : (st.map fun v => v.category).sum ≤ 8) (hd : decode cc pc = .ok (.invokestatic idx, 3)) (k : Gj p l e R s m args below meth c Q G nL (pc + 3) lv (.int (iI (max a b)) :: st) w) : Gj p l e R s m args below meth c Q G nL pc lv (.int (iI b) :: .int (iI a) :: st) w := by
  intro H locs ls h1 h2 h3
  refine va_mmax X.1.1 X.1.2.1 (X.1.2.2.1.trans h3.1.symm) X.1.2.2.2.1 (X.1.2.2.2.2.1 _ hl) (X.1.2.2.2.2.1 _ mmax_st) (X.1.2.2.2.2.1 _ ini_J9) (X.1.2.2.2.2.1 _ mmax_co) hR.1 (by omega) (Nat.zero_le _) (Nat.zero_le _) hd ?_
  have h := k H locs ls h1 h2 h3
  have e : (if iI a < iI b then iI b else iI a) = iI (max a b) := by
    by_cases q : a < b
    · rw [if_pos ((iI_lt ha hb).mpr q), Int.max_eq_right (by omega)]
    · rw [if_neg (fun z => q ((iI_lt ha hb).mp z)), Int.max_eq_left (by omega)]
  rw [e]
  exact h
theorem g_min (X : Cx p s m args meth c cc nL ret own G) {a b : Int} {idx : Nat} (hl : Cond.methodLink own idx Lib.Math.min.name ∈ gw) (ha : InR a) (hb : InR b) (hR : 1 ≤ R.frames ∧ 21 ≤ R.locals) (hcat : (st.map fun v => v.category).sum ≤ 8) (hd : decode cc pc = .ok (.invokestatic idx, 3)) (k : Gj p l e R s m args below meth c Q G nL (pc + 3) lv (.int (iI (min a b)) :: st) w) : Gj p l e R s m args below meth c Q G nL pc lv (.int (iI b) :: .int (iI a) :: st) w := by
  intro H locs ls h1 h2 h3
  refine va_mmin X.1.1 X.1.2.1 (X.1.2.2.1.trans h3.1.symm) X.1.2.2.2.1 (X.1.2.2.2.2.1 _ hl) (X.1.2.2.2.2.1 _ mmin_st) (X.1.2.2.2.2.1 _ ini_J9) (X.1.2.2.2.2.1 _ mmin_co) hR.1 (by omega) (Nat.zero_le _) (Nat.zero_le _) hd ?_
  have h := k H locs ls h1 h2 h3
  have e : (if iI b < iI a then iI b else iI a) = iI (min a b) := by
    by_cases q : b < a
    · rw [if_pos ((iI_lt hb ha).mpr q), Int.min_eq_right (by omega)]
    · rw [if_neg (fun z => q ((iI_lt hb ha).mp z)), Int.min_eq_left (by omega)]
  rw [e]
  exact h
theorem blindW {av : List Value} : FrameBlind (va_Pc av (AtW G w)) := fun a U g mk h => ⟨h.1, h.2.1, h.2.2.call⟩
theorem giX {c0 cy : Cond} (h : cy ∈ gw) : GoodIn (c0 :: gw) (cy :: gw) := fun q hq => by
  rcases List.mem_cons.mp hq with rfl | hq
  · exact ⟨List.mem_cons_of_mem _ h, gw_good h⟩
  · exact ⟨List.mem_cons_of_mem _ hq, gw_good hq⟩
theorem giY {cy : Cond} (h : cy ∈ gw) : GoodIn gw (cy :: gw) := fun q hq => by
  rcases List.mem_cons.mp hq with rfl | hq
  · exact ⟨h, gw_good h⟩
  · exact ⟨hq, gw_good hq⟩
/-- a callee: its words -/
def CM (y : MethodName) (b : ByteArray) (n : Nat) (rt : Option FieldType) (np : Nat) : Prop := Cond.code y b n rt ∈ gw ∧ Cond.initialized y.cls ∈ gw ∧ (y.cls ≠ "java/lang/invoke/MethodHandle" ∧ y.cls ≠ "java/lang/invoke/VarHandle" ∧ (parseMethodDescriptor y.desc).map (fun d => d.parameters.length) = some np)
theorem runV (X : Cx p s m args meth c cc nL ret own G) {y : MethodName} {b : ByteArray} {n rf rl np idx o ci : Nat} {rt : Option FieldType} {C : String} {T : u_T} {N : Nat} {ty : Nat → FieldType} {As stk : List Value} {Qc : Array Value → State → Outcome → State → Prop} {H : Heap} {locs : List Loc} {ls : Array Slot}
    (hM : Met l y (.code y b n rt :: gw) (rmX rf rl) (va_Pc (.ref (gAd G o) :: As) (AtW G w)) Qc 0 0 (gA G)) (hc : CM y b n rt np) (hi : Cond.instanceMethod y ∈ gw) (hse : Cond.selects C y y ∈ gw) (hl : Cond.methodLink own idx y ∈ gw) (K : CK ci C T N ty) (ho : gOb G o = some ci) (hR : rf + 1 ≤ R.frames ∧ 8 + (n + 11) + rl ≤ R.locals)
    (hn : As.length = np) (hst : stk = As.reverse ++ .ref (gAd G o) :: st) (hcat : (st.map fun v => v.category).sum ≤ 8) (hd : decode cc pc = .ok (.invokevirtual idx, 3)) (h1 : Hold G w H) (h2 : va_S (gA G) s.heap H locs) (h3 : lv_has ls nL lv) :
    va_Run p l e R s m args below meth c H locs 0 0 0 0 (F0 m pc ls stk) st (Qc (Value.ref (gAd G o) :: As).toArray) (gA G) := by
  have ht := X.1.2.2.2.2.1
  refine va_runV (Ts := gw) ⟨X.1.1, X.1.2.1, X.1.2.2.1, X.1.2.2.2.1, ht⟩ hM ⟨callB_of np ht (giY hc.1) rfl rfl rfl (ht _ hc.2.1) (ht _ hl) hc.2.2 hR, ht _ hi, ht _ hse⟩ ⟨blindW, ?_, fun U hU hW => ⟨rfl, by rw [hU]; exact h1, X.2.go h2 hU hW⟩⟩ rfl hn h3.1 hst (lv_room hcat) hd ⟨Nat.zero_le _, Nat.zero_le _⟩
  obtain ⟨⟨cell, q1, q2, q3, -⟩, -⟩ := h1 o ci ho
  obtain ⟨-, hfc, -⟩ := X.2.2.1.1 ci _ K.1
  exact ⟨cell, q1, by rw [q3]; rfl, by rw [q2]; exact hfc⟩
theorem runS (X : Cx p s m args meth c cc nL ret own G) {y : MethodName} {b : ByteArray} {n rf rl np idx : Nat} {rt : Option FieldType} {As stk : List Value} {Qc : Array Value → State → Outcome → State → Prop} {H : Heap} {locs : List Loc} {ls : Array Slot}
    (hM : Met l y (.code y b n rt :: gw) (rmX rf rl) (va_Pc As (AtW G w)) Qc 0 0 (gA G)) (hc : CM y b n rt np) (hs : Cond.static y ∈ gw) (hl : Cond.methodLink own idx y ∈ gw) (hR : rf + 1 ≤ R.frames ∧ 8 + (n + 11) + rl ≤ R.locals)
    (hn : As.length = np) (hst : stk = As.reverse ++ st) (hcat : (st.map fun v => v.category).sum ≤ 8) (hd : decode cc pc = .ok (.invokestatic idx, 3)) (h1 : Hold G w H) (h2 : va_S (gA G) s.heap H locs) (h3 : lv_has ls nL lv) :
    va_Run p l e R s m args below meth c H locs 0 0 0 0 (F0 m pc ls stk) st (Qc As.toArray) (gA G) := by
  have ht := X.1.2.2.2.2.1
  exact va_runS (Ts := gw) ⟨X.1.1, X.1.2.1, X.1.2.2.1, X.1.2.2.2.1, ht⟩ hM ⟨callB_of np ht (giY hc.1) rfl rfl rfl (ht _ hc.2.1) (ht _ hl) hc.2.2 hR, ht _ hs⟩ ⟨blindW, fun U hU hW => ⟨rfl, by rw [hU]; exact h1, X.2.go h2 hU hW⟩⟩ rfl hn h3.1 hst (lv_room hcat) hd ⟨Nat.zero_le _, Nat.zero_le _⟩
theorem runSN (X : Cx p s m args meth c cc nL ret own G) {y : MethodName} {b : ByteArray} {n rf rl np idx : Nat} {rt : Option FieldType} {As stk : List Value} {Qc : Array Value → State → Outcome → State → Prop} {H : Heap} {locs : List Loc} {ls : Array Slot}
    (hM : Met l y (.code y b n rt :: gw) (rmX rf rl) (va_Pc As (AtW G w)) Qc 0 0 (gA G)) (hc : CM y b n rt np) (hs : Cond.static y ∈ gw) (hl : Cond.methodLinkNest own idx y "ColdHouse" ∈ nw) (hR : rf + 1 ≤ R.frames ∧ 8 + (n + 11) + rl ≤ R.locals)
    (hn : As.length = np) (hst : stk = As.reverse ++ st) (hcat : (st.map fun v => v.category).sum ≤ 8) (hd : decode cc pc = .ok (.invokestatic idx, 3)) (h1 : Hold G w H) (h2 : va_S (gA G) s.heap H locs) (h3 : lv_has ls nL lv) :
    va_Run p l e R s m args below meth c H locs 0 0 0 0 (F0 m pc ls stk) st (Qc As.toArray) (gA G) := by
  have ht := X.1.2.2.2.2.1
  exact va_runSN (Ts := gw) ⟨X.1.1, X.1.2.1, X.1.2.2.1, X.1.2.2.2.1, ht⟩ hM ⟨va_cnB np ht (giY hc.1) rfl rfl rfl (X.2.2.2.1 _ hl) (ht _ hc.2.1) hc.2.2 hR, ht _ hs, trivial⟩ ⟨blindW, fun U hU hW => ⟨rfl, by rw [hU]; exact h1, X.2.go h2 hU hW⟩⟩ rfl hn h3.1 hst (lv_room hcat) hd ⟨Nat.zero_le _, Nat.zero_le _⟩
theorem g_calli (X : Cx p s m args meth c cc nL ret own G) {y : MethodName} {b : ByteArray} {n rf rl np idx o ci : Nat} {rt : Option FieldType} {C : String} {T : u_T} {N : Nat} {ty : Nat → FieldType} {As stk : List Value} {post : Int → Wd → Prop} (hM : Mi l y b n rt rf rl G (.ref (gAd G o) :: As) w post) (hc : CM y b n rt np) (hi : Cond.instanceMethod y ∈ gw) (hse : Cond.selects C y y ∈ gw) (hl : Cond.methodLink own idx y ∈ gw) (K : CK ci C T N ty) (ho : gOb G o = some ci) (hR : rf + 1 ≤ R.frames ∧ 8 + (n + 11) + rl ≤ R.locals) (hn : As.length = np) (hst : stk = As.reverse ++ .ref (gAd G o) :: st) (hcat : (st.map fun v => v.category).sum ≤ 8) (hd : decode cc pc = .ok (.invokevirtual idx, 3)) (k : ∀ (z : Int) (w' : Wd), post z w' → Gj p l e R s m args below meth c Q G nL (pc + 3) lv (.int (iI z) :: st) w') : Gj p l e R s m args below meth c Q G nL pc lv stk w :=
  fun H locs ls h1 h2 h3 => va_calli (runV X hM hc hi hse hl K ho hR hn hst hcat hd h1 h2 h3) h2 (fun _ _ h => h) (fun _ h => h) (fun r u t H1 locs1 ht hvm hw hB hz hk hS => by obtain ⟨z, rfl, hp⟩ := hw; exact k z u hp H1 locs1 ls (by rw [← ht]; exact hB) hS h3)
theorem g_callsi (X : Cx p s m args meth c cc nL ret own G) {y : MethodName} {b : ByteArray} {n rf rl np idx : Nat} {rt : Option FieldType} {As stk : List Value} {post : Int → Wd → Prop} (hM : Mi l y b n rt rf rl G As w post) (hc : CM y b n rt np) (hs : Cond.static y ∈ gw) (hl : Cond.methodLink own idx y ∈ gw) (hR : rf + 1 ≤ R.frames ∧ 8 + (n + 11) + rl ≤ R.locals) (hn : As.length = np) (hst : stk = As.reverse ++ st) (hcat : (st.map fun v => v.category).sum ≤ 8) (hd : decode cc pc = .ok (.invokestatic idx, 3)) (k : ∀ (z : Int) (w' : Wd), post z w' → Gj p l e R s m args below meth c Q G nL (pc + 3) lv (.int (iI z) :: st) w') : Gj p l e R s m args below meth c Q G nL pc lv stk w :=
  fun H locs ls h1 h2 h3 => va_calli (runS X hM hc hs hl hR hn hst hcat hd h1 h2 h3) h2 (fun _ _ h => h) (fun _ h => h) (fun r u t H1 locs1 ht hvm hw hB hz hk hS => by obtain ⟨z, rfl, hp⟩ := hw; exact k z u hp H1 locs1 ls (by rw [← ht]; exact hB) hS h3)
theorem g_callni (X : Cx p s m args meth c cc nL ret own G) {y : MethodName} {b : ByteArray} {n rf rl np idx : Nat} {rt : Option FieldType} {As stk : List Value} {post : Int → Wd → Prop} (hM : Mi l y b n rt rf rl G As w post) (hc : CM y b n rt np) (hs : Cond.static y ∈ gw) (hl : Cond.methodLinkNest own idx y "ColdHouse" ∈ nw) (hR : rf + 1 ≤ R.frames ∧ 8 + (n + 11) + rl ≤ R.locals) (hn : As.length = np) (hst : stk = As.reverse ++ st) (hcat : (st.map fun v => v.category).sum ≤ 8) (hd : decode cc pc = .ok (.invokestatic idx, 3)) (k : ∀ (z : Int) (w' : Wd), post z w' → Gj p l e R s m args below meth c Q G nL (pc + 3) lv (.int (iI z) :: st) w') : Gj p l e R s m args below meth c Q G nL pc lv stk w :=
  fun H locs ls h1 h2 h3 => va_calli (runSN X hM hc hs hl hR hn hst hcat hd h1 h2 h3) h2 (fun _ _ h => h) (fun _ h => h) (fun r u t H1 locs1 ht hvm hw hB hz hk hS => by obtain ⟨z, rfl, hp⟩ := hw; exact k z u hp H1 locs1 ls (by rw [← ht]; exact hB) hS h3)
theorem g_callv (X : Cx p s m args meth c cc nL ret own G) {y : MethodName} {b : ByteArray} {n rf rl np idx o ci : Nat} {rt : Option FieldType} {C : String} {T : u_T} {N : Nat} {ty : Nat → FieldType} {As stk : List Value} {post : Wd → Prop} (hM : Mv l y b n rt rf rl G (.ref (gAd G o) :: As) w post) (hc : CM y b n rt np) (hi : Cond.instanceMethod y ∈ gw) (hse : Cond.selects C y y ∈ gw) (hl : Cond.methodLink own idx y ∈ gw) (K : CK ci C T N ty) (ho : gOb G o = some ci) (hR : rf + 1 ≤ R.frames ∧ 8 + (n + 11) + rl ≤ R.locals) (hn : As.length = np) (hst : stk = As.reverse ++ .ref (gAd G o) :: st) (hcat : (st.map fun v => v.category).sum ≤ 8) (hd : decode cc pc = .ok (.invokevirtual idx, 3)) (k : ∀ (w' : Wd), post w' → Gj p l e R s m args below meth c Q G nL (pc + 3) lv st w') : Gj p l e R s m args below meth c Q G nL pc lv stk w :=
  fun H locs ls h1 h2 h3 => va_callv (runV X hM hc hi hse hl K ho hR hn hst hcat hd h1 h2 h3) h2 (fun _ _ h => h) (fun _ h => h) (fun u t H1 locs1 ht hvm hw hB hz hk hS => k u hw H1 locs1 ls (by rw [← ht]; exact hB) hS h3)
theorem g_callsv (X : Cx p s m args meth c cc nL ret own G) {y : MethodName} {b : ByteArray} {n rf rl np idx : Nat} {rt : Option FieldType} {As stk : List Value} {post : Wd → Prop} (hM : Mv l y b n rt rf rl G As w post) (hc : CM y b n rt np) (hs : Cond.static y ∈ gw) (hl : Cond.methodLink own idx y ∈ gw) (hR : rf + 1 ≤ R.frames ∧ 8 + (n + 11) + rl ≤ R.locals) (hn : As.length = np) (hst : stk = As.reverse ++ st) (hcat : (st.map fun v => v.category).sum ≤ 8) (hd : decode cc pc = .ok (.invokestatic idx, 3)) (k : ∀ (w' : Wd), post w' → Gj p l e R s m args below meth c Q G nL (pc + 3) lv st w') : Gj p l e R s m args below meth c Q G nL pc lv stk w :=
  fun H locs ls h1 h2 h3 => va_callv (runS X hM hc hs hl hR hn hst hcat hd h1 h2 h3) h2 (fun _ _ h => h) (fun _ h => h) (fun u t H1 locs1 ht hvm hw hB hz hk hS => k u hw H1 locs1 ls (by rw [← ht]; exact hB) hS h3)
theorem g_callnv (X : Cx p s m args meth c cc nL ret own G) {y : MethodName} {b : ByteArray} {n rf rl np idx : Nat} {rt : Option FieldType} {As stk : List Value} {post : Wd → Prop} (hM : Mv l y b n rt rf rl G As w post) (hc : CM y b n rt np) (hs : Cond.static y ∈ gw) (hl : Cond.methodLinkNest own idx y "ColdHouse" ∈ nw) (hR : rf + 1 ≤ R.frames ∧ 8 + (n + 11) + rl ≤ R.locals) (hn : As.length = np) (hst : stk = As.reverse ++ st) (hcat : (st.map fun v => v.category).sum ≤ 8) (hd : decode cc pc = .ok (.invokestatic idx, 3)) (k : ∀ (w' : Wd), post w' → Gj p l e R s m args below meth c Q G nL (pc + 3) lv st w') : Gj p l e R s m args below meth c Q G nL pc lv stk w :=
  fun H locs ls h1 h2 h3 => va_callv (runSN X hM hc hs hl hR hn hst hcat hd h1 h2 h3) h2 (fun _ _ h => h) (fun _ h => h) (fun u t H1 locs1 ht hvm hw hB hz hk hS => k u hw H1 locs1 ls (by rw [← ht]; exact hB) hS h3)
theorem g_calll (X : Cx p s m args meth c cc nL ret own G) {y : MethodName} {b : ByteArray} {n rf rl np idx o ci : Nat} {rt : Option FieldType} {C : String} {T : u_T} {N : Nat} {ty : Nat → FieldType} {As stk : List Value} {post : Int → Wd → Prop} (hM : Ml l y b n rt rf rl G (.ref (gAd G o) :: As) w post) (hc : CM y b n rt np) (hi : Cond.instanceMethod y ∈ gw) (hse : Cond.selects C y y ∈ gw) (hl : Cond.methodLink own idx y ∈ gw) (K : CK ci C T N ty) (ho : gOb G o = some ci) (hR : rf + 1 ≤ R.frames ∧ 8 + (n + 11) + rl ≤ R.locals) (hn : As.length = np) (hst : stk = As.reverse ++ .ref (gAd G o) :: st) (hcat : (st.map fun v => v.category).sum ≤ 8) (hd : decode cc pc = .ok (.invokevirtual idx, 3)) (k : ∀ (z : Int) (w' : Wd), post z w' → Gj p l e R s m args below meth c Q G nL (pc + 3) lv (.long (lI z) :: st) w') : Gj p l e R s m args below meth c Q G nL pc lv stk w :=
  fun H locs ls h1 h2 h3 => va_calll (runV X hM hc hi hse hl K ho hR hn hst hcat hd h1 h2 h3) h2 (fun _ _ h => h) (fun _ h => h) (fun r u t H1 locs1 ht hvm hw hB hz hk hS => by obtain ⟨z, rfl, hp⟩ := hw; exact k z u hp H1 locs1 ls (by rw [← ht]; exact hB) hS h3)
theorem g_callsl (X : Cx p s m args meth c cc nL ret own G) {y : MethodName} {b : ByteArray} {n rf rl np idx : Nat} {rt : Option FieldType} {As stk : List Value} {post : Int → Wd → Prop} (hM : Ml l y b n rt rf rl G As w post) (hc : CM y b n rt np) (hs : Cond.static y ∈ gw) (hl : Cond.methodLink own idx y ∈ gw) (hR : rf + 1 ≤ R.frames ∧ 8 + (n + 11) + rl ≤ R.locals) (hn : As.length = np) (hst : stk = As.reverse ++ st) (hcat : (st.map fun v => v.category).sum ≤ 8) (hd : decode cc pc = .ok (.invokestatic idx, 3)) (k : ∀ (z : Int) (w' : Wd), post z w' → Gj p l e R s m args below meth c Q G nL (pc + 3) lv (.long (lI z) :: st) w') : Gj p l e R s m args below meth c Q G nL pc lv stk w :=
  fun H locs ls h1 h2 h3 => va_calll (runS X hM hc hs hl hR hn hst hcat hd h1 h2 h3) h2 (fun _ _ h => h) (fun _ h => h) (fun r u t H1 locs1 ht hvm hw hB hz hk hS => by obtain ⟨z, rfl, hp⟩ := hw; exact k z u hp H1 locs1 ls (by rw [← ht]; exact hB) hS h3)
theorem g_callnl (X : Cx p s m args meth c cc nL ret own G) {y : MethodName} {b : ByteArray} {n rf rl np idx : Nat} {rt : Option FieldType} {As stk : List Value} {post : Int → Wd → Prop} (hM : Ml l y b n rt rf rl G As w post) (hc : CM y b n rt np) (hs : Cond.static y ∈ gw) (hl : Cond.methodLinkNest own idx y "ColdHouse" ∈ nw) (hR : rf + 1 ≤ R.frames ∧ 8 + (n + 11) + rl ≤ R.locals) (hn : As.length = np) (hst : stk = As.reverse ++ st) (hcat : (st.map fun v => v.category).sum ≤ 8) (hd : decode cc pc = .ok (.invokestatic idx, 3)) (k : ∀ (z : Int) (w' : Wd), post z w' → Gj p l e R s m args below meth c Q G nL (pc + 3) lv (.long (lI z) :: st) w') : Gj p l e R s m args below meth c Q G nL pc lv stk w :=
  fun H locs ls h1 h2 h3 => va_calll (runSN X hM hc hs hl hR hn hst hcat hd h1 h2 h3) h2 (fun _ _ h => h) (fun _ h => h) (fun r u t H1 locs1 ht hvm hw hB hz hk hS => by obtain ⟨z, rfl, hp⟩ := hw; exact k z u hp H1 locs1 ls (by rw [← ht]; exact hB) hS h3)
end RB
theorem ck_X0 : CK 0 RX0 TX0 6 tyX0 := ⟨rfl, in_X0, tyX0_ok, nmX0, rfl⟩
theorem ck_X1 : CK 1 RX1 TX1 3 tyX1 := ⟨rfl, in_X1, tyX1_ok, nmX1, rfl⟩
theorem ck_X2 : CK 2 RX2 TX2 14 tyX2 := ⟨rfl, in_X2, tyX2_ok, nmX2, rfl⟩
theorem ck_X3 : CK 3 RX3 TX3 3 tyX3 := ⟨rfl, in_X3, tyX3_ok, nmX3, rfl⟩
theorem ck_X4 : CK 4 RX4 TX4 9 tyX4 := ⟨rfl, in_X4, tyX4_ok, nmX4, rfl⟩
theorem ck_X5 : CK 5 RX5 TX5 2 tyX5 := ⟨rfl, in_X5, tyX5_ok, nmX5, rfl⟩
theorem ck_X6 : CK 6 RX6 TX6 15 tyX6 := ⟨rfl, in_X6, tyX6_ok, nmX6, rfl⟩
theorem ck_X7 : CK 7 RX7 TX7 8 tyX7 := ⟨rfl, in_X7, tyX7_ok, nmX7, rfl⟩
theorem ck_X8 : CK 8 RX8 TX8 15 tyX8 := ⟨rfl, in_X8, tyX8_ok, nmX8, rfl⟩
