theorem z_A {G : Ly} {A : Nat → Prop} {C n d : String} {v : Value} {U : State} {H : Heap} (h : va_Z C n d v (gA G) U H) (hA : ∀ q, q < H.size → A q → gA G q) : va_Z C n d v A U H := by
  obtain ⟨cf, kf, fi, f, a, cell, h1, h2, h3, h4, h5, h6, h7, h8⟩ := h
  exact ⟨cf, kf, fi, f, a, cell, h1, h2, h3, h4, h5, h6, h7, fun z => h8 (hA a (Array.getElem?_eq_some_iff.mp h5).1 z)⟩
theorem t_A {G : Ly} {A : Nat → Prop} {ty : FieldType} {t N : Nat} {f : Nat → Value} {U : State} {H : Heap} (h : va_T ty t N f (gA G) U H) (hA : ∀ q, q < H.size → A q → gA G q) : va_T ty t N f A U H := by
  obtain ⟨cell, h1, h2, h3, h4, h5, h6, h7⟩ := h
  exact ⟨cell, h1, h2, h3, h4, h5, h6, fun z => h7 (hA t (Array.getElem?_eq_some_iff.mp h1).1 z)⟩
section KD
variable {p : Program} {l : Launch} {e : Env} {R : Room} {s : State} {m : MethodId} {args : Array Value} {below : List Frame} {meth : Method} {c : Code} {Q : State → Prop} {cc : ByteArray} {nL : Nat} {ret : Option FieldType} {own : String} {G : Ly} {A : Nat → Prop} {pc kc kn : Nat} {lv : List (Nat × Value)} {st : List Value} {P : Heap → Prop}
theorem k_gets (X : Cx p s m args meth c cc nL ret own G) (hAG : ∀ q, q < s.heap.size → A q → gA G q) {idx : Nat} (k0 : Nat) (hk : k0 < 9) (hl : Cond.fieldLinkNest own idx "ColdHouse" (snX k0) "[I" "ColdHouse" ∈ nw) (hd : decode cc pc = .ok (.getstatic idx, 3)) (k : Kj p l e R s m args below meth c Q A nL kc kn (pc + 3) lv (.ref (gSa G k0) :: st) P) : Kj p l e R s m args below meth c Q A nL kc kn pc lv st P :=
  fun H locs ls h1 hz h2 h3 => va_getsN X.1.1 X.1.2.1 (z_A (X.2.2.2.2 k0 hk).1 hAG) h2 X.1.2.2.2.1 (va_Nw.use rfl (X.2.2.2.1 _ hl)) (fun _ h => h) hd (k H locs ls h1 hz h2 h3)
theorem k_slen (X : Cx p s m args meth c cc nL ret own G) (hAG : ∀ q, q < s.heap.size → A q → gA G q) (k0 : Nat) (hk : k0 < 9) (v : Int) (hv : ((slX k0).length : Int) = v) (hd : decode cc pc = .ok (.arraylength, 1)) (k : Kj p l e R s m args below meth c Q A nL kc kn (pc + 1) lv (.int (iI v) :: st) P) : Kj p l e R s m args below meth c Q A nL kc kn pc lv (.ref (gSa G k0) :: st) P := by
  subst hv
  exact fun H locs ls h1 hz h2 h3 => va_tlen X.1.1 X.1.2.1 (t_A (X.2.2.2.2 k0 hk).2 hAG) h2 (v := iI ((slX k0).length : Int)) (Int32.ofInt_eq_ofNat).symm hd (k H locs ls h1 hz h2 h3)
end KD
theorem ag_one {G : Ly} {o c n : Nat} (ho : gOb G o = some c) (hz : n = gAd G o + 1) : ∀ q, q < n → Aq G o q → gA G q := fun q a b => by
  have b : gAd G o ≤ q := b
  have e : q = gAd G o := by omega
  rw [e]; exact gA_o ho

theorem one_2 {G : Ly} {o q : Nat} (ho : gOb G o = some 2) (hk : gAr G o 1 = gAd G o + 1 ∧ gAr G o 2 = gAd G o + 2 ∧ gAr G o 3 = gAd G o + 3 ∧ gAr G o 4 = gAd G o + 4 ∧ gAr G o 5 = gAd G o + 5 ∧ gAr G o 6 = gAd G o + 6) (h : gA (gR G (fun z => z == o)) q) : gAd G o ≤ q := by
  obtain ⟨o', c', h1, h2⟩ := h
  obtain ⟨b1, b2⟩ := gR_ob h1
  have e : o' = o := by simpa using b1
  subst e
  cases ho.symm.trans b2
  rcases h2 with h2 | ⟨f, f1, f2, h2⟩
  · have h2 : q = gAd G o' := h2
    omega
  · have h2 : q = gAr G o' f := h2
    have hf : f = 1 ∨ f = 2 ∨ f = 3 ∨ f = 4 ∨ f = 5 ∨ f = 6 := (by decide : ∀ f, f < nfX 2 → isA (fkX 2 f) = true → f = 1 ∨ f = 2 ∨ f = 3 ∨ f = 4 ∨ f = 5 ∨ f = 6) f f1 f2
    rcases hf with rfl | rfl | rfl | rfl | rfl | rfl <;> omega
set_option maxHeartbeats 4000000 in
set_option maxRecDepth 100000 in
theorem c_X2_init (l : Launch) (G : Ly) (o : Nat) (ho : gOb G o = some 2) (hk : gAr G o 1 = gAd G o + 1 ∧ gAr G o 2 = gAd G o + 2 ∧ gAr G o 3 = gAd G o + 3 ∧ gAr G o 4 = gAd G o + 4 ∧ gAr G o 5 = gAd G o + 5 ∧ gAr G o 6 = gAd G o + 6) : Ci l yX2_init cX2_init 1 1 20 6 36 G o 2 [] (fun _ => True) (fun q => q == o) (fun w' => w' = wz) := by
  refine ci_of (by decide) rfl (Nat.le_of_ble_eq_true rfl) rfl ?_
  intro p e s m below meth c X hF hin hz
  have hA : Aq G o (gAd G o) := Nat.le_refl _
  refine k_aload_n X.1 dX2_init_0 rfl 0 rfl ?_
  refine k_objInit X.1 ml_X2_3 ⟨(Nat.le_of_ble_eq_true rfl), (Nat.le_of_ble_eq_true rfl)⟩ (Nat.le_of_ble_eq_true rfl) dX2_init_1 ?_
  refine k_aload_n X.1 dX2_init_4 rfl 0 rfl ?_
  refine k_bipush X.1 dX2_init_5 rfl ?_
  refine k_newa X (ci := 2) (o := o) (f := 1) (N := 6) (atype := .int) ac_int ⟨by decide, by decide⟩ rfl (ac_i X.2.2.1 rfl rfl) (Nat.le_of_ble_eq_true rfl) ext_true (by omega) ⟨(Nat.le_of_ble_eq_true rfl), (Nat.le_of_ble_eq_true rfl)⟩ dX2_init_7 ?_
  refine k_putF X ck_X2 ho 1 (by decide) fl_X2_9 rfl rfl hin (v := .ref (gAr G o 1)) rfl rfl rfl hA (by decide) off_true dX2_init_9 ?_
  refine k_aload_n X.1 dX2_init_12 rfl 0 rfl ?_
  refine k_bipush X.1 dX2_init_13 rfl ?_
  refine k_newa X (ci := 2) (o := o) (f := 2) (N := 6) (atype := .int) ac_int ⟨by decide, by decide⟩ rfl (ac_i X.2.2.1 rfl rfl) (Nat.le_of_ble_eq_true rfl) ext_true (by omega) ⟨(Nat.le_of_ble_eq_true rfl), (Nat.le_of_ble_eq_true rfl)⟩ dX2_init_15 ?_
  refine k_putF X ck_X2 ho 2 (by decide) fl_X2_15 rfl rfl hin (v := .ref (gAr G o 2)) rfl rfl rfl hA (by decide) off_true dX2_init_17 ?_
  refine k_aload_n X.1 dX2_init_20 rfl 0 rfl ?_
  refine k_bipush X.1 dX2_init_21 rfl ?_
  refine k_newa X (ci := 2) (o := o) (f := 3) (N := 6) (atype := .int) ac_int ⟨by decide, by decide⟩ rfl (ac_i X.2.2.1 rfl rfl) (Nat.le_of_ble_eq_true rfl) ext_true (by omega) ⟨(Nat.le_of_ble_eq_true rfl), (Nat.le_of_ble_eq_true rfl)⟩ dX2_init_23 ?_
  refine k_putF X ck_X2 ho 3 (by decide) fl_X2_18 rfl rfl hin (v := .ref (gAr G o 3)) rfl rfl rfl hA (by decide) off_true dX2_init_25 ?_
  refine k_aload_n X.1 dX2_init_28 rfl 0 rfl ?_
  refine k_bipush X.1 dX2_init_29 rfl ?_
  refine k_newa X (ci := 2) (o := o) (f := 4) (N := 6) (atype := .int) ac_int ⟨by decide, by decide⟩ rfl (ac_i X.2.2.1 rfl rfl) (Nat.le_of_ble_eq_true rfl) ext_true (by omega) ⟨(Nat.le_of_ble_eq_true rfl), (Nat.le_of_ble_eq_true rfl)⟩ dX2_init_31 ?_
  refine k_putF X ck_X2 ho 4 (by decide) fl_X2_21 rfl rfl hin (v := .ref (gAr G o 4)) rfl rfl rfl hA (by decide) off_true dX2_init_33 ?_
  refine k_aload_n X.1 dX2_init_36 rfl 0 rfl ?_
  refine k_bipush X.1 dX2_init_37 rfl ?_
  refine k_newa X (ci := 2) (o := o) (f := 5) (N := 6) (atype := .int) ac_int ⟨by decide, by decide⟩ rfl (ac_i X.2.2.1 rfl rfl) (Nat.le_of_ble_eq_true rfl) ext_true (by omega) ⟨(Nat.le_of_ble_eq_true rfl), (Nat.le_of_ble_eq_true rfl)⟩ dX2_init_39 ?_
  refine k_putF X ck_X2 ho 5 (by decide) fl_X2_24 rfl rfl hin (v := .ref (gAr G o 5)) rfl rfl rfl hA (by decide) off_true dX2_init_41 ?_
  refine k_aload_n X.1 dX2_init_44 rfl 0 rfl ?_
  refine k_bipush X.1 dX2_init_45 rfl ?_
  refine k_newa X (ci := 2) (o := o) (f := 6) (N := 6) (atype := .int) ac_int ⟨by decide, by decide⟩ rfl (ac_i X.2.2.1 rfl rfl) (Nat.le_of_ble_eq_true rfl) ext_true (by omega) ⟨(Nat.le_of_ble_eq_true rfl), (Nat.le_of_ble_eq_true rfl)⟩ dX2_init_47 ?_
  refine k_putF X ck_X2 ho 6 (by decide) fl_X2_27 rfl rfl hin (v := .ref (gAr G o 6)) rfl rfl rfl hA (by decide) off_true dX2_init_49 ?_
  refine k_vret X.1 rfl dX2_init_52 wz rfl (fun t ht hz2 => ⟨hold_one ho (rq_done ht.2 rfl (by decide) (by decide)), by omega⟩)

theorem one_4 {G : Ly} {o q : Nat} (ho : gOb G o = some 4) (hk : gAr G o 1 = gAd G o + 1 ∧ gAr G o 2 = gAd G o + 2) (h : gA (gR G (fun z => z == o)) q) : gAd G o ≤ q := by
  obtain ⟨o', c', h1, h2⟩ := h
  obtain ⟨b1, b2⟩ := gR_ob h1
  have e : o' = o := by simpa using b1
  subst e
  cases ho.symm.trans b2
  rcases h2 with h2 | ⟨f, f1, f2, h2⟩
  · have h2 : q = gAd G o' := h2
    omega
  · have h2 : q = gAr G o' f := h2
    have hf : f = 1 ∨ f = 2 := (by decide : ∀ f, f < nfX 4 → isA (fkX 4 f) = true → f = 1 ∨ f = 2) f f1 f2
    rcases hf with rfl | rfl <;> omega
set_option maxHeartbeats 4000000 in
set_option maxRecDepth 100000 in
theorem c_X4_init (l : Launch) (G : Ly) (o : Nat) (ho : gOb G o = some 4) (hlk : gLk G o 0 = 2) (hk : gAr G o 1 = gAd G o + 1 ∧ gAr G o 2 = gAd G o + 2) : Ci l yX4_init cX4_init 2 1 20 2 562 G o 4 [.ref (gAd G 2)] (fun _ => True) (fun q => q == o) (fun w' => w' = wz) := by
  refine ci_of (by decide) rfl (Nat.le_of_ble_eq_true rfl) rfl ?_
  intro p e s m below meth c X hF hin hz
  have hA : Aq G o (gAd G o) := Nat.le_refl _
  refine k_aload_n X.1 dX4_init_0 rfl 0 rfl ?_
  refine k_objInit X.1 ml_X4_5 ⟨(Nat.le_of_ble_eq_true rfl), (Nat.le_of_ble_eq_true rfl)⟩ (Nat.le_of_ble_eq_true rfl) dX4_init_1 ?_
  refine k_aload_n X.1 dX4_init_4 rfl 0 rfl ?_
  refine k_sipush X.1 dX4_init_5 rfl ?_
  refine k_newa X (ci := 4) (o := o) (f := 1) (N := 481) (atype := .long) ac_long ⟨by decide, by decide⟩ rfl (ac_l X.2.2.1 rfl rfl) (Nat.le_of_ble_eq_true rfl) ext_true (by omega) ⟨(Nat.le_of_ble_eq_true rfl), (Nat.le_of_ble_eq_true rfl)⟩ dX4_init_8 ?_
  refine k_putF X ck_X4 ho 1 (by decide) fl_X4_11 rfl rfl hin (v := .ref (gAr G o 1)) rfl rfl rfl hA (by decide) off_true dX4_init_10 ?_
  refine k_aload_n X.1 dX4_init_13 rfl 0 rfl ?_
  refine k_bipush X.1 dX4_init_14 rfl ?_
  refine k_newa X (ci := 4) (o := o) (f := 2) (N := 81) (atype := .long) ac_long ⟨by decide, by decide⟩ rfl (ac_l X.2.2.1 rfl rfl) (Nat.le_of_ble_eq_true rfl) ext_true (by omega) ⟨(Nat.le_of_ble_eq_true rfl), (Nat.le_of_ble_eq_true rfl)⟩ dX4_init_16 ?_
  refine k_putF X ck_X4 ho 2 (by decide) fl_X4_15 rfl rfl hin (v := .ref (gAr G o 2)) rfl rfl rfl hA (by decide) off_true dX4_init_18 ?_
  refine k_aload_n X.1 dX4_init_21 rfl 0 rfl ?_
  refine k_aload_n X.1 dX4_init_22 rfl 1 rfl ?_
  refine k_putF X ck_X4 ho 0 (by decide) fl_X4_18 rfl rfl hin (v := .ref (gAd G 2)) (by unfold fval; simp only [show (fkX 4 0).1 = 4 from rfl]; rw [hlk]) rfl rfl hA (by decide) off_true dX4_init_23 ?_
  refine k_vret X.1 rfl dX4_init_26 wz rfl (fun t ht hz2 => ⟨hold_one ho (rq_done ht.2 rfl (by decide) (by decide)), by omega⟩)

theorem one_0 {G : Ly} {o q : Nat} (ho : gOb G o = some 0) (hk : gAr G o 1 = gAd G o + 1 ∧ gAr G o 2 = gAd G o + 2) (h : gA (gR G (fun z => z == o)) q) : gAd G o ≤ q := by
  obtain ⟨o', c', h1, h2⟩ := h
  obtain ⟨b1, b2⟩ := gR_ob h1
  have e : o' = o := by simpa using b1
  subst e
  cases ho.symm.trans b2
  rcases h2 with h2 | ⟨f, f1, f2, h2⟩
  · have h2 : q = gAd G o' := h2
    omega
  · have h2 : q = gAr G o' f := h2
    have hf : f = 1 ∨ f = 2 := (by decide : ∀ f, f < nfX 0 → isA (fkX 0 f) = true → f = 1 ∨ f = 2) f f1 f2
    rcases hf with rfl | rfl <;> omega
set_option maxHeartbeats 4000000 in
set_option maxRecDepth 100000 in
theorem c_X0_init (l : Launch) (G : Ly) (o : Nat) (ho : gOb G o = some 0) (hlk : gLk G o 0 = 2) (hk : gAr G o 1 = gAd G o + 1 ∧ gAr G o 2 = gAd G o + 2) : Ci l yX0_init cX0_init 2 1 20 2 562 G o 0 [.ref (gAd G 2)] (fun _ => True) (fun q => q == o) (fun w' => w' = wz) := by
  refine ci_of (by decide) rfl (Nat.le_of_ble_eq_true rfl) rfl ?_
  intro p e s m below meth c X hF hin hz
  have hA : Aq G o (gAd G o) := Nat.le_refl _
  refine k_aload_n X.1 dX0_init_0 rfl 0 rfl ?_
  refine k_objInit X.1 ml_X0_5 ⟨(Nat.le_of_ble_eq_true rfl), (Nat.le_of_ble_eq_true rfl)⟩ (Nat.le_of_ble_eq_true rfl) dX0_init_1 ?_
  refine k_aload_n X.1 dX0_init_4 rfl 0 rfl ?_
  refine k_sipush X.1 dX0_init_5 rfl ?_
  refine k_newa X (ci := 0) (o := o) (f := 1) (N := 481) (atype := .int) ac_int ⟨by decide, by decide⟩ rfl (ac_i X.2.2.1 rfl rfl) (Nat.le_of_ble_eq_true rfl) ext_true (by omega) ⟨(Nat.le_of_ble_eq_true rfl), (Nat.le_of_ble_eq_true rfl)⟩ dX0_init_8 ?_
  refine k_putF X ck_X0 ho 1 (by decide) fl_X0_11 rfl rfl hin (v := .ref (gAr G o 1)) rfl rfl rfl hA (by decide) off_true dX0_init_10 ?_
  refine k_aload_n X.1 dX0_init_13 rfl 0 rfl ?_
  refine k_bipush X.1 dX0_init_14 rfl ?_
  refine k_newa X (ci := 0) (o := o) (f := 2) (N := 81) (atype := .int) ac_int ⟨by decide, by decide⟩ rfl (ac_i X.2.2.1 rfl rfl) (Nat.le_of_ble_eq_true rfl) ext_true (by omega) ⟨(Nat.le_of_ble_eq_true rfl), (Nat.le_of_ble_eq_true rfl)⟩ dX0_init_16 ?_
  refine k_putF X ck_X0 ho 2 (by decide) fl_X0_15 rfl rfl hin (v := .ref (gAr G o 2)) rfl rfl rfl hA (by decide) off_true dX0_init_18 ?_
  refine k_aload_n X.1 dX0_init_21 rfl 0 rfl ?_
  refine k_aload_n X.1 dX0_init_22 rfl 1 rfl ?_
  refine k_putF X ck_X0 ho 0 (by decide) fl_X0_18 rfl rfl hin (v := .ref (gAd G 2)) (by unfold fval; simp only [show (fkX 0 0).1 = 4 from rfl]; rw [hlk]) rfl rfl hA (by decide) off_true dX0_init_23 ?_
  refine k_vret X.1 rfl dX0_init_26 wz rfl (fun t ht hz2 => ⟨hold_one ho (rq_done ht.2 rfl (by decide) (by decide)), by omega⟩)

theorem one_3 {G : Ly} {o q : Nat} (ho : gOb G o = some 3) (hk : gAr G o 1 = gAd G o + 1 ∧ gAr G o 2 = gAd G o + 2) (h : gA (gR G (fun z => z == o)) q) : gAd G o ≤ q := by
  obtain ⟨o', c', h1, h2⟩ := h
  obtain ⟨b1, b2⟩ := gR_ob h1
  have e : o' = o := by simpa using b1
  subst e
  cases ho.symm.trans b2
  rcases h2 with h2 | ⟨f, f1, f2, h2⟩
  · have h2 : q = gAd G o' := h2
    omega
  · have h2 : q = gAr G o' f := h2
    have hf : f = 1 ∨ f = 2 := (by decide : ∀ f, f < nfX 3 → isA (fkX 3 f) = true → f = 1 ∨ f = 2) f f1 f2
    rcases hf with rfl | rfl <;> omega
set_option maxHeartbeats 4000000 in
set_option maxRecDepth 100000 in
theorem c_X3_init (l : Launch) (G : Ly) (o : Nat) (ho : gOb G o = some 3) (hk : gAr G o 1 = gAd G o + 1 ∧ gAr G o 2 = gAd G o + 2) : Ci l yX3_init cX3_init 1 1 20 2 206 G o 3 [] (fun _ => True) (fun q => q == o) (fun w' => w' = wz) := by
  refine ci_of (by decide) rfl (Nat.le_of_ble_eq_true rfl) rfl ?_
  intro p e s m below meth c X hF hin hz
  have hA : Aq G o (gAd G o) := Nat.le_refl _
  refine k_aload_n X.1 dX3_init_0 rfl 0 rfl ?_
  refine k_objInit X.1 ml_X3_3 ⟨(Nat.le_of_ble_eq_true rfl), (Nat.le_of_ble_eq_true rfl)⟩ (Nat.le_of_ble_eq_true rfl) dX3_init_1 ?_
  refine k_aload_n X.1 dX3_init_4 rfl 0 rfl ?_
  refine k_sipush X.1 dX3_init_5 rfl ?_
  refine k_newa X (ci := 3) (o := o) (f := 1) (N := 200) (atype := .char) ac_char ⟨by decide, by decide⟩ rfl (ac_c X.2.2.1 rfl rfl) (Nat.le_of_ble_eq_true rfl) ext_true (by omega) ⟨(Nat.le_of_ble_eq_true rfl), (Nat.le_of_ble_eq_true rfl)⟩ dX3_init_8 ?_
  refine k_putF X ck_X3 ho 1 (by decide) fl_X3_9 rfl rfl hin (v := .ref (gAr G o 1)) rfl rfl rfl hA (by decide) off_true dX3_init_10 ?_
  refine k_aload_n X.1 dX3_init_13 rfl 0 rfl ?_
  refine k_gets X (ag_one ho hz) 4 (by decide) fn_X3_15 dX3_init_14 ?_
  refine k_slen X (ag_one ho hz) 4 (by decide) 6 rfl dX3_init_17 ?_
  refine k_newa X (ci := 3) (o := o) (f := 2) (N := 6) (atype := .int) ac_int ⟨by decide, by decide⟩ rfl (ac_i X.2.2.1 rfl rfl) (Nat.le_of_ble_eq_true rfl) ext_true (by omega) ⟨(Nat.le_of_ble_eq_true rfl), (Nat.le_of_ble_eq_true rfl)⟩ dX3_init_18 ?_
  refine k_putF X ck_X3 ho 2 (by decide) fl_X3_19 rfl rfl hin (v := .ref (gAr G o 2)) rfl rfl rfl hA (by decide) off_true dX3_init_20 ?_
  refine k_vret X.1 rfl dX3_init_23 wz rfl (fun t ht hz2 => ⟨hold_one ho (rq_done ht.2 rfl (by decide) (by decide)), by omega⟩)

theorem one_6 {G : Ly} {o q : Nat} (ho : gOb G o = some 6) (hk : gAr G o 0 = gAd G o + 1 ∧ gAr G o 10 = gAd G o + 2 ∧ gAr G o 11 = gAd G o + 3 ∧ gAr G o 12 = gAd G o + 4 ∧ gAr G o 13 = gAd G o + 5 ∧ gAr G o 14 = gAd G o + 6) (h : gA (gR G (fun z => z == o)) q) : gAd G o ≤ q := by
  obtain ⟨o', c', h1, h2⟩ := h
  obtain ⟨b1, b2⟩ := gR_ob h1
  have e : o' = o := by simpa using b1
  subst e
  cases ho.symm.trans b2
  rcases h2 with h2 | ⟨f, f1, f2, h2⟩
  · have h2 : q = gAd G o' := h2
    omega
  · have h2 : q = gAr G o' f := h2
    have hf : f = 0 ∨ f = 10 ∨ f = 11 ∨ f = 12 ∨ f = 13 ∨ f = 14 := (by decide : ∀ f, f < nfX 6 → isA (fkX 6 f) = true → f = 0 ∨ f = 10 ∨ f = 11 ∨ f = 12 ∨ f = 13 ∨ f = 14) f f1 f2
    rcases hf with rfl | rfl | rfl | rfl | rfl | rfl <;> omega
set_option maxHeartbeats 4000000 in
set_option maxRecDepth 100000 in
theorem c_X6_init (l : Launch) (G : Ly) (o : Nat) (ho : gOb G o = some 6) (hk : gAr G o 0 = gAd G o + 1 ∧ gAr G o 10 = gAd G o + 2 ∧ gAr G o 11 = gAd G o + 3 ∧ gAr G o 12 = gAd G o + 4 ∧ gAr G o 13 = gAd G o + 5 ∧ gAr G o 14 = gAd G o + 6) : Ci l yX6_init cX6_init 1 2 55 6 82 G o 6 [] (fun _ => True) (fun q => q == o) (fun w' => ResX (w' o) ∧ ∀ j, w' o 13 j = 0) := by
  refine ci_of (by decide) rfl (Nat.le_of_ble_eq_true rfl) rfl ?_
  intro p e s m below meth c X hF hin hz
  have hA : Aq G o (gAd G o) := Nat.le_refl _
  refine k_aload_n X.1 dX6_init_0 rfl 0 rfl ?_
  refine k_objInit X.1 ml_X6_3 ⟨(Nat.le_of_ble_eq_true rfl), (Nat.le_of_ble_eq_true rfl)⟩ (Nat.le_of_ble_eq_true rfl) dX6_init_1 ?_
  refine k_aload_n X.1 dX6_init_4 rfl 0 rfl ?_
  refine k_iconst X.1 dX6_init_5 ?_
  refine k_newa X (ci := 6) (o := o) (f := 0) (N := 4) (atype := .int) ac_int ⟨by decide, by decide⟩ rfl (ac_i X.2.2.1 rfl rfl) (Nat.le_of_ble_eq_true rfl) ext_true (by omega) ⟨(Nat.le_of_ble_eq_true rfl), (Nat.le_of_ble_eq_true rfl)⟩ dX6_init_6 ?_
  refine k_putF X ck_X6 ho 0 (by decide) fl_X6_9 rfl rfl hin (v := .ref (gAr G o 0)) rfl rfl rfl hA (by decide) off_true dX6_init_8 ?_
  refine k_aload_n X.1 dX6_init_11 rfl 0 rfl ?_
  refine k_bipush X.1 dX6_init_12 rfl ?_
  refine k_newa X (ci := 6) (o := o) (f := 10) (N := 6) (atype := .int) ac_int ⟨by decide, by decide⟩ rfl (ac_i X.2.2.1 rfl rfl) (Nat.le_of_ble_eq_true rfl) ext_true (by omega) ⟨(Nat.le_of_ble_eq_true rfl), (Nat.le_of_ble_eq_true rfl)⟩ dX6_init_14 ?_
  refine k_putF X ck_X6 ho 10 (by decide) fl_X6_15 rfl rfl hin (v := .ref (gAr G o 10)) rfl rfl rfl hA (by decide) off_true dX6_init_16 ?_
  refine k_aload_n X.1 dX6_init_19 rfl 0 rfl ?_
  refine k_bipush X.1 dX6_init_20 rfl ?_
  refine k_newa X (ci := 6) (o := o) (f := 11) (N := 6) (atype := .int) ac_int ⟨by decide, by decide⟩ rfl (ac_i X.2.2.1 rfl rfl) (Nat.le_of_ble_eq_true rfl) ext_true (by omega) ⟨(Nat.le_of_ble_eq_true rfl), (Nat.le_of_ble_eq_true rfl)⟩ dX6_init_22 ?_
  refine k_putF X ck_X6 ho 11 (by decide) fl_X6_18 rfl rfl hin (v := .ref (gAr G o 11)) rfl rfl rfl hA (by decide) off_true dX6_init_24 ?_
  refine k_aload_n X.1 dX6_init_27 rfl 0 rfl ?_
  refine k_bipush X.1 dX6_init_28 rfl ?_
  refine k_newa X (ci := 6) (o := o) (f := 12) (N := 6) (atype := .int) ac_int ⟨by decide, by decide⟩ rfl (ac_i X.2.2.1 rfl rfl) (Nat.le_of_ble_eq_true rfl) ext_true (by omega) ⟨(Nat.le_of_ble_eq_true rfl), (Nat.le_of_ble_eq_true rfl)⟩ dX6_init_30 ?_
  refine k_putF X ck_X6 ho 12 (by decide) fl_X6_21 rfl rfl hin (v := .ref (gAr G o 12)) rfl rfl rfl hA (by decide) off_true dX6_init_32 ?_
  refine k_aload_n X.1 dX6_init_35 rfl 0 rfl ?_
  refine k_bipush X.1 dX6_init_36 rfl ?_
  refine k_newa X (ci := 6) (o := o) (f := 13) (N := 54) (atype := .int) ac_int ⟨by decide, by decide⟩ rfl (ac_i X.2.2.1 rfl rfl) (Nat.le_of_ble_eq_true rfl) ext_true (by omega) ⟨(Nat.le_of_ble_eq_true rfl), (Nat.le_of_ble_eq_true rfl)⟩ dX6_init_38 ?_
  refine k_putF X ck_X6 ho 13 (by decide) fl_X6_24 rfl rfl hin (v := .ref (gAr G o 13)) rfl rfl rfl hA (by decide) off_true dX6_init_40 ?_
  refine k_aload_n X.1 dX6_init_43 rfl 0 rfl ?_
  refine k_bipush X.1 dX6_init_44 rfl ?_
  refine k_newa X (ci := 6) (o := o) (f := 14) (N := 6) (atype := .int) ac_int ⟨by decide, by decide⟩ rfl (ac_i X.2.2.1 rfl rfl) (Nat.le_of_ble_eq_true rfl) ext_true (by omega) ⟨(Nat.le_of_ble_eq_true rfl), (Nat.le_of_ble_eq_true rfl)⟩ dX6_init_46 ?_
  refine k_putF X ck_X6 ho 14 (by decide) fl_X6_27 rfl rfl hin (v := .ref (gAr G o 14)) rfl rfl rfl hA (by decide) off_true dX6_init_48 ?_
  refine k_aload_n X.1 dX6_init_51 rfl 0 rfl ?_
  have ho1 : gOb (gR G (fun q => q == o)) o = some 6 := gR_of (by simp) ho
  refine k_wk (P' := Hold (gR G (fun q => q == o)) wz) (fun H _ h => hold_one ho (rq_done h.2 rfl (by decide) (by decide))) ?_
  refine k_mv (st := []) X.1 (sx_R X.2) (fun q a b => ?_) (fun q h => one_6 ho hk h) (c_X6_reset l (gR G (fun q => q == o)) o wz ho1) cm_X6_reset im_X6_reset se_X6_reset ml_X6_30 ck_X6 ho1 ⟨Nat.le_of_ble_eq_true rfl, Nat.le_of_ble_eq_true rfl⟩ ⟨Nat.le_of_ble_eq_true rfl, Nat.le_of_ble_eq_true rfl⟩ rfl rfl (Nat.le_of_ble_eq_true rfl) dX6_init_52 (fun H h => h) (fun w' hp => ?_)
  · have b : gAd G o ≤ q := b
    have e : q = gAd G o := by omega
    rw [e]; exact gA_o (G := gR G (fun q => q == o)) ho1
  · exact k_vret X.1 rfl dX6_init_55 w' ⟨hp.2.1, hp.2.2⟩ (fun t ht hz2 => ⟨ht.1, by omega⟩)
