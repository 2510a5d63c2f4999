/-! the law's walk: the script, the cases of its switch -/
section LA
variable {p : Program} {l : Launch} {e : Env} {R : Room} {s : State} {m : MethodId} {args : Array Value} {below : List Frame} {meth : Method} {c : Code} {Q : State → Prop} {cc : ByteArray} {nL : Nat} {ret : Option FieldType} {own : String} {A : Nat → Prop} {pc kc kn : Nat} {lv : List (Nat × Value)} {st : List Value} {P : Heap → Prop}
theorem k_sld (X : Cb p s m args meth c cc nL ret own) {b L : Nat} {xs : Nat → Int32} (hXs : va_X b L xs s s.heap) (hbl : b < s.heap.size) (hbA : ¬ A b) {a : Int} (ha : 0 ≤ a ∧ a < (L : Int)) (hL : L ≤ 2048) (hd : decode cc pc = .ok (.iaload, 1)) (k : Kj p l e R s m args below meth c Q A nL kc kn (pc + 1) lv (.int (iI (xs a.toNat).toInt) :: st) P) : Kj p l e R s m args below meth c Q A nL kc kn pc lv (.int (iI a) :: .ref b :: st) P :=
  fun H locs ls h1 hz h2 h3 => va_sld X.1 X.2.1 hXs hbl hbA h2 (iI_in ha.1 ha.2 (by omega)) hd (by
    rw [iI_clamp ha.1 (by omega)]
    have h := k H locs ls h1 hz h2 h3
    rwa [iI_of] at h)
theorem k_slenX (X : Cb p s m args meth c cc nL ret own) {b L : Nat} {xs : Nat → Int32} (hXs : va_X b L xs s s.heap) (hbl : b < s.heap.size) (hbA : ¬ A b) (hd : decode cc pc = .ok (.arraylength, 1)) (k : Kj p l e R s m args below meth c Q A nL kc kn (pc + 1) lv (.int (iI (L : Int)) :: st) P) : Kj p l e R s m args below meth c Q A nL kc kn pc lv (.ref b :: st) P :=
  fun H locs ls h1 hz h2 h3 => va_slen X.1 X.2.1 hXs hbl hbA h2 hd (by
    have h := k H locs ls h1 hz h2 h3
    rwa [show iI (L : Int) = Int32.ofNat L from Int32.ofInt_eq_ofNat] at h)
theorem k_same (X : Cb p s m args meth c cc nL ret own) {a b : Int} {off : Int} {tgt : Nat} (h : a = b) (hd : decode cc pc = .ok (.if_icmp .eq off, 3)) (ht : (pc : Int) + off = (tgt : Int)) (k : Kj p l e R s m args below meth c Q A nL kc kn tgt lv st P) : Kj p l e R s m args below meth c Q A nL kc kn pc lv (.int (iI b) :: .int (iI a) :: st) P :=
  fun H locs ls h1 hz h2 h3 => lv_icmp_eq X.1 X.2.1 hd ht (fun _ => k H locs ls h1 hz h2 h3) (fun q => absurd (by rw [h]) q)
end LA
theorem band15_in (a : Int) : 0 ≤ band a 15 ∧ band a 15 ≤ 15 := by
  have h : ((iI a).toBitVec &&& (iI 15).toBitVec).toNat ≤ 15 := by
    rw [BitVec.toNat_and]
    exact Nat.le_trans Nat.and_le_right (by decide)
  have e : band a 15 = ((((iI a).toBitVec &&& (iI 15).toBitVec).toNat : Nat) : Int) := by
    show ((iI a).toBitVec &&& (iI 15).toBitVec).toInt = _
    exact BitVec.toInt_eq_toNat_of_lt (by omega)
  rw [e]
  omega
theorem gA_dis {G : Ly} (hA : Ap G) {B B' : Nat → Bool} (hB : ∀ o, B o = true → B' o = false) {q : Nat} (h : gA (gR G B) q) : ¬ gA (gR G B') q := by
  rintro ⟨o', c', h1', h2'⟩
  obtain ⟨o, c, h1, h2⟩ := h
  obtain ⟨b1, b2⟩ := gR_ob h1
  obtain ⟨b1', b2'⟩ := gR_ob h1'
  have hne : o ≠ o' := fun z => by
    have := hB o b1
    rw [z, b1'] at this
    exact absurd this (by decide)
  rcases h2 with h2 | ⟨f, f1, f2, h2⟩
  · rcases h2' with h2' | ⟨f', g1, g2, h2'⟩
    · exact hne (hA.1 _ _ _ _ b2 b2' (h2.symm.trans h2'))
    · exact hA.2.2 _ _ _ _ _ b2 b2' g1 g2 (h2.symm.trans h2')
  · rcases h2' with h2' | ⟨f', g1, g2, h2'⟩
    · exact hA.2.2 _ _ _ _ _ b2' b2 f1 f2 (h2'.symm.trans h2)
    · exact hne (hA.2.1 _ _ _ _ _ _ b2 b2' f1 f2 g1 g2 (h2.symm.trans h2')).1
abbrev b20 : Nat → Bool := fun q => q == 20
theorem b9_20 : ∀ o, bs9 o = true → b20 o = false := by
  intro o h
  by_cases e : o = 20
  · subst e; exact absurd h (by decide)
  · simp [b20, e]
theorem b20_9 : ∀ o, b20 o = true → bs9 o = false := by
  intro o h
  have e : o = 20 := by simpa [b20] using h
  subst e
  decide
theorem pc1_keep {G : Ly} {B B' : Nat → Bool} (hA : Ap G) (hB : ∀ o, B' o = true → B o = false) {P : Heap → Prop} {x : Wd} (hP : ∀ H, P H → Hold (gR G B') x H) {H1 : Heap} (h : Pc1 (gR G B) P H1) : Hold (gR G B') x H1 := by
  obtain ⟨H, h1, h2, h3⟩ := h
  have hh := hP H h1
  exact hh.keptA (fun q hq => h3 q (hh.lt hq) (gA_dis hA hB hq))
theorem inv_0 {w x : Wd} (h : XP w) (g : PlR md4 (x 20 4) ∧ x 20 8 0 = 0 ∧ x 20 11 0 = 0 ∧ (∀ j : Nat, j < 101 → x 20 5 j = d0X j) ∧ x 20 1 0 = 0 ∧ ∀ j : Nat, x 20 9 j = 0) : INV w x := by
  obtain ⟨a1, a2, a3, a4, a5, a6, a7, a8, a9⟩ := h
  obtain ⟨g1, g2, g3, g4, g5, g6⟩ := g
  have e0 : w 9 0 0 = 0 := by rw [a3]; rfl
  have e1 : w 9 1 0 = 0 := by rw [a3]; rfl
  refine ⟨⟨by rw [a1]; exact pv_pl (by decide) tx_ok tx_m, by rw [a1]; exact tx_plR g1⟩, hst_res a2.1 (fun j _ => by rw [a2.2 j]; decide) g4, ⟨⟨by rw [e1]; decide, by rw [e0]; decide⟩, by rw [g2, e0], fun c hc => by rw [e0] at hc; omega⟩, ⟨⟨Or.inl (by rw [a4]; rfl), Or.inl (by rw [a5]; rfl), Or.inl (by rw [a6]; rfl)⟩, Or.inl g3⟩, ⟨⟨by rw [a7]; decide, a8, a9⟩, by rw [g5, a7], fun j hj => by rw [a7] at hj; omega, fun j _ => by rw [g6 j]; decide⟩⟩
abbrev Lj (p : Program) (l : Launch) (e : Env) (s : State) (m : MethodId) (b : Nat) (below : List Frame) (meth : Method) (c : Code) (D : va_G) (Ca : Nat → ClassId) (Sa : Nat → Nat) (pc : Nat) (i : Int) (st : List Value) (w x : Wd) : Prop :=
  Kj p l e room_1 s m #[Value.ref b] below meth c (lw_Z below #[Value.ref b] s) (fun q => s.heap.size ≤ q) 4 75 18881 pc [(3, .int (iI i)), (2, .ref (s.heap.size + offO 20)), (1, .ref (s.heap.size + offO 0)), (0, .ref b)] st (fun H => Hold (gR (gL s.heap.size D Ca Sa) bs9) w H ∧ Hold (gR (gL s.heap.size D Ca Sa) b20) x H)
section LB
variable {p : Program} {l : Launch} {e : Env} {s : State} {m : MethodId} {b : Nat} {below : List Frame} {meth : Method} {c : Code} {D : va_G} {Ca : Nat → ClassId} {Sa : Nat → Nat} {L : Nat} {xs : Nat → Int32} {i : Int} {w x : Wd}
set_option maxHeartbeats 4000000 in
set_option maxRecDepth 100000 in
theorem case_write (X : Cb p s m #[Value.ref b] meth c code 4 ret "ColdHouseLaw") (hSx : Sx (gL s.heap.size D Ca Sa) s s.heap) (hXs : va_X b L xs s s.heap) (hbl : b < s.heap.size) (hL : L ≤ 2048) (hi : 0 ≤ i) (hi2 : i + 3 < (L : Int)) (h : INV w x) (next : ∀ w2 x2, INV w2 x2 → Lj p l e s m b below meth c D Ca Sa 520 i [] w2 x2) : Lj p l e s m b below meth c D Ca Sa 112 i [] w x := by
  have F := fx_L s.heap.size D Ca Sa bs9 b9_all
  have FM : gOb (gR (gL s.heap.size D Ca Sa) b20) 20 = some 8 := gR_of (by decide) rfl
  have hbA : ¬ (s.heap.size ≤ b) := by omega
  have hA : ∀ B q, gA (gR (gL s.heap.size D Ca Sa) B) q → s.heap.size ≤ q := fun B q z => gA_L (gA_R z)
  obtain ⟨P7, hM7, h7⟩ := pair_write l F FM h ((xs (i + 1).toNat).toInt) (inR_to _)
  refine k_aload_n X dL_112 rfl 2 rfl ?_
  refine k_aload_n X dL_113 rfl 3 rfl ?_
  refine k_iload_n X dL_114 rfl 0 rfl ?_
  refine k_iconst X dL_115 ?_
  refine k_iadd X dL_116 ?_
  refine k_sld X hXs hbl hbA ⟨by omega, by omega⟩ hL dL_117 ?_
  refine k_mi (st := []) (As := [.int (iI (xs (i + 1).toNat).toInt)]) (o := 0) X (sx_R hSx) (fun q a b => by omega) (hA _) hM7 cm_X7_write im_X7_write se_X7_write ml_L_13 ck_X7 (fx0 F) ⟨(Nat.le_of_ble_eq_true rfl), (Nat.le_of_ble_eq_true rfl)⟩ ⟨(Nat.le_of_ble_eq_true rfl), (Nat.le_of_ble_eq_true rfl)⟩ rfl rfl (Nat.le_of_ble_eq_true rfl) dL_118 (fun H hh => hh.1) (fun z w2 hp => ?_)
  refine k_wk (P' := fun H => Hold (gR (gL s.heap.size D Ca Sa) bs9) w2 H ∧ Hold (gR (gL s.heap.size D Ca Sa) b20) x H) (fun H _ hh => ⟨hh.1, pc1_keep hSx.1 b20_9 (fun _ z => z.2) hh.2⟩) ?_
  obtain ⟨P8, hM8, h8⟩ := h7 z w2 hp
  refine k_aload_n X dL_121 rfl 1 rfl ?_
  refine k_aload_n X dL_122 rfl 3 rfl ?_
  refine k_iload_n X dL_123 rfl 0 rfl ?_
  refine k_iconst X dL_124 ?_
  refine k_iadd X dL_125 ?_
  refine k_sld X hXs hbl hbA ⟨by omega, by omega⟩ hL dL_126 ?_
  refine k_mi (st := [.int (iI z)]) (As := [.int (iI (xs (i + 1).toNat).toInt)]) (o := 20) X (sx_R hSx) (fun q a b => by omega) (hA _) hM8 cm_X8_write im_X8_write se_X8_write ml_L_17 ck_X8 FM ⟨(Nat.le_of_ble_eq_true rfl), (Nat.le_of_ble_eq_true rfl)⟩ ⟨(Nat.le_of_ble_eq_true rfl), (Nat.le_of_ble_eq_true rfl)⟩ rfl rfl (Nat.le_of_ble_eq_true rfl) dL_127 (fun H hh => hh.2) (fun z2 x2 hq => ?_)
  obtain ⟨ez, hI⟩ := h8 z2 x2 hq
  refine k_wk (P' := fun H => Hold (gR (gL s.heap.size D Ca Sa) bs9) w2 H ∧ Hold (gR (gL s.heap.size D Ca Sa) b20) x2 H) (fun H _ hh => ⟨pc1_keep hSx.1 b9_20 (fun _ z => z.1) hh.2, hh.1⟩) ?_
  exact k_same X ez dL_130 (tgt := 520) rfl (next w2 x2 hI)
set_option maxHeartbeats 4000000 in
set_option maxRecDepth 100000 in
theorem case_wipe (X : Cb p s m #[Value.ref b] meth c code 4 ret "ColdHouseLaw") (hSx : Sx (gL s.heap.size D Ca Sa) s s.heap) (hXs : va_X b L xs s s.heap) (hbl : b < s.heap.size) (hL : L ≤ 2048) (hi : 0 ≤ i) (hi2 : i + 3 < (L : Int)) (h : INV w x) (next : ∀ w2 x2, INV w2 x2 → Lj p l e s m b below meth c D Ca Sa 520 i [] w2 x2) : Lj p l e s m b below meth c D Ca Sa 135 i [] w x := by
  have F := fx_L s.heap.size D Ca Sa bs9 b9_all
  have FM : gOb (gR (gL s.heap.size D Ca Sa) b20) 20 = some 8 := gR_of (by decide) rfl
  have hbA : ¬ (s.heap.size ≤ b) := by omega
  have hA : ∀ B q, gA (gR (gL s.heap.size D Ca Sa) B) q → s.heap.size ≤ q := fun B q z => gA_L (gA_R z)
  obtain ⟨P7, hM7, h7⟩ := pair_wipe l F FM h
  refine k_aload_n X dL_135 rfl 2 rfl ?_
  refine k_mi (st := []) (As := []) (o := 0) X (sx_R hSx) (fun q a b => by omega) (hA _) hM7 cm_X7_wipe im_X7_wipe se_X7_wipe ml_L_18 ck_X7 (fx0 F) ⟨(Nat.le_of_ble_eq_true rfl), (Nat.le_of_ble_eq_true rfl)⟩ ⟨(Nat.le_of_ble_eq_true rfl), (Nat.le_of_ble_eq_true rfl)⟩ rfl rfl (Nat.le_of_ble_eq_true rfl) dL_136 (fun H hh => hh.1) (fun z w2 hp => ?_)
  refine k_wk (P' := fun H => Hold (gR (gL s.heap.size D Ca Sa) bs9) w2 H ∧ Hold (gR (gL s.heap.size D Ca Sa) b20) x H) (fun H _ hh => ⟨hh.1, pc1_keep hSx.1 b20_9 (fun _ z => z.2) hh.2⟩) ?_
  obtain ⟨P8, hM8, h8⟩ := h7 z w2 hp
  refine k_aload_n X dL_139 rfl 1 rfl ?_
  refine k_mi (st := [.int (iI z)]) (As := []) (o := 20) X (sx_R hSx) (fun q a b => by omega) (hA _) hM8 cm_X8_wipe im_X8_wipe se_X8_wipe ml_L_22 ck_X8 FM ⟨(Nat.le_of_ble_eq_true rfl), (Nat.le_of_ble_eq_true rfl)⟩ ⟨(Nat.le_of_ble_eq_true rfl), (Nat.le_of_ble_eq_true rfl)⟩ rfl rfl (Nat.le_of_ble_eq_true rfl) dL_140 (fun H hh => hh.2) (fun z2 x2 hq => ?_)
  obtain ⟨ez, hI⟩ := h8 z2 x2 hq
  refine k_wk (P' := fun H => Hold (gR (gL s.heap.size D Ca Sa) bs9) w2 H ∧ Hold (gR (gL s.heap.size D Ca Sa) b20) x2 H) (fun H _ hh => ⟨pc1_keep hSx.1 b9_20 (fun _ z => z.1) hh.2, hh.1⟩) ?_
  exact k_same X ez dL_143 (tgt := 520) rfl (next w2 x2 hI)
set_option maxHeartbeats 4000000 in
set_option maxRecDepth 100000 in
theorem case_fault (X : Cb p s m #[Value.ref b] meth c code 4 ret "ColdHouseLaw") (hSx : Sx (gL s.heap.size D Ca Sa) s s.heap) (hXs : va_X b L xs s s.heap) (hbl : b < s.heap.size) (hL : L ≤ 2048) (hi : 0 ≤ i) (hi2 : i + 3 < (L : Int)) (h : INV w x) (next : ∀ w2 x2, INV w2 x2 → Lj p l e s m b below meth c D Ca Sa 520 i [] w2 x2) : Lj p l e s m b below meth c D Ca Sa 148 i [] w x := by
  have F := fx_L s.heap.size D Ca Sa bs9 b9_all
  have FM : gOb (gR (gL s.heap.size D Ca Sa) b20) 20 = some 8 := gR_of (by decide) rfl
  have hbA : ¬ (s.heap.size ≤ b) := by omega
  have hA : ∀ B q, gA (gR (gL s.heap.size D Ca Sa) B) q → s.heap.size ≤ q := fun B q z => gA_L (gA_R z)
  obtain ⟨P7, hM7, h7⟩ := pair_fault l F FM h
  refine k_aload_n X dL_148 rfl 2 rfl ?_
  refine k_mi (st := []) (As := []) (o := 0) X (sx_R hSx) (fun q a b => by omega) (hA _) hM7 cm_X7_fault im_X7_fault se_X7_fault ml_L_23 ck_X7 (fx0 F) ⟨(Nat.le_of_ble_eq_true rfl), (Nat.le_of_ble_eq_true rfl)⟩ ⟨(Nat.le_of_ble_eq_true rfl), (Nat.le_of_ble_eq_true rfl)⟩ rfl rfl (Nat.le_of_ble_eq_true rfl) dL_149 (fun H hh => hh.1) (fun z w2 hp => ?_)
  refine k_wk (P' := fun H => Hold (gR (gL s.heap.size D Ca Sa) bs9) w2 H ∧ Hold (gR (gL s.heap.size D Ca Sa) b20) x H) (fun H _ hh => ⟨hh.1, pc1_keep hSx.1 b20_9 (fun _ z => z.2) hh.2⟩) ?_
  obtain ⟨P8, hM8, h8⟩ := h7 z w2 hp
  refine k_aload_n X dL_152 rfl 1 rfl ?_
  refine k_mi (st := [.int (iI z)]) (As := []) (o := 20) X (sx_R hSx) (fun q a b => by omega) (hA _) hM8 cm_X8_fault im_X8_fault se_X8_fault ml_L_26 ck_X8 FM ⟨(Nat.le_of_ble_eq_true rfl), (Nat.le_of_ble_eq_true rfl)⟩ ⟨(Nat.le_of_ble_eq_true rfl), (Nat.le_of_ble_eq_true rfl)⟩ rfl rfl (Nat.le_of_ble_eq_true rfl) dL_153 (fun H hh => hh.2) (fun z2 x2 hq => ?_)
  obtain ⟨ez, hI⟩ := h8 z2 x2 hq
  refine k_wk (P' := fun H => Hold (gR (gL s.heap.size D Ca Sa) bs9) w2 H ∧ Hold (gR (gL s.heap.size D Ca Sa) b20) x2 H) (fun H _ hh => ⟨pc1_keep hSx.1 b9_20 (fun _ z => z.1) hh.2, hh.1⟩) ?_
  exact k_same X ez dL_156 (tgt := 520) rfl (next w2 x2 hI)
set_option maxHeartbeats 4000000 in
set_option maxRecDepth 100000 in
theorem case_lay (X : Cb p s m #[Value.ref b] meth c code 4 ret "ColdHouseLaw") (hSx : Sx (gL s.heap.size D Ca Sa) s s.heap) (hXs : va_X b L xs s s.heap) (hbl : b < s.heap.size) (hL : L ≤ 2048) (hi : 0 ≤ i) (hi2 : i + 3 < (L : Int)) (h : INV w x) (next : ∀ w2 x2, INV w2 x2 → Lj p l e s m b below meth c D Ca Sa 520 i [] w2 x2) : Lj p l e s m b below meth c D Ca Sa 161 i [] w x := by
  have F := fx_L s.heap.size D Ca Sa bs9 b9_all
  have FM : gOb (gR (gL s.heap.size D Ca Sa) b20) 20 = some 8 := gR_of (by decide) rfl
  have hbA : ¬ (s.heap.size ≤ b) := by omega
  have hA : ∀ B q, gA (gR (gL s.heap.size D Ca Sa) B) q → s.heap.size ≤ q := fun B q z => gA_L (gA_R z)
  obtain ⟨P7, hM7, h7⟩ := pair_lay l F FM h
  refine k_aload_n X dL_161 rfl 2 rfl ?_
  refine k_mi (st := []) (As := []) (o := 0) X (sx_R hSx) (fun q a b => by omega) (hA _) hM7 cm_X7_lay im_X7_lay se_X7_lay ml_L_27 ck_X7 (fx0 F) ⟨(Nat.le_of_ble_eq_true rfl), (Nat.le_of_ble_eq_true rfl)⟩ ⟨(Nat.le_of_ble_eq_true rfl), (Nat.le_of_ble_eq_true rfl)⟩ rfl rfl (Nat.le_of_ble_eq_true rfl) dL_162 (fun H hh => hh.1) (fun z w2 hp => ?_)
  refine k_wk (P' := fun H => Hold (gR (gL s.heap.size D Ca Sa) bs9) w2 H ∧ Hold (gR (gL s.heap.size D Ca Sa) b20) x H) (fun H _ hh => ⟨hh.1, pc1_keep hSx.1 b20_9 (fun _ z => z.2) hh.2⟩) ?_
  obtain ⟨P8, hM8, h8⟩ := h7 z w2 hp
  refine k_aload_n X dL_165 rfl 1 rfl ?_
  refine k_mi (st := [.int (iI z)]) (As := []) (o := 20) X (sx_R hSx) (fun q a b => by omega) (hA _) hM8 cm_X8_lay im_X8_lay se_X8_lay ml_L_30 ck_X8 FM ⟨(Nat.le_of_ble_eq_true rfl), (Nat.le_of_ble_eq_true rfl)⟩ ⟨(Nat.le_of_ble_eq_true rfl), (Nat.le_of_ble_eq_true rfl)⟩ rfl rfl (Nat.le_of_ble_eq_true rfl) dL_166 (fun H hh => hh.2) (fun z2 x2 hq => ?_)
  obtain ⟨ez, hI⟩ := h8 z2 x2 hq
  refine k_wk (P' := fun H => Hold (gR (gL s.heap.size D Ca Sa) bs9) w2 H ∧ Hold (gR (gL s.heap.size D Ca Sa) b20) x2 H) (fun H _ hh => ⟨pc1_keep hSx.1 b9_20 (fun _ z => z.1) hh.2, hh.1⟩) ?_
  exact k_same X ez dL_169 (tgt := 520) rfl (next w2 x2 hI)
set_option maxHeartbeats 4000000 in
set_option maxRecDepth 100000 in
theorem case_tell (X : Cb p s m #[Value.ref b] meth c code 4 ret "ColdHouseLaw") (hSx : Sx (gL s.heap.size D Ca Sa) s s.heap) (hXs : va_X b L xs s s.heap) (hbl : b < s.heap.size) (hL : L ≤ 2048) (hi : 0 ≤ i) (hi2 : i + 3 < (L : Int)) (h : INV w x) (next : ∀ w2 x2, INV w2 x2 → Lj p l e s m b below meth c D Ca Sa 520 i [] w2 x2) : Lj p l e s m b below meth c D Ca Sa 174 i [] w x := by
  have F := fx_L s.heap.size D Ca Sa bs9 b9_all
  have FM : gOb (gR (gL s.heap.size D Ca Sa) b20) 20 = some 8 := gR_of (by decide) rfl
  have hbA : ¬ (s.heap.size ≤ b) := by omega
  have hA : ∀ B q, gA (gR (gL s.heap.size D Ca Sa) B) q → s.heap.size ≤ q := fun B q z => gA_L (gA_R z)
  obtain ⟨P7, hM7, h7⟩ := pair_tell l F FM h ((xs (i + 1).toNat).toInt) ((xs (i + 2).toNat).toInt) (inR_to _) (inR_to _)
  refine k_aload_n X dL_174 rfl 2 rfl ?_
  refine k_aload_n X dL_175 rfl 3 rfl ?_
  refine k_iload_n X dL_176 rfl 0 rfl ?_
  refine k_iconst X dL_177 ?_
  refine k_iadd X dL_178 ?_
  refine k_sld X hXs hbl hbA ⟨by omega, by omega⟩ hL dL_179 ?_
  refine k_aload_n X dL_180 rfl 3 rfl ?_
  refine k_iload_n X dL_181 rfl 0 rfl ?_
  refine k_iconst X dL_182 ?_
  refine k_iadd X dL_183 ?_
  refine k_sld X hXs hbl hbA ⟨by omega, by omega⟩ hL dL_184 ?_
  refine k_mi (st := []) (As := [.int (iI (xs (i + 1).toNat).toInt), .int (iI (xs (i + 2).toNat).toInt)]) (o := 0) X (sx_R hSx) (fun q a b => by omega) (hA _) hM7 cm_X7_tell im_X7_tell se_X7_tell ml_L_31 ck_X7 (fx0 F) ⟨(Nat.le_of_ble_eq_true rfl), (Nat.le_of_ble_eq_true rfl)⟩ ⟨(Nat.le_of_ble_eq_true rfl), (Nat.le_of_ble_eq_true rfl)⟩ rfl rfl (Nat.le_of_ble_eq_true rfl) dL_185 (fun H hh => hh.1) (fun z w2 hp => ?_)
  refine k_wk (P' := fun H => Hold (gR (gL s.heap.size D Ca Sa) bs9) w2 H ∧ Hold (gR (gL s.heap.size D Ca Sa) b20) x H) (fun H _ hh => ⟨hh.1, pc1_keep hSx.1 b20_9 (fun _ z => z.2) hh.2⟩) ?_
  obtain ⟨P8, hM8, h8⟩ := h7 z w2 hp
  refine k_aload_n X dL_188 rfl 1 rfl ?_
  refine k_aload_n X dL_189 rfl 3 rfl ?_
  refine k_iload_n X dL_190 rfl 0 rfl ?_
  refine k_iconst X dL_191 ?_
  refine k_iadd X dL_192 ?_
  refine k_sld X hXs hbl hbA ⟨by omega, by omega⟩ hL dL_193 ?_
  refine k_aload_n X dL_194 rfl 3 rfl ?_
  refine k_iload_n X dL_195 rfl 0 rfl ?_
  refine k_iconst X dL_196 ?_
  refine k_iadd X dL_197 ?_
  refine k_sld X hXs hbl hbA ⟨by omega, by omega⟩ hL dL_198 ?_
  refine k_mi (st := [.int (iI z)]) (As := [.int (iI (xs (i + 1).toNat).toInt), .int (iI (xs (i + 2).toNat).toInt)]) (o := 20) X (sx_R hSx) (fun q a b => by omega) (hA _) hM8 cm_X8_tell im_X8_tell se_X8_tell ml_L_35 ck_X8 FM ⟨(Nat.le_of_ble_eq_true rfl), (Nat.le_of_ble_eq_true rfl)⟩ ⟨(Nat.le_of_ble_eq_true rfl), (Nat.le_of_ble_eq_true rfl)⟩ rfl rfl (Nat.le_of_ble_eq_true rfl) dL_199 (fun H hh => hh.2) (fun z2 x2 hq => ?_)
  obtain ⟨ez, hI⟩ := h8 z2 x2 hq
  refine k_wk (P' := fun H => Hold (gR (gL s.heap.size D Ca Sa) bs9) w2 H ∧ Hold (gR (gL s.heap.size D Ca Sa) b20) x2 H) (fun H _ hh => ⟨pc1_keep hSx.1 b9_20 (fun _ z => z.1) hh.2, hh.1⟩) ?_
  exact k_same X ez dL_202 (tgt := 520) rfl (next w2 x2 hI)
set_option maxHeartbeats 4000000 in
set_option maxRecDepth 100000 in
theorem case_lock (X : Cb p s m #[Value.ref b] meth c code 4 ret "ColdHouseLaw") (hSx : Sx (gL s.heap.size D Ca Sa) s s.heap) (hXs : va_X b L xs s s.heap) (hbl : b < s.heap.size) (hL : L ≤ 2048) (hi : 0 ≤ i) (hi2 : i + 3 < (L : Int)) (h : INV w x) (next : ∀ w2 x2, INV w2 x2 → Lj p l e s m b below meth c D Ca Sa 520 i [] w2 x2) : Lj p l e s m b below meth c D Ca Sa 207 i [] w x := by
  have F := fx_L s.heap.size D Ca Sa bs9 b9_all
  have FM : gOb (gR (gL s.heap.size D Ca Sa) b20) 20 = some 8 := gR_of (by decide) rfl
  have hbA : ¬ (s.heap.size ≤ b) := by omega
  have hA : ∀ B q, gA (gR (gL s.heap.size D Ca Sa) B) q → s.heap.size ≤ q := fun B q z => gA_L (gA_R z)
  obtain ⟨P7, hM7, h7⟩ := pair_lock l F FM h ((xs (i + 1).toNat).toInt) ((xs (i + 2).toNat).toInt) (inR_to _) (inR_to _)
  refine k_aload_n X dL_207 rfl 2 rfl ?_
  refine k_aload_n X dL_208 rfl 3 rfl ?_
  refine k_iload_n X dL_209 rfl 0 rfl ?_
  refine k_iconst X dL_210 ?_
  refine k_iadd X dL_211 ?_
  refine k_sld X hXs hbl hbA ⟨by omega, by omega⟩ hL dL_212 ?_
  refine k_aload_n X dL_213 rfl 3 rfl ?_
  refine k_iload_n X dL_214 rfl 0 rfl ?_
  refine k_iconst X dL_215 ?_
  refine k_iadd X dL_216 ?_
  refine k_sld X hXs hbl hbA ⟨by omega, by omega⟩ hL dL_217 ?_
  refine k_mi (st := []) (As := [.int (iI (xs (i + 1).toNat).toInt), .int (iI (xs (i + 2).toNat).toInt)]) (o := 0) X (sx_R hSx) (fun q a b => by omega) (hA _) hM7 cm_X7_lock im_X7_lock se_X7_lock ml_L_36 ck_X7 (fx0 F) ⟨(Nat.le_of_ble_eq_true rfl), (Nat.le_of_ble_eq_true rfl)⟩ ⟨(Nat.le_of_ble_eq_true rfl), (Nat.le_of_ble_eq_true rfl)⟩ rfl rfl (Nat.le_of_ble_eq_true rfl) dL_218 (fun H hh => hh.1) (fun z w2 hp => ?_)
  refine k_wk (P' := fun H => Hold (gR (gL s.heap.size D Ca Sa) bs9) w2 H ∧ Hold (gR (gL s.heap.size D Ca Sa) b20) x H) (fun H _ hh => ⟨hh.1, pc1_keep hSx.1 b20_9 (fun _ z => z.2) hh.2⟩) ?_
  obtain ⟨P8, hM8, h8⟩ := h7 z w2 hp
  refine k_aload_n X dL_221 rfl 1 rfl ?_
  refine k_aload_n X dL_222 rfl 3 rfl ?_
  refine k_iload_n X dL_223 rfl 0 rfl ?_
  refine k_iconst X dL_224 ?_
  refine k_iadd X dL_225 ?_
  refine k_sld X hXs hbl hbA ⟨by omega, by omega⟩ hL dL_226 ?_
  refine k_aload_n X dL_227 rfl 3 rfl ?_
  refine k_iload_n X dL_228 rfl 0 rfl ?_
  refine k_iconst X dL_229 ?_
  refine k_iadd X dL_230 ?_
  refine k_sld X hXs hbl hbA ⟨by omega, by omega⟩ hL dL_231 ?_
  refine k_mi (st := [.int (iI z)]) (As := [.int (iI (xs (i + 1).toNat).toInt), .int (iI (xs (i + 2).toNat).toInt)]) (o := 20) X (sx_R hSx) (fun q a b => by omega) (hA _) hM8 cm_X8_lock im_X8_lock se_X8_lock ml_L_39 ck_X8 FM ⟨(Nat.le_of_ble_eq_true rfl), (Nat.le_of_ble_eq_true rfl)⟩ ⟨(Nat.le_of_ble_eq_true rfl), (Nat.le_of_ble_eq_true rfl)⟩ rfl rfl (Nat.le_of_ble_eq_true rfl) dL_232 (fun H hh => hh.2) (fun z2 x2 hq => ?_)
  obtain ⟨ez, hI⟩ := h8 z2 x2 hq
  refine k_wk (P' := fun H => Hold (gR (gL s.heap.size D Ca Sa) bs9) w2 H ∧ Hold (gR (gL s.heap.size D Ca Sa) b20) x2 H) (fun H _ hh => ⟨pc1_keep hSx.1 b9_20 (fun _ z => z.1) hh.2, hh.1⟩) ?_
  exact k_same X ez dL_235 (tgt := 520) rfl (next w2 x2 hI)
set_option maxHeartbeats 4000000 in
set_option maxRecDepth 100000 in
theorem case_dip (X : Cb p s m #[Value.ref b] meth c code 4 ret "ColdHouseLaw") (hSx : Sx (gL s.heap.size D Ca Sa) s s.heap) (hXs : va_X b L xs s s.heap) (hbl : b < s.heap.size) (hL : L ≤ 2048) (hi : 0 ≤ i) (hi2 : i + 3 < (L : Int)) (h : INV w x) (next : ∀ w2 x2, INV w2 x2 → Lj p l e s m b below meth c D Ca Sa 520 i [] w2 x2) : Lj p l e s m b below meth c D Ca Sa 240 i [] w x := by
  have F := fx_L s.heap.size D Ca Sa bs9 b9_all
  have FM : gOb (gR (gL s.heap.size D Ca Sa) b20) 20 = some 8 := gR_of (by decide) rfl
  have hbA : ¬ (s.heap.size ≤ b) := by omega
  have hA : ∀ B q, gA (gR (gL s.heap.size D Ca Sa) B) q → s.heap.size ≤ q := fun B q z => gA_L (gA_R z)
  obtain ⟨P7, hM7, h7⟩ := pair_dip l F FM h
  refine k_aload_n X dL_240 rfl 2 rfl ?_
  refine k_mi (st := []) (As := []) (o := 0) X (sx_R hSx) (fun q a b => by omega) (hA _) hM7 cm_X7_dip im_X7_dip se_X7_dip ml_L_40 ck_X7 (fx0 F) ⟨(Nat.le_of_ble_eq_true rfl), (Nat.le_of_ble_eq_true rfl)⟩ ⟨(Nat.le_of_ble_eq_true rfl), (Nat.le_of_ble_eq_true rfl)⟩ rfl rfl (Nat.le_of_ble_eq_true rfl) dL_241 (fun H hh => hh.1) (fun z w2 hp => ?_)
  refine k_wk (P' := fun H => Hold (gR (gL s.heap.size D Ca Sa) bs9) w2 H ∧ Hold (gR (gL s.heap.size D Ca Sa) b20) x H) (fun H _ hh => ⟨hh.1, pc1_keep hSx.1 b20_9 (fun _ z => z.2) hh.2⟩) ?_
  obtain ⟨P8, hM8, h8⟩ := h7 z w2 hp
  refine k_aload_n X dL_244 rfl 1 rfl ?_
  refine k_mi (st := [.int (iI z)]) (As := []) (o := 20) X (sx_R hSx) (fun q a b => by omega) (hA _) hM8 cm_X8_dip im_X8_dip se_X8_dip ml_L_43 ck_X8 FM ⟨(Nat.le_of_ble_eq_true rfl), (Nat.le_of_ble_eq_true rfl)⟩ ⟨(Nat.le_of_ble_eq_true rfl), (Nat.le_of_ble_eq_true rfl)⟩ rfl rfl (Nat.le_of_ble_eq_true rfl) dL_245 (fun H hh => hh.2) (fun z2 x2 hq => ?_)
  obtain ⟨ez, hI⟩ := h8 z2 x2 hq
  refine k_wk (P' := fun H => Hold (gR (gL s.heap.size D Ca Sa) bs9) w2 H ∧ Hold (gR (gL s.heap.size D Ca Sa) b20) x2 H) (fun H _ hh => ⟨pc1_keep hSx.1 b9_20 (fun _ z => z.1) hh.2, hh.1⟩) ?_
  exact k_same X ez dL_248 (tgt := 520) rfl (next w2 x2 hI)
set_option maxHeartbeats 4000000 in
set_option maxRecDepth 100000 in
theorem case_tick (X : Cb p s m #[Value.ref b] meth c code 4 ret "ColdHouseLaw") (hSx : Sx (gL s.heap.size D Ca Sa) s s.heap) (hXs : va_X b L xs s s.heap) (hbl : b < s.heap.size) (hL : L ≤ 2048) (hi : 0 ≤ i) (hi2 : i + 3 < (L : Int)) (h : INV w x) (next : ∀ w2 x2, INV w2 x2 → Lj p l e s m b below meth c D Ca Sa 520 i [] w2 x2) : Lj p l e s m b below meth c D Ca Sa 253 i [] w x := by
  have F := fx_L s.heap.size D Ca Sa bs9 b9_all
  have FM : gOb (gR (gL s.heap.size D Ca Sa) b20) 20 = some 8 := gR_of (by decide) rfl
  have hbA : ¬ (s.heap.size ≤ b) := by omega
  have hA : ∀ B q, gA (gR (gL s.heap.size D Ca Sa) B) q → s.heap.size ≤ q := fun B q z => gA_L (gA_R z)
  obtain ⟨P7, hM7, h7⟩ := pair_tick l F FM h ((xs (i + 1).toNat).toInt) (inR_to _)
  refine k_aload_n X dL_253 rfl 2 rfl ?_
  refine k_aload_n X dL_254 rfl 3 rfl ?_
  refine k_iload_n X dL_255 rfl 0 rfl ?_
  refine k_iconst X dL_256 ?_
  refine k_iadd X dL_257 ?_
  refine k_sld X hXs hbl hbA ⟨by omega, by omega⟩ hL dL_258 ?_
  refine k_mi (st := []) (As := [.int (iI (xs (i + 1).toNat).toInt)]) (o := 0) X (sx_R hSx) (fun q a b => by omega) (hA _) hM7 cm_X7_tick im_X7_tick se_X7_tick ml_L_44 ck_X7 (fx0 F) ⟨(Nat.le_of_ble_eq_true rfl), (Nat.le_of_ble_eq_true rfl)⟩ ⟨(Nat.le_of_ble_eq_true rfl), (Nat.le_of_ble_eq_true rfl)⟩ rfl rfl (Nat.le_of_ble_eq_true rfl) dL_259 (fun H hh => hh.1) (fun z w2 hp => ?_)
  refine k_wk (P' := fun H => Hold (gR (gL s.heap.size D Ca Sa) bs9) w2 H ∧ Hold (gR (gL s.heap.size D Ca Sa) b20) x H) (fun H _ hh => ⟨hh.1, pc1_keep hSx.1 b20_9 (fun _ z => z.2) hh.2⟩) ?_
  obtain ⟨P8, hM8, h8⟩ := h7 z w2 hp
  refine k_aload_n X dL_262 rfl 1 rfl ?_
  refine k_aload_n X dL_263 rfl 3 rfl ?_
  refine k_iload_n X dL_264 rfl 0 rfl ?_
  refine k_iconst X dL_265 ?_
  refine k_iadd X dL_266 ?_
  refine k_sld X hXs hbl hbA ⟨by omega, by omega⟩ hL dL_267 ?_
  refine k_mi (st := [.int (iI z)]) (As := [.int (iI (xs (i + 1).toNat).toInt)]) (o := 20) X (sx_R hSx) (fun q a b => by omega) (hA _) hM8 cm_X8_tick im_X8_tick se_X8_tick ml_L_47 ck_X8 FM ⟨(Nat.le_of_ble_eq_true rfl), (Nat.le_of_ble_eq_true rfl)⟩ ⟨(Nat.le_of_ble_eq_true rfl), (Nat.le_of_ble_eq_true rfl)⟩ rfl rfl (Nat.le_of_ble_eq_true rfl) dL_268 (fun H hh => hh.2) (fun z2 x2 hq => ?_)
  obtain ⟨ez, hI⟩ := h8 z2 x2 hq
  refine k_wk (P' := fun H => Hold (gR (gL s.heap.size D Ca Sa) bs9) w2 H ∧ Hold (gR (gL s.heap.size D Ca Sa) b20) x2 H) (fun H _ hh => ⟨pc1_keep hSx.1 b9_20 (fun _ z => z.1) hh.2, hh.1⟩) ?_
  exact k_same X ez dL_271 (tgt := 520) rfl (next w2 x2 hI)
set_option maxHeartbeats 4000000 in
set_option maxRecDepth 100000 in
theorem case_undo (X : Cb p s m #[Value.ref b] meth c code 4 ret "ColdHouseLaw") (hSx : Sx (gL s.heap.size D Ca Sa) s s.heap) (hXs : va_X b L xs s s.heap) (hbl : b < s.heap.size) (hL : L ≤ 2048) (hi : 0 ≤ i) (hi2 : i + 3 < (L : Int)) (h : INV w x) (next : ∀ w2 x2, INV w2 x2 → Lj p l e s m b below meth c D Ca Sa 520 i [] w2 x2) : Lj p l e s m b below meth c D Ca Sa 276 i [] w x := by
  have F := fx_L s.heap.size D Ca Sa bs9 b9_all
  have FM : gOb (gR (gL s.heap.size D Ca Sa) b20) 20 = some 8 := gR_of (by decide) rfl
  have hbA : ¬ (s.heap.size ≤ b) := by omega
  have hA : ∀ B q, gA (gR (gL s.heap.size D Ca Sa) B) q → s.heap.size ≤ q := fun B q z => gA_L (gA_R z)
  obtain ⟨P7, hM7, h7⟩ := pair_undo l F FM h
  refine k_aload_n X dL_276 rfl 2 rfl ?_
  refine k_mi (st := []) (As := []) (o := 0) X (sx_R hSx) (fun q a b => by omega) (hA _) hM7 cm_X7_undo im_X7_undo se_X7_undo ml_L_48 ck_X7 (fx0 F) ⟨(Nat.le_of_ble_eq_true rfl), (Nat.le_of_ble_eq_true rfl)⟩ ⟨(Nat.le_of_ble_eq_true rfl), (Nat.le_of_ble_eq_true rfl)⟩ rfl rfl (Nat.le_of_ble_eq_true rfl) dL_277 (fun H hh => hh.1) (fun z w2 hp => ?_)
  refine k_wk (P' := fun H => Hold (gR (gL s.heap.size D Ca Sa) bs9) w2 H ∧ Hold (gR (gL s.heap.size D Ca Sa) b20) x H) (fun H _ hh => ⟨hh.1, pc1_keep hSx.1 b20_9 (fun _ z => z.2) hh.2⟩) ?_
  obtain ⟨P8, hM8, h8⟩ := h7 z w2 hp
  refine k_aload_n X dL_280 rfl 1 rfl ?_
  refine k_mi (st := [.int (iI z)]) (As := []) (o := 20) X (sx_R hSx) (fun q a b => by omega) (hA _) hM8 cm_X8_undo im_X8_undo se_X8_undo ml_L_51 ck_X8 FM ⟨(Nat.le_of_ble_eq_true rfl), (Nat.le_of_ble_eq_true rfl)⟩ ⟨(Nat.le_of_ble_eq_true rfl), (Nat.le_of_ble_eq_true rfl)⟩ rfl rfl (Nat.le_of_ble_eq_true rfl) dL_281 (fun H hh => hh.2) (fun z2 x2 hq => ?_)
  obtain ⟨ez, hI⟩ := h8 z2 x2 hq
  refine k_wk (P' := fun H => Hold (gR (gL s.heap.size D Ca Sa) bs9) w2 H ∧ Hold (gR (gL s.heap.size D Ca Sa) b20) x2 H) (fun H _ hh => ⟨pc1_keep hSx.1 b9_20 (fun _ z => z.1) hh.2, hh.1⟩) ?_
  exact k_same X ez dL_284 (tgt := 520) rfl (next w2 x2 hI)
set_option maxHeartbeats 4000000 in
set_option maxRecDepth 100000 in
theorem case_machine (X : Cb p s m #[Value.ref b] meth c code 4 ret "ColdHouseLaw") (hSx : Sx (gL s.heap.size D Ca Sa) s s.heap) (hXs : va_X b L xs s s.heap) (hbl : b < s.heap.size) (hL : L ≤ 2048) (hi : 0 ≤ i) (hi2 : i + 3 < (L : Int)) (h : INV w x) (next : ∀ w2 x2, INV w2 x2 → Lj p l e s m b below meth c D Ca Sa 520 i [] w2 x2) : Lj p l e s m b below meth c D Ca Sa 289 i [] w x := by
  have F := fx_L s.heap.size D Ca Sa bs9 b9_all
  have FM : gOb (gR (gL s.heap.size D Ca Sa) b20) 20 = some 8 := gR_of (by decide) rfl
  have hbA : ¬ (s.heap.size ≤ b) := by omega
  have hA : ∀ B q, gA (gR (gL s.heap.size D Ca Sa) B) q → s.heap.size ≤ q := fun B q z => gA_L (gA_R z)
  obtain ⟨P7, hM7, h7⟩ := pair_machine l F FM h ((xs (i + 1).toNat).toInt) ((xs (i + 2).toNat).toInt) (inR_to _) (inR_to _)
  refine k_aload_n X dL_289 rfl 2 rfl ?_
  refine k_aload_n X dL_290 rfl 3 rfl ?_
  refine k_iload_n X dL_291 rfl 0 rfl ?_
  refine k_iconst X dL_292 ?_
  refine k_iadd X dL_293 ?_
  refine k_sld X hXs hbl hbA ⟨by omega, by omega⟩ hL dL_294 ?_
  refine k_aload_n X dL_295 rfl 3 rfl ?_
  refine k_iload_n X dL_296 rfl 0 rfl ?_
  refine k_iconst X dL_297 ?_
  refine k_iadd X dL_298 ?_
  refine k_sld X hXs hbl hbA ⟨by omega, by omega⟩ hL dL_299 ?_
  refine k_mi (st := []) (As := [.int (iI (xs (i + 1).toNat).toInt), .int (iI (xs (i + 2).toNat).toInt)]) (o := 0) X (sx_R hSx) (fun q a b => by omega) (hA _) hM7 cm_X7_machine im_X7_machine se_X7_machine ml_L_52 ck_X7 (fx0 F) ⟨(Nat.le_of_ble_eq_true rfl), (Nat.le_of_ble_eq_true rfl)⟩ ⟨(Nat.le_of_ble_eq_true rfl), (Nat.le_of_ble_eq_true rfl)⟩ rfl rfl (Nat.le_of_ble_eq_true rfl) dL_300 (fun H hh => hh.1) (fun z w2 hp => ?_)
  refine k_wk (P' := fun H => Hold (gR (gL s.heap.size D Ca Sa) bs9) w2 H ∧ Hold (gR (gL s.heap.size D Ca Sa) b20) x H) (fun H _ hh => ⟨hh.1, pc1_keep hSx.1 b20_9 (fun _ z => z.2) hh.2⟩) ?_
  obtain ⟨P8, hM8, h8⟩ := h7 z w2 hp
  refine k_aload_n X dL_303 rfl 1 rfl ?_
  refine k_aload_n X dL_304 rfl 3 rfl ?_
  refine k_iload_n X dL_305 rfl 0 rfl ?_
  refine k_iconst X dL_306 ?_
  refine k_iadd X dL_307 ?_
  refine k_sld X hXs hbl hbA ⟨by omega, by omega⟩ hL dL_308 ?_
  refine k_aload_n X dL_309 rfl 3 rfl ?_
  refine k_iload_n X dL_310 rfl 0 rfl ?_
  refine k_iconst X dL_311 ?_
  refine k_iadd X dL_312 ?_
  refine k_sld X hXs hbl hbA ⟨by omega, by omega⟩ hL dL_313 ?_
  refine k_mi (st := [.int (iI z)]) (As := [.int (iI (xs (i + 1).toNat).toInt), .int (iI (xs (i + 2).toNat).toInt)]) (o := 20) X (sx_R hSx) (fun q a b => by omega) (hA _) hM8 cm_X8_machine im_X8_machine se_X8_machine ml_L_55 ck_X8 FM ⟨(Nat.le_of_ble_eq_true rfl), (Nat.le_of_ble_eq_true rfl)⟩ ⟨(Nat.le_of_ble_eq_true rfl), (Nat.le_of_ble_eq_true rfl)⟩ rfl rfl (Nat.le_of_ble_eq_true rfl) dL_314 (fun H hh => hh.2) (fun z2 x2 hq => ?_)
  obtain ⟨ez, hI⟩ := h8 z2 x2 hq
  refine k_wk (P' := fun H => Hold (gR (gL s.heap.size D Ca Sa) bs9) w2 H ∧ Hold (gR (gL s.heap.size D Ca Sa) b20) x2 H) (fun H _ hh => ⟨pc1_keep hSx.1 b9_20 (fun _ z => z.1) hh.2, hh.1⟩) ?_
  exact k_same X ez dL_317 (tgt := 520) rfl (next w2 x2 hI)
set_option maxHeartbeats 4000000 in
set_option maxRecDepth 100000 in
theorem case_power (X : Cb p s m #[Value.ref b] meth c code 4 ret "ColdHouseLaw") (hSx : Sx (gL s.heap.size D Ca Sa) s s.heap) (hXs : va_X b L xs s s.heap) (hbl : b < s.heap.size) (hL : L ≤ 2048) (hi : 0 ≤ i) (hi2 : i + 3 < (L : Int)) (h : INV w x) (next : ∀ w2 x2, INV w2 x2 → Lj p l e s m b below meth c D Ca Sa 520 i [] w2 x2) : Lj p l e s m b below meth c D Ca Sa 322 i [] w x := by
  have F := fx_L s.heap.size D Ca Sa bs9 b9_all
  have FM : gOb (gR (gL s.heap.size D Ca Sa) b20) 20 = some 8 := gR_of (by decide) rfl
  have hbA : ¬ (s.heap.size ≤ b) := by omega
  have hA : ∀ B q, gA (gR (gL s.heap.size D Ca Sa) B) q → s.heap.size ≤ q := fun B q z => gA_L (gA_R z)
  obtain ⟨P7, hM7, h7⟩ := pair_power l F FM h ((xs (i + 1).toNat).toInt) ((xs (i + 2).toNat).toInt) ((xs (i + 3).toNat).toInt) (inR_to _) (inR_to _) (inR_to _)
  refine k_aload_n X dL_322 rfl 2 rfl ?_
  refine k_aload_n X dL_323 rfl 3 rfl ?_
  refine k_iload_n X dL_324 rfl 0 rfl ?_
  refine k_iconst X dL_325 ?_
  refine k_iadd X dL_326 ?_
  refine k_sld X hXs hbl hbA ⟨by omega, by omega⟩ hL dL_327 ?_
  refine k_aload_n X dL_328 rfl 3 rfl ?_
  refine k_iload_n X dL_329 rfl 0 rfl ?_
  refine k_iconst X dL_330 ?_
  refine k_iadd X dL_331 ?_
  refine k_sld X hXs hbl hbA ⟨by omega, by omega⟩ hL dL_332 ?_
  refine k_aload_n X dL_333 rfl 3 rfl ?_
  refine k_iload_n X dL_334 rfl 0 rfl ?_
  refine k_iconst X dL_335 ?_
  refine k_iadd X dL_336 ?_
  refine k_sld X hXs hbl hbA ⟨by omega, by omega⟩ hL dL_337 ?_
  refine k_mi (st := []) (As := [.int (iI (xs (i + 1).toNat).toInt), .int (iI (xs (i + 2).toNat).toInt), .int (iI (xs (i + 3).toNat).toInt)]) (o := 0) X (sx_R hSx) (fun q a b => by omega) (hA _) hM7 cm_X7_power im_X7_power se_X7_power ml_L_56 ck_X7 (fx0 F) ⟨(Nat.le_of_ble_eq_true rfl), (Nat.le_of_ble_eq_true rfl)⟩ ⟨(Nat.le_of_ble_eq_true rfl), (Nat.le_of_ble_eq_true rfl)⟩ rfl rfl (Nat.le_of_ble_eq_true rfl) dL_338 (fun H hh => hh.1) (fun z w2 hp => ?_)
  refine k_wk (P' := fun H => Hold (gR (gL s.heap.size D Ca Sa) bs9) w2 H ∧ Hold (gR (gL s.heap.size D Ca Sa) b20) x H) (fun H _ hh => ⟨hh.1, pc1_keep hSx.1 b20_9 (fun _ z => z.2) hh.2⟩) ?_
  obtain ⟨P8, hM8, h8⟩ := h7 z w2 hp
  refine k_aload_n X dL_341 rfl 1 rfl ?_
  refine k_aload_n X dL_342 rfl 3 rfl ?_
  refine k_iload_n X dL_343 rfl 0 rfl ?_
  refine k_iconst X dL_344 ?_
  refine k_iadd X dL_345 ?_
  refine k_sld X hXs hbl hbA ⟨by omega, by omega⟩ hL dL_346 ?_
  refine k_aload_n X dL_347 rfl 3 rfl ?_
  refine k_iload_n X dL_348 rfl 0 rfl ?_
  refine k_iconst X dL_349 ?_
  refine k_iadd X dL_350 ?_
  refine k_sld X hXs hbl hbA ⟨by omega, by omega⟩ hL dL_351 ?_
  refine k_aload_n X dL_352 rfl 3 rfl ?_
  refine k_iload_n X dL_353 rfl 0 rfl ?_
  refine k_iconst X dL_354 ?_
  refine k_iadd X dL_355 ?_
  refine k_sld X hXs hbl hbA ⟨by omega, by omega⟩ hL dL_356 ?_
  refine k_mi (st := [.int (iI z)]) (As := [.int (iI (xs (i + 1).toNat).toInt), .int (iI (xs (i + 2).toNat).toInt), .int (iI (xs (i + 3).toNat).toInt)]) (o := 20) X (sx_R hSx) (fun q a b => by omega) (hA _) hM8 cm_X8_power im_X8_power se_X8_power ml_L_60 ck_X8 FM ⟨(Nat.le_of_ble_eq_true rfl), (Nat.le_of_ble_eq_true rfl)⟩ ⟨(Nat.le_of_ble_eq_true rfl), (Nat.le_of_ble_eq_true rfl)⟩ rfl rfl (Nat.le_of_ble_eq_true rfl) dL_357 (fun H hh => hh.2) (fun z2 x2 hq => ?_)
  obtain ⟨ez, hI⟩ := h8 z2 x2 hq
  refine k_wk (P' := fun H => Hold (gR (gL s.heap.size D Ca Sa) bs9) w2 H ∧ Hold (gR (gL s.heap.size D Ca Sa) b20) x2 H) (fun H _ hh => ⟨pc1_keep hSx.1 b9_20 (fun _ z => z.1) hh.2, hh.1⟩) ?_
  exact k_same X ez dL_360 (tgt := 520) rfl (next w2 x2 hI)
set_option maxHeartbeats 4000000 in
set_option maxRecDepth 100000 in
theorem case_share (X : Cb p s m #[Value.ref b] meth c code 4 ret "ColdHouseLaw") (hSx : Sx (gL s.heap.size D Ca Sa) s s.heap) (hXs : va_X b L xs s s.heap) (hbl : b < s.heap.size) (hL : L ≤ 2048) (hi : 0 ≤ i) (hi2 : i + 3 < (L : Int)) (h : INV w x) (next : ∀ w2 x2, INV w2 x2 → Lj p l e s m b below meth c D Ca Sa 520 i [] w2 x2) : Lj p l e s m b below meth c D Ca Sa 365 i [] w x := by
  have F := fx_L s.heap.size D Ca Sa bs9 b9_all
  have FM : gOb (gR (gL s.heap.size D Ca Sa) b20) 20 = some 8 := gR_of (by decide) rfl
  have hbA : ¬ (s.heap.size ≤ b) := by omega
  have hA : ∀ B q, gA (gR (gL s.heap.size D Ca Sa) B) q → s.heap.size ≤ q := fun B q z => gA_L (gA_R z)
  obtain ⟨P7, hM7, h7⟩ := pair_share l F FM h ((xs (i + 1).toNat).toInt) ((xs (i + 2).toNat).toInt) ((xs (i + 3).toNat).toInt) (inR_to _) (inR_to _) (inR_to _)
  refine k_aload_n X dL_365 rfl 2 rfl ?_
  refine k_aload_n X dL_366 rfl 3 rfl ?_
  refine k_iload_n X dL_367 rfl 0 rfl ?_
  refine k_iconst X dL_368 ?_
  refine k_iadd X dL_369 ?_
  refine k_sld X hXs hbl hbA ⟨by omega, by omega⟩ hL dL_370 ?_
  refine k_aload_n X dL_371 rfl 3 rfl ?_
  refine k_iload_n X dL_372 rfl 0 rfl ?_
  refine k_iconst X dL_373 ?_
  refine k_iadd X dL_374 ?_
  refine k_sld X hXs hbl hbA ⟨by omega, by omega⟩ hL dL_375 ?_
  refine k_aload_n X dL_376 rfl 3 rfl ?_
  refine k_iload_n X dL_377 rfl 0 rfl ?_
  refine k_iconst X dL_378 ?_
  refine k_iadd X dL_379 ?_
  refine k_sld X hXs hbl hbA ⟨by omega, by omega⟩ hL dL_380 ?_
  refine k_mi (st := []) (As := [.int (iI (xs (i + 1).toNat).toInt), .int (iI (xs (i + 2).toNat).toInt), .int (iI (xs (i + 3).toNat).toInt)]) (o := 0) X (sx_R hSx) (fun q a b => by omega) (hA _) hM7 cm_X7_share im_X7_share se_X7_share ml_L_61 ck_X7 (fx0 F) ⟨(Nat.le_of_ble_eq_true rfl), (Nat.le_of_ble_eq_true rfl)⟩ ⟨(Nat.le_of_ble_eq_true rfl), (Nat.le_of_ble_eq_true rfl)⟩ rfl rfl (Nat.le_of_ble_eq_true rfl) dL_381 (fun H hh => hh.1) (fun z w2 hp => ?_)
  refine k_wk (P' := fun H => Hold (gR (gL s.heap.size D Ca Sa) bs9) w2 H ∧ Hold (gR (gL s.heap.size D Ca Sa) b20) x H) (fun H _ hh => ⟨hh.1, pc1_keep hSx.1 b20_9 (fun _ z => z.2) hh.2⟩) ?_
  obtain ⟨P8, hM8, h8⟩ := h7 z w2 hp
  refine k_aload_n X dL_384 rfl 1 rfl ?_
  refine k_aload_n X dL_385 rfl 3 rfl ?_
  refine k_iload_n X dL_386 rfl 0 rfl ?_
  refine k_iconst X dL_387 ?_
  refine k_iadd X dL_388 ?_
  refine k_sld X hXs hbl hbA ⟨by omega, by omega⟩ hL dL_389 ?_
  refine k_aload_n X dL_390 rfl 3 rfl ?_
  refine k_iload_n X dL_391 rfl 0 rfl ?_
  refine k_iconst X dL_392 ?_
  refine k_iadd X dL_393 ?_
  refine k_sld X hXs hbl hbA ⟨by omega, by omega⟩ hL dL_394 ?_
  refine k_aload_n X dL_395 rfl 3 rfl ?_
  refine k_iload_n X dL_396 rfl 0 rfl ?_
  refine k_iconst X dL_397 ?_
  refine k_iadd X dL_398 ?_
  refine k_sld X hXs hbl hbA ⟨by omega, by omega⟩ hL dL_399 ?_
  refine k_mi (st := [.int (iI z)]) (As := [.int (iI (xs (i + 1).toNat).toInt), .int (iI (xs (i + 2).toNat).toInt), .int (iI (xs (i + 3).toNat).toInt)]) (o := 20) X (sx_R hSx) (fun q a b => by omega) (hA _) hM8 cm_X8_share im_X8_share se_X8_share ml_L_64 ck_X8 FM ⟨(Nat.le_of_ble_eq_true rfl), (Nat.le_of_ble_eq_true rfl)⟩ ⟨(Nat.le_of_ble_eq_true rfl), (Nat.le_of_ble_eq_true rfl)⟩ rfl rfl (Nat.le_of_ble_eq_true rfl) dL_400 (fun H hh => hh.2) (fun z2 x2 hq => ?_)
  obtain ⟨ez, hI⟩ := h8 z2 x2 hq
  refine k_wk (P' := fun H => Hold (gR (gL s.heap.size D Ca Sa) bs9) w2 H ∧ Hold (gR (gL s.heap.size D Ca Sa) b20) x2 H) (fun H _ hh => ⟨pc1_keep hSx.1 b9_20 (fun _ z => z.1) hh.2, hh.1⟩) ?_
  exact k_same X ez dL_403 (tgt := 520) rfl (next w2 x2 hI)
set_option maxHeartbeats 4000000 in
set_option maxRecDepth 100000 in
theorem case_best (X : Cb p s m #[Value.ref b] meth c code 4 ret "ColdHouseLaw") (hSx : Sx (gL s.heap.size D Ca Sa) s s.heap) (hXs : va_X b L xs s s.heap) (hbl : b < s.heap.size) (hL : L ≤ 2048) (hi : 0 ≤ i) (hi2 : i + 3 < (L : Int)) (h : INV w x) (next : ∀ w2 x2, INV w2 x2 → Lj p l e s m b below meth c D Ca Sa 520 i [] w2 x2) : Lj p l e s m b below meth c D Ca Sa 408 i [] w x := by
  have F := fx_L s.heap.size D Ca Sa bs9 b9_all
  have FM : gOb (gR (gL s.heap.size D Ca Sa) b20) 20 = some 8 := gR_of (by decide) rfl
  have hbA : ¬ (s.heap.size ≤ b) := by omega
  have hA : ∀ B q, gA (gR (gL s.heap.size D Ca Sa) B) q → s.heap.size ≤ q := fun B q z => gA_L (gA_R z)
  obtain ⟨P7, hM7, h7⟩ := pair_best l F FM h ((xs (i + 1).toNat).toInt) ((xs (i + 2).toNat).toInt) (inR_to _) (inR_to _)
  refine k_aload_n X dL_408 rfl 2 rfl ?_
  refine k_aload_n X dL_409 rfl 3 rfl ?_
  refine k_iload_n X dL_410 rfl 0 rfl ?_
  refine k_iconst X dL_411 ?_
  refine k_iadd X dL_412 ?_
  refine k_sld X hXs hbl hbA ⟨by omega, by omega⟩ hL dL_413 ?_
  refine k_aload_n X dL_414 rfl 3 rfl ?_
  refine k_iload_n X dL_415 rfl 0 rfl ?_
  refine k_iconst X dL_416 ?_
  refine k_iadd X dL_417 ?_
  refine k_sld X hXs hbl hbA ⟨by omega, by omega⟩ hL dL_418 ?_
  refine k_mi (st := []) (As := [.int (iI (xs (i + 1).toNat).toInt), .int (iI (xs (i + 2).toNat).toInt)]) (o := 0) X (sx_R hSx) (fun q a b => by omega) (hA _) hM7 cm_X7_best im_X7_best se_X7_best ml_L_65 ck_X7 (fx0 F) ⟨(Nat.le_of_ble_eq_true rfl), (Nat.le_of_ble_eq_true rfl)⟩ ⟨(Nat.le_of_ble_eq_true rfl), (Nat.le_of_ble_eq_true rfl)⟩ rfl rfl (Nat.le_of_ble_eq_true rfl) dL_419 (fun H hh => hh.1) (fun z w2 hp => ?_)
  refine k_wk (P' := fun H => Hold (gR (gL s.heap.size D Ca Sa) bs9) w2 H ∧ Hold (gR (gL s.heap.size D Ca Sa) b20) x H) (fun H _ hh => ⟨hh.1, pc1_keep hSx.1 b20_9 (fun _ z => z.2) hh.2⟩) ?_
  obtain ⟨P8, hM8, h8⟩ := h7 z w2 hp
  refine k_aload_n X dL_422 rfl 1 rfl ?_
  refine k_aload_n X dL_423 rfl 3 rfl ?_
  refine k_iload_n X dL_424 rfl 0 rfl ?_
  refine k_iconst X dL_425 ?_
  refine k_iadd X dL_426 ?_
  refine k_sld X hXs hbl hbA ⟨by omega, by omega⟩ hL dL_427 ?_
  refine k_aload_n X dL_428 rfl 3 rfl ?_
  refine k_iload_n X dL_429 rfl 0 rfl ?_
  refine k_iconst X dL_430 ?_
  refine k_iadd X dL_431 ?_
  refine k_sld X hXs hbl hbA ⟨by omega, by omega⟩ hL dL_432 ?_
  refine k_mi (st := [.int (iI z)]) (As := [.int (iI (xs (i + 1).toNat).toInt), .int (iI (xs (i + 2).toNat).toInt)]) (o := 20) X (sx_R hSx) (fun q a b => by omega) (hA _) hM8 cm_X8_best im_X8_best se_X8_best ml_L_68 ck_X8 FM ⟨(Nat.le_of_ble_eq_true rfl), (Nat.le_of_ble_eq_true rfl)⟩ ⟨(Nat.le_of_ble_eq_true rfl), (Nat.le_of_ble_eq_true rfl)⟩ rfl rfl (Nat.le_of_ble_eq_true rfl) dL_433 (fun H hh => hh.2) (fun z2 x2 hq => ?_)
  obtain ⟨ez, hI⟩ := h8 z2 x2 hq
  refine k_wk (P' := fun H => Hold (gR (gL s.heap.size D Ca Sa) bs9) w2 H ∧ Hold (gR (gL s.heap.size D Ca Sa) b20) x2 H) (fun H _ hh => ⟨pc1_keep hSx.1 b9_20 (fun _ z => z.1) hh.2, hh.1⟩) ?_
  exact k_same X ez dL_436 (tgt := 520) rfl (next w2 x2 hI)
set_option maxHeartbeats 4000000 in
set_option maxRecDepth 100000 in
theorem case_now (X : Cb p s m #[Value.ref b] meth c code 4 ret "ColdHouseLaw") (hSx : Sx (gL s.heap.size D Ca Sa) s s.heap) (hXs : va_X b L xs s s.heap) (hbl : b < s.heap.size) (hL : L ≤ 2048) (hi : 0 ≤ i) (hi2 : i + 3 < (L : Int)) (h : INV w x) (next : ∀ w2 x2, INV w2 x2 → Lj p l e s m b below meth c D Ca Sa 520 i [] w2 x2) : Lj p l e s m b below meth c D Ca Sa 441 i [] w x := by
  have F := fx_L s.heap.size D Ca Sa bs9 b9_all
  have FM : gOb (gR (gL s.heap.size D Ca Sa) b20) 20 = some 8 := gR_of (by decide) rfl
  have hbA : ¬ (s.heap.size ≤ b) := by omega
  have hA : ∀ B q, gA (gR (gL s.heap.size D Ca Sa) B) q → s.heap.size ≤ q := fun B q z => gA_L (gA_R z)
  obtain ⟨P7, hM7, h7⟩ := pair_now l F FM h ((xs (i + 1).toNat).toInt) (inR_to _)
  refine k_aload_n X dL_441 rfl 2 rfl ?_
  refine k_aload_n X dL_442 rfl 3 rfl ?_
  refine k_iload_n X dL_443 rfl 0 rfl ?_
  refine k_iconst X dL_444 ?_
  refine k_iadd X dL_445 ?_
  refine k_sld X hXs hbl hbA ⟨by omega, by omega⟩ hL dL_446 ?_
  refine k_mi (st := []) (As := [.int (iI (xs (i + 1).toNat).toInt)]) (o := 0) X (sx_R hSx) (fun q a b => by omega) (hA _) hM7 cm_X7_now im_X7_now se_X7_now ml_L_69 ck_X7 (fx0 F) ⟨(Nat.le_of_ble_eq_true rfl), (Nat.le_of_ble_eq_true rfl)⟩ ⟨(Nat.le_of_ble_eq_true rfl), (Nat.le_of_ble_eq_true rfl)⟩ rfl rfl (Nat.le_of_ble_eq_true rfl) dL_447 (fun H hh => hh.1) (fun z w2 hp => ?_)
  refine k_wk (P' := fun H => Hold (gR (gL s.heap.size D Ca Sa) bs9) w2 H ∧ Hold (gR (gL s.heap.size D Ca Sa) b20) x H) (fun H _ hh => ⟨hh.1, pc1_keep hSx.1 b20_9 (fun _ z => z.2) hh.2⟩) ?_
  obtain ⟨P8, hM8, h8⟩ := h7 z w2 hp
  refine k_aload_n X dL_450 rfl 1 rfl ?_
  refine k_aload_n X dL_451 rfl 3 rfl ?_
  refine k_iload_n X dL_452 rfl 0 rfl ?_
  refine k_iconst X dL_453 ?_
  refine k_iadd X dL_454 ?_
  refine k_sld X hXs hbl hbA ⟨by omega, by omega⟩ hL dL_455 ?_
  refine k_mi (st := [.int (iI z)]) (As := [.int (iI (xs (i + 1).toNat).toInt)]) (o := 20) X (sx_R hSx) (fun q a b => by omega) (hA _) hM8 cm_X8_now im_X8_now se_X8_now ml_L_72 ck_X8 FM ⟨(Nat.le_of_ble_eq_true rfl), (Nat.le_of_ble_eq_true rfl)⟩ ⟨(Nat.le_of_ble_eq_true rfl), (Nat.le_of_ble_eq_true rfl)⟩ rfl rfl (Nat.le_of_ble_eq_true rfl) dL_456 (fun H hh => hh.2) (fun z2 x2 hq => ?_)
  obtain ⟨ez, hI⟩ := h8 z2 x2 hq
  refine k_wk (P' := fun H => Hold (gR (gL s.heap.size D Ca Sa) bs9) w2 H ∧ Hold (gR (gL s.heap.size D Ca Sa) b20) x2 H) (fun H _ hh => ⟨pc1_keep hSx.1 b9_20 (fun _ z => z.1) hh.2, hh.1⟩) ?_
  exact k_same X ez dL_459 (tgt := 520) rfl (next w2 x2 hI)
set_option maxHeartbeats 4000000 in
set_option maxRecDepth 100000 in
theorem case_ahead (X : Cb p s m #[Value.ref b] meth c code 4 ret "ColdHouseLaw") (hSx : Sx (gL s.heap.size D Ca Sa) s s.heap) (hXs : va_X b L xs s s.heap) (hbl : b < s.heap.size) (hL : L ≤ 2048) (hi : 0 ≤ i) (hi2 : i + 3 < (L : Int)) (h : INV w x) (next : ∀ w2 x2, INV w2 x2 → Lj p l e s m b below meth c D Ca Sa 520 i [] w2 x2) : Lj p l e s m b below meth c D Ca Sa 464 i [] w x := by
  have F := fx_L s.heap.size D Ca Sa bs9 b9_all
  have FM : gOb (gR (gL s.heap.size D Ca Sa) b20) 20 = some 8 := gR_of (by decide) rfl
  have hbA : ¬ (s.heap.size ≤ b) := by omega
  have hA : ∀ B q, gA (gR (gL s.heap.size D Ca Sa) B) q → s.heap.size ≤ q := fun B q z => gA_L (gA_R z)
  obtain ⟨P7, hM7, h7⟩ := pair_ahead l F FM h ((xs (i + 1).toNat).toInt) ((xs (i + 2).toNat).toInt) (inR_to _) (inR_to _)
  refine k_aload_n X dL_464 rfl 2 rfl ?_
  refine k_aload_n X dL_465 rfl 3 rfl ?_
  refine k_iload_n X dL_466 rfl 0 rfl ?_
  refine k_iconst X dL_467 ?_
  refine k_iadd X dL_468 ?_
  refine k_sld X hXs hbl hbA ⟨by omega, by omega⟩ hL dL_469 ?_
  refine k_aload_n X dL_470 rfl 3 rfl ?_
  refine k_iload_n X dL_471 rfl 0 rfl ?_
  refine k_iconst X dL_472 ?_
  refine k_iadd X dL_473 ?_
  refine k_sld X hXs hbl hbA ⟨by omega, by omega⟩ hL dL_474 ?_
  refine k_mi (st := []) (As := [.int (iI (xs (i + 1).toNat).toInt), .int (iI (xs (i + 2).toNat).toInt)]) (o := 0) X (sx_R hSx) (fun q a b => by omega) (hA _) hM7 cm_X7_ahead im_X7_ahead se_X7_ahead ml_L_73 ck_X7 (fx0 F) ⟨(Nat.le_of_ble_eq_true rfl), (Nat.le_of_ble_eq_true rfl)⟩ ⟨(Nat.le_of_ble_eq_true rfl), (Nat.le_of_ble_eq_true rfl)⟩ rfl rfl (Nat.le_of_ble_eq_true rfl) dL_475 (fun H hh => hh.1) (fun z w2 hp => ?_)
  refine k_wk (P' := fun H => Hold (gR (gL s.heap.size D Ca Sa) bs9) w2 H ∧ Hold (gR (gL s.heap.size D Ca Sa) b20) x H) (fun H _ hh => ⟨hh.1, pc1_keep hSx.1 b20_9 (fun _ z => z.2) hh.2⟩) ?_
  obtain ⟨P8, hM8, h8⟩ := h7 z w2 hp
  refine k_aload_n X dL_478 rfl 1 rfl ?_
  refine k_aload_n X dL_479 rfl 3 rfl ?_
  refine k_iload_n X dL_480 rfl 0 rfl ?_
  refine k_iconst X dL_481 ?_
  refine k_iadd X dL_482 ?_
  refine k_sld X hXs hbl hbA ⟨by omega, by omega⟩ hL dL_483 ?_
  refine k_aload_n X dL_484 rfl 3 rfl ?_
  refine k_iload_n X dL_485 rfl 0 rfl ?_
  refine k_iconst X dL_486 ?_
  refine k_iadd X dL_487 ?_
  refine k_sld X hXs hbl hbA ⟨by omega, by omega⟩ hL dL_488 ?_
  refine k_mi (st := [.int (iI z)]) (As := [.int (iI (xs (i + 1).toNat).toInt), .int (iI (xs (i + 2).toNat).toInt)]) (o := 20) X (sx_R hSx) (fun q a b => by omega) (hA _) hM8 cm_X8_ahead im_X8_ahead se_X8_ahead ml_L_76 ck_X8 FM ⟨(Nat.le_of_ble_eq_true rfl), (Nat.le_of_ble_eq_true rfl)⟩ ⟨(Nat.le_of_ble_eq_true rfl), (Nat.le_of_ble_eq_true rfl)⟩ rfl rfl (Nat.le_of_ble_eq_true rfl) dL_489 (fun H hh => hh.2) (fun z2 x2 hq => ?_)
  obtain ⟨ez, hI⟩ := h8 z2 x2 hq
  refine k_wk (P' := fun H => Hold (gR (gL s.heap.size D Ca Sa) bs9) w2 H ∧ Hold (gR (gL s.heap.size D Ca Sa) b20) x2 H) (fun H _ hh => ⟨pc1_keep hSx.1 b9_20 (fun _ z => z.1) hh.2, hh.1⟩) ?_
  exact k_same X ez dL_492 (tgt := 520) rfl (next w2 x2 hI)
set_option maxHeartbeats 4000000 in
set_option maxRecDepth 100000 in
theorem case_count (X : Cb p s m #[Value.ref b] meth c code 4 ret "ColdHouseLaw") (hSx : Sx (gL s.heap.size D Ca Sa) s s.heap) (hXs : va_X b L xs s s.heap) (hbl : b < s.heap.size) (hL : L ≤ 2048) (hi : 0 ≤ i) (hi2 : i + 3 < (L : Int)) (h : INV w x) (next : ∀ w2 x2, INV w2 x2 → Lj p l e s m b below meth c D Ca Sa 520 i [] w2 x2) : Lj p l e s m b below meth c D Ca Sa 497 i [] w x := by
  have F := fx_L s.heap.size D Ca Sa bs9 b9_all
  have FM : gOb (gR (gL s.heap.size D Ca Sa) b20) 20 = some 8 := gR_of (by decide) rfl
  have hbA : ¬ (s.heap.size ≤ b) := by omega
  have hA : ∀ B q, gA (gR (gL s.heap.size D Ca Sa) B) q → s.heap.size ≤ q := fun B q z => gA_L (gA_R z)
  obtain ⟨P7, hM7, h7⟩ := pair_count l F FM h ((xs (i + 1).toNat).toInt) (inR_to _)
  refine k_aload_n X dL_497 rfl 2 rfl ?_
  refine k_aload_n X dL_498 rfl 3 rfl ?_
  refine k_iload_n X dL_499 rfl 0 rfl ?_
  refine k_iconst X dL_500 ?_
  refine k_iadd X dL_501 ?_
  refine k_sld X hXs hbl hbA ⟨by omega, by omega⟩ hL dL_502 ?_
  refine k_mi (st := []) (As := [.int (iI (xs (i + 1).toNat).toInt)]) (o := 0) X (sx_R hSx) (fun q a b => by omega) (hA _) hM7 cm_X7_count im_X7_count se_X7_count ml_L_77 ck_X7 (fx0 F) ⟨(Nat.le_of_ble_eq_true rfl), (Nat.le_of_ble_eq_true rfl)⟩ ⟨(Nat.le_of_ble_eq_true rfl), (Nat.le_of_ble_eq_true rfl)⟩ rfl rfl (Nat.le_of_ble_eq_true rfl) dL_503 (fun H hh => hh.1) (fun z w2 hp => ?_)
  refine k_wk (P' := fun H => Hold (gR (gL s.heap.size D Ca Sa) bs9) w2 H ∧ Hold (gR (gL s.heap.size D Ca Sa) b20) x H) (fun H _ hh => ⟨hh.1, pc1_keep hSx.1 b20_9 (fun _ z => z.2) hh.2⟩) ?_
  obtain ⟨P8, hM8, h8⟩ := h7 z w2 hp
  refine k_aload_n X dL_506 rfl 1 rfl ?_
  refine k_aload_n X dL_507 rfl 3 rfl ?_
  refine k_iload_n X dL_508 rfl 0 rfl ?_
  refine k_iconst X dL_509 ?_
  refine k_iadd X dL_510 ?_
  refine k_sld X hXs hbl hbA ⟨by omega, by omega⟩ hL dL_511 ?_
  refine k_mi (st := [.int (iI z)]) (As := [.int (iI (xs (i + 1).toNat).toInt)]) (o := 20) X (sx_R hSx) (fun q a b => by omega) (hA _) hM8 cm_X8_count im_X8_count se_X8_count ml_L_80 ck_X8 FM ⟨(Nat.le_of_ble_eq_true rfl), (Nat.le_of_ble_eq_true rfl)⟩ ⟨(Nat.le_of_ble_eq_true rfl), (Nat.le_of_ble_eq_true rfl)⟩ rfl rfl (Nat.le_of_ble_eq_true rfl) dL_512 (fun H hh => hh.2) (fun z2 x2 hq => ?_)
  obtain ⟨ez, hI⟩ := h8 z2 x2 hq
  refine k_wk (P' := fun H => Hold (gR (gL s.heap.size D Ca Sa) bs9) w2 H ∧ Hold (gR (gL s.heap.size D Ca Sa) b20) x2 H) (fun H _ hh => ⟨pc1_keep hSx.1 b9_20 (fun _ z => z.1) hh.2, hh.1⟩) ?_
  exact k_same X ez dL_515 (tgt := 520) rfl (next w2 x2 hI)
end LB
