/-! constructors that make objects: Staging, Past -/
theorem nu_0 : ∀ j, j < 6 → defaultValue (tyX0 j) = nuV 0 j := by
  intro j hj
  rcases (show j = 0 ∨ j = 1 ∨ j = 2 ∨ j = 3 ∨ j = 4 ∨ j = 5 by omega) with rfl | rfl | rfl | rfl | rfl | rfl <;> rfl
theorem nu_1 : ∀ j, j < 3 → defaultValue (tyX1 j) = nuV 1 j := by
  intro j hj
  rcases (show j = 0 ∨ j = 1 ∨ j = 2 by omega) with rfl | rfl | rfl <;> rfl
theorem nu_2 : ∀ j, j < 14 → defaultValue (tyX2 j) = nuV 2 j := by
  intro j hj
  rcases (show j = 0 ∨ j = 1 ∨ j = 2 ∨ j = 3 ∨ j = 4 ∨ j = 5 ∨ j = 6 ∨ j = 7 ∨ j = 8 ∨ j = 9 ∨ j = 10 ∨ j = 11 ∨ j = 12 ∨ j = 13 by omega) with rfl | rfl | rfl | rfl | rfl | rfl | rfl | rfl | rfl | rfl | rfl | rfl | rfl | rfl <;> rfl
theorem nu_3 : ∀ j, j < 3 → defaultValue (tyX3 j) = nuV 3 j := by
  intro j hj
  rcases (show j = 0 ∨ j = 1 ∨ j = 2 by omega) with rfl | rfl | rfl <;> rfl
theorem nu_4 : ∀ j, j < 9 → defaultValue (tyX4 j) = nuV 4 j := by
  intro j hj
  rcases (show j = 0 ∨ j = 1 ∨ j = 2 ∨ j = 3 ∨ j = 4 ∨ j = 5 ∨ j = 6 ∨ j = 7 ∨ j = 8 by omega) with rfl | rfl | rfl | rfl | rfl | rfl | rfl | rfl | rfl <;> rfl
theorem nu_5 : ∀ j, j < 2 → defaultValue (tyX5 j) = nuV 5 j := by
  intro j hj
  rcases (show j = 0 ∨ j = 1 by omega) with rfl | rfl <;> rfl
theorem nu_6 : ∀ j, j < 15 → defaultValue (tyX6 j) = nuV 6 j := by
  intro j hj
  rcases (show j = 0 ∨ j = 1 ∨ j = 2 ∨ j = 3 ∨ j = 4 ∨ j = 5 ∨ j = 6 ∨ j = 7 ∨ j = 8 ∨ j = 9 ∨ j = 10 ∨ j = 11 ∨ j = 12 ∨ j = 13 ∨ j = 14 by omega) with rfl | rfl | rfl | rfl | rfl | rfl | rfl | rfl | rfl | rfl | rfl | rfl | rfl | rfl | rfl <;> rfl
theorem nu_7 : ∀ j, j < 8 → defaultValue (tyX7 j) = nuV 7 j := by
  intro j hj
  rcases (show j = 0 ∨ j = 1 ∨ j = 2 ∨ j = 3 ∨ j = 4 ∨ j = 5 ∨ j = 6 ∨ j = 7 by omega) with rfl | rfl | rfl | rfl | rfl | rfl | rfl | rfl <;> rfl
theorem nu_8 : ∀ j, j < 15 → defaultValue (tyX8 j) = nuV 8 j := by
  intro j hj
  rcases (show j = 0 ∨ j = 1 ∨ j = 2 ∨ j = 3 ∨ j = 4 ∨ j = 5 ∨ j = 6 ∨ j = 7 ∨ j = 8 ∨ j = 9 ∨ j = 10 ∨ j = 11 ∨ j = 12 ∨ j = 13 ∨ j = 14 by omega) with rfl | rfl | rfl | rfl | rfl | rfl | rfl | rfl | rfl | rfl | rfl | rfl | rfl | rfl | rfl <;> rfl
theorem mixW_z (B : Nat → Bool) : mixW B wz wz = wz := by
  funext o
  unfold mixW
  split <;> rfl
set_option maxHeartbeats 4000000 in
set_option maxRecDepth 100000 in
theorem c_X5_init (l : Launch) (G : Ly) (o o2 : Nat) (ho : gOb G o = some 5) (ho2 : gOb G o2 = some 4) (hl0 : gLk G o 0 = o2) (hl1 : gLk G o 1 = 2) (hl2 : gLk G o2 0 = 2) (ha : gAd G o2 = gAd G o + 1) (hk : gAr G o2 1 = gAd G o2 + 1 ∧ gAr G o2 2 = gAd G o2 + 2) : Ci l yX5_init cX5_init 2 2 41 3 571 G o 5 [.ref (gAd G 2)] (fun _ => True) (orB (fun q => q == o2) (fun q => q == o)) (fun w' => w' = wz) := by
  refine ci_of (by decide) rfl (Nat.le_of_ble_eq_true rfl) rfl ?_
  intro p e s m below meth c X hF hin hz
  have hA : Aq G o (gAd G o) := Nat.le_refl _
  have hne : o ≠ o2 := fun z => by rw [z] at ha; omega
  refine k_aload_n X.1 dX5_init_0 rfl 0 rfl ?_
  refine k_objInit X.1 ml_X5_3 ⟨(Nat.le_of_ble_eq_true rfl), (Nat.le_of_ble_eq_true rfl)⟩ (Nat.le_of_ble_eq_true rfl) dX5_init_1 ?_
  refine k_aload_n X.1 dX5_init_4 rfl 0 rfl ?_
  refine k_aload_n X.1 dX5_init_5 rfl 1 rfl ?_
  refine k_putF X ck_X5 ho 1 (by decide) fl_X5_9 rfl rfl hin (v := .ref (gAd G 2)) (by unfold fval; simp only [show (fkX 5 1).1 = 4 from rfl]; rw [hl1]) rfl rfl hA (by decide) off_true dX5_init_6 ?_
  refine k_aload_n X.1 dX5_init_9 rfl 0 rfl ?_
  refine k_new X (w := wz) (o := o2) ck_X4 cl_X5_15 inst_X4 ini_X4 nu_4 (by omega) ⟨(Nat.le_of_ble_eq_true rfl), (Nat.le_of_ble_eq_true rfl)⟩ dX5_init_10 ?_
  refine k_dup X.1 dX5_init_13 rfl ?_
  refine k_aload_n X.1 dX5_init_14 rfl 1 rfl ?_
  refine k_init (st := [.ref (gAd G o2), .ref (gAd G o)]) X (ag_one ho hz) (c_X4_init l G o2 ho2 hl2 hk) (fun _ _ _ _ _ => trivial) (fun _ _ _ _ _ _ => trivial) cm_X4_init im_X4_init rfl ml_X5_17 (fun q h => by show gAd G o ≤ q; omega) (by omega) ⟨(Nat.le_of_ble_eq_true rfl), (Nat.le_of_ble_eq_true rfl)⟩ ⟨(Nat.le_of_ble_eq_true rfl), (Nat.le_of_ble_eq_true rfl)⟩ rfl rfl (Nat.le_of_ble_eq_true rfl) dX5_init_15 (fun w' hp => ?_)
  subst hp
  refine k_wk (P' := fun H => Hold (gR G (fun q => q == o2)) wz H ∧ Rq G wz o 5 [1] [] H) (fun H _ h => ⟨h.2, (pa_ext (ext_and ext_true ext_rq) h.1).2⟩) ?_
  refine k_putF X ck_X5 ho 0 (by decide) fl_X5_20 rfl rfl hin (v := .ref (gAd G o2)) (by unfold fval; simp only [show (fkX 5 0).1 = 4 from rfl]; rw [hl0]) rfl rfl hA (by decide) (off_hold (not_gA X.2.1 ho (by simp [hne]))) dX5_init_18 ?_
  refine k_vret X.1 rfl dX5_init_21 wz rfl (fun t ht hz2 => ⟨?_, by omega⟩)
  have h := hold_mix ht.1 (hold_one ho (rq_done ht.2 rfl (by decide) (by decide)))
  rw [mixW_z] at h
  exact h
/-! Past -/
theorem arrV_cg {cA : ClassId} {N : Nat} {f g : Nat → Value} (h : ∀ j, j < N → f j = g j) : arrV cA N f = arrV cA N g := by
  unfold arrV
  congr 2
  funext j
  exact h j.val j.isLt
theorem not_gAr {G : Ly} (hA : Ap G) {B : Nat → Bool} {o c f : Nat} (ho : gOb G o = some c) (hf : f < nfX c) (ha : isA (fkX c f) = true) (hB : B o = false) : ¬ gA (gR G B) (gAr G o f) := by
  rintro ⟨o', c', h1, h2⟩
  obtain ⟨b1, b2⟩ := gR_ob h1
  rcases h2 with h2 | ⟨f', f1, f2, h2⟩
  · exact hA.2.2 _ _ _ _ _ b2 ho hf ha h2.symm
  · have e := (hA.2.1 _ _ _ _ _ _ ho b2 hf ha f1 f2 h2).1
    subst e
    rw [hB] at b1
    exact absurd b1 (by decide)
section KE
variable {p : Program} {l : Launch} {e : Env} {R : Room} {s : State} {m : MethodId} {args : Array Value} {below : List Frame} {meth : Method} {c : Code} {Q : State → Prop} {cc : ByteArray} {nL : Nat} {ret : Option FieldType} {own : String} {G : Ly} {A : Nat → Prop} {pc kc kn : Nat} {lv : List (Nat × Value)} {st : List Value} {P : Heap → Prop}
theorem k_anew (X : Cx p s m args meth c cc nL ret own G) (hov : va_AO "ColdHouse$State" s) {idx N a : Nat} {z : Int} (hl : Cond.classLink own idx "ColdHouse$State" ∈ gw) (hz0 : 0 ≤ z ∧ z ≤ 100000) (hN : z.toNat = N) (hb : N * 4 ≤ 536870912) (hE : Ext P) (hadr : s.heap.size + kc = a) (hR : kc + 1 ≤ R.cells ∧ kn + N ≤ R.slots) (hd : decode cc pc = .ok (.anewarray idx, 3))
    (k : Kj p l e R s m args below meth c Q A nL (kc + 1) (kn + N) (pc + 3) lv (.ref a :: st) (fun H => P H ∧ H[a]? = some (arrV (gCa G 3) N (fun _ => .null)))) : Kj p l e R s m args below meth c Q A nL kc kn pc lv (.int (iI z) :: st) P := by
  intro H locs ls h1 hz h2 h3
  have hts := X.1.2.2.2.2.1
  have hcl : (iI z).toNatClampNeg = N := by rw [iI_clamp hz0.1 (by omega)]; exact hN
  refine W.anew X.1.1 X.1.2.1 X.1.2.2.2.1 (hts _ hl) (va_AO.use hov) rfl hd rfl (by rw [← iI_zero, iI_lt ⟨by omega, by omega⟩ inR_zero]; omega) (by rw [hcl]; exact hb) hR.1 (by rw [hcl]; exact hR.2) fun cA kA comp f1 f2 f3 f4 => ?_
  rw [hcl]
  obtain ⟨kA', comp', g1, g2, g3, g4⟩ := (X.2.2.1.2 3 _ rfl).2
  have eA : cA = gCa G 3 := Option.some.inj (f1.symm.trans g4)
  rw [eA, hz.trans hadr]
  generalize hH1 : H.push ({ cls := gCa G 3, slots := Array.replicate N .null, vm := .none } : Cell) = H1
  have z1 : H1.size = H.size + 1 := by rw [← hH1, Array.size_push]
  have e1 : H1[a]? = some (arrV (gCa G 3) N (fun _ => .null)) := by rw [← hH1, ← hadr, ← hz, Array.getElem?_push_size, ← arrV_new]
  have o1 : ∀ q : Nat, q < H.size → H1[q]? = H[q]? := fun q hq => by rw [← hH1, Array.getElem?_push, if_neg (Nat.ne_of_lt hq)]
  exact k H1 locs ls ⟨hE H H1 h1 o1, e1⟩ (by omega) ⟨by have := h2.1; omega, fun q a b => (o1 q (by have := h2.1; omega)).trans (h2.2.1 q a b), h2.2.2⟩ h3
theorem k_aast (X : Cx p s m args meth c cc nL ret own G) {a v N : Nat} {z : Int} {f : Nat → Value} (hz0 : 0 ≤ z ∧ z < (N : Int)) (hN : N ≤ 100000) (hcell : ∀ H, P H → H[a]? = some (arrV (gCa G 3) N f)) (hv : ∀ H, P H → ∃ cv : Cell, H[v]? = some cv ∧ cv.cls = (gD G).1 6 ∧ cv.vm = .none) (hA : A a) (hd : decode cc pc = .ok (.aastore, 1))
    (k : Kj p l e R s m args below meth c Q A nL kc kn (pc + 1) lv st (fun H1 => ∃ H : Heap, P H ∧ H1[a]? = some (arrV (gCa G 3) N (updV f z.toNat (.ref v))) ∧ ∀ q, q ≠ a → H1[q]? = H[q]?)) : Kj p l e R s m args below meth c Q A nL kc kn pc lv (.ref v :: .int (iI z) :: .ref a :: st) P := by
  intro H locs ls h1 hz h2 h3
  obtain ⟨cv, g1, g2, g3⟩ := hv H h1
  have hcl : (iI z).toNatClampNeg = z.toNat := iI_clamp hz0.1 (by omega)
  obtain ⟨kA, comp, k1, k2, k3, -⟩ := (X.2.2.1.2 3 _ rfl).2
  have hcls := (X.2.2.1.1 6 _ ck_X6.1).2
  have hcomp : comp = (gD G).1 6 := Option.some.inj (k3.symm.trans hcls.1)
  subst hcomp
  obtain ⟨kC, hkC, -⟩ := hcls.2
  refine W.aast X.1.1 X.1.2.1 (hcell H h1) (fun q h => by cases h) (fun h => by cases h) k1 k2 rfl hkC ⟨by rw [← iI_zero, iI_lt ⟨by omega, by omega⟩ inR_zero]; omega, by show _ < (arrV _ _ _).slots.size; rw [arrV_size, hcl]; omega⟩ g1 (fun q h => by rw [g3] at h; cases h) (by rw [g2]; exact hkC) (by rw [g2]; exact va_assign hcls) rfl rfl hd fun H1 e z1 oq => ?_
  rw [hcl] at e
  rw [arrV_store] at e
  exact k H1 _ ls ⟨H, h1, e, oq⟩ (by omega) (h2.put z1 oq hA) h3
end KE
def pcA (G : Ly) (k : Nat) : Cell := arrV (gCa G 3) 4 (fun j => if j < k then .ref (gAd G (5 + j)) else .null)
def Bk (k : Nat) : Nat → Bool := fun q => decide (5 ≤ q) && decide (q < 5 + k)
theorem bk_suc (k : Nat) : orB (Bk k) (fun q => q == 5 + k) = Bk (k + 1) := by
  funext q
  unfold orB Bk
  by_cases h : q = 5 + k
  · simp [h]
  · have e : (decide (q < 5 + (k + 1))) = (decide (q < 5 + k)) := by
      by_cases h2 : q < 5 + k
      · rw [decide_eq_true h2, decide_eq_true (by omega)]
      · rw [decide_eq_false h2, decide_eq_false (by omega)]
    rw [e]
    simp [h]
theorem bk_9 (k : Nat) (hk : k ≤ 4) : Bk k 9 = false := by
  unfold Bk
  have : ¬ (9 < 5 + k) := by omega
  simp [this]
def PaE (G : Ly) (k : Nat) (w : Wd) (H : Heap) : Prop := (Hold (gR G (Bk k)) w H ∧ H[gAr G 9 2]? = some (pcA G k)) ∧ Rq G w 9 1 [2] [] H
def PaW (k : Nat) (w : Wd) : Prop := w 9 = z0 ∧ ∀ j, j < k → ResX (w (5 + j)) ∧ ∀ i, w (5 + j) 13 i = 0
def PaG (G : Ly) : Prop := gOb G 9 = some 1 ∧ gAr G 9 2 = gAd G 9 + 1 ∧ ∀ j, j < 4 → gOb G (5 + j) = some 6 ∧ gLk G 9 (100 + j) = 5 + j ∧ gAd G (5 + j) = gAd G 9 + 2 + 7 * j ∧ (gAr G (5 + j) 0 = gAd G (5 + j) + 1 ∧ gAr G (5 + j) 10 = gAd G (5 + j) + 2 ∧ gAr G (5 + j) 11 = gAd G (5 + j) + 3 ∧ gAr G (5 + j) 12 = gAd G (5 + j) + 4 ∧ gAr G (5 + j) 13 = gAd G (5 + j) + 5 ∧ gAr G (5 + j) 14 = gAd G (5 + j) + 6)
theorem ext_cell {a : Nat} {x : Cell} : Ext (fun H => H[a]? = some x) := fun H H1 h hk => by
  have h : H[a]? = some x := h
  show H1[a]? = some x
  rw [hk a (Array.getElem?_eq_some_iff.mp h).1]; exact h
theorem ext_pae {G : Ly} {k : Nat} {w : Wd} : Ext (PaE G k w) := fun H H1 h hk => ⟨⟨ext_hold H H1 h.1.1 hk, ext_cell H H1 h.1.2 hk⟩, ext_rq H H1 h.2 hk⟩
section KF
variable {p : Program} {l : Launch} {e : Env} {s : State} {m : MethodId} {args : Array Value} {below : List Frame} {meth : Method} {c : Code} {Q : State → Prop} {G : Ly}
set_option maxHeartbeats 4000000 in
set_option maxRecDepth 100000 in
theorem past_step {kc kn : Nat} (hG : PaG G) (X : Cx p s m args meth c cX1_init 2 none RX1 G) (hz : s.heap.size = gAd G 9 + 1) (k : Nat) (hk : k < 4) (w : Wd) (hw : PaW k w) (hkc : kc = 1 + 7 * k) (hR : kc + 7 ≤ 29 ∧ kn + 97 ≤ 392)
    (next : ∀ w2 : Wd, PaW (k + 1) w2 → Kj p l e (rmC 3 75 29 392) s m args below meth c Q (Aq G 9) 2 (kc + 7) (kn + 97) 14 [(1, .int (iI ((k + 1 : Nat) : Int))), (0, .ref (gAd G 9))] [] (PaE G (k + 1) w2)) :
    Kj p l e (rmC 3 75 29 392) s m args below meth c Q (Aq G 9) 2 kc kn 14 [(1, .int (iI (k : Int))), (0, .ref (gAd G 9))] [] (PaE G k w) := by
  obtain ⟨ho9, ha9, hj⟩ := hG
  obtain ⟨ho, hlk, had, har⟩ := hj k hk
  refine k_iload_n X.1 dX1_init_14 rfl 0 rfl ?_
  refine k_iconst X.1 dX1_init_15 ?_
  refine k_icmp_ge X.1 dX1_init_16 (tgt := 38) rfl ⟨by omega, by omega⟩ ⟨by decide, by decide⟩ (fun q => by omega) (fun _ => ?_)
  refine k_aload_n X.1 dX1_init_19 rfl 1 rfl ?_
  refine k_getR X ck_X1 (w := w) (fun H h => h.2) 2 (by decide) fl_X1_11 (by decide) (v := .ref (gAr G 9 2)) rfl dX1_init_20 ?_
  refine k_iload_n X.1 dX1_init_23 rfl 0 rfl ?_
  refine k_new X (w := wz) (o := 5 + k) ck_X6 cl_X1_9 inst_X6 ini_X6 nu_6 (by omega) ⟨(by show kc + 1 ≤ 29; omega), (by show kn + 15 ≤ 392; omega)⟩ dX1_init_24 ?_
  refine k_dup X.1 dX1_init_27 rfl ?_
  refine k_init (st := [.ref (gAd G (5 + k)), .int (iI (k : Int)), .ref (gAr G 9 2)]) X (ag_one ho9 hz) (c_X6_init l G (5 + k) ho har) (fun _ _ _ _ _ => trivial) (fun _ _ _ _ _ _ => trivial) cm_X6_init im_X6_init rfl ml_X1_17 (fun q h => by show gAd G 9 ≤ q; omega) (by omega) ⟨(Nat.le_of_ble_eq_true rfl), (Nat.le_of_ble_eq_true rfl)⟩ ⟨(by show kc + 1 + 6 ≤ 29; omega), (by show kn + 15 + 82 ≤ 392; omega)⟩ rfl rfl (Nat.le_of_ble_eq_true rfl) dX1_init_28 (fun w' hp => ?_)
  have hn5 : (5 + k == 9) = false := by simp; omega
  refine k_wk (P' := fun H => PaE G k w H ∧ Hold (gR G (fun q => q == 5 + k)) w' H) (fun H _ h => ⟨pa_ext ext_pae h.1, h.2⟩) ?_
  refine k_aast X (N := 4) (z := (k : Int)) ⟨by omega, by omega⟩ (by decide) (fun H h => h.1.1.2) (fun H h => ?_) (by show gAd G 9 ≤ gAr G 9 2; omega) dX1_init_31 ?_
  · obtain ⟨⟨cell, q1, q2, q3, -⟩, -⟩ := h.2 (5 + k) 6 (gR_of (by simp) ho)
    exact ⟨cell, q1, q2, q3⟩
  refine k_wk (P' := PaE G (k + 1) (mixW (fun q => q == 5 + k) w' w)) (fun H1 _ h => ?_) ?_
  · obtain ⟨H, ⟨h1, h2⟩, h3, h4⟩ := h
    have e9 : mixW (fun q => q == 5 + k) w' w 9 = w 9 := by unfold mixW; rw [if_neg (by simp; omega)]
    refine ⟨⟨?_, ?_⟩, rq_world (rq_kept h1.2 (h4 _ (X.2.1.2.2 9 1 9 1 2 ho9 ho9 (by decide) (by decide))) (fun f hf => absurd hf List.not_mem_nil)) e9⟩
    · rw [← bk_suc]
      refine hold_mix (h1.1.1.keptA (fun q hq => h4 q (fun z => ?_))) (h2.keptA (fun q hq => h4 q (fun z => ?_)))
      · exact not_gAr X.2.1 ho9 (by decide) (by decide) (bk_9 k (by omega)) (z ▸ hq)
      · exact not_gAr X.2.1 ho9 (by decide) (by decide) (show (9 == 5 + k) = false by simp; omega) (z ▸ hq)
    · rw [h3]
      unfold pcA
      congr 1
      refine arrV_cg (fun j hj => ?_)
      show updV _ _ _ j = _
      unfold updV
      by_cases ej : j = k
      · rw [if_pos (by rw [ej]; rfl), if_pos (by omega), ej]
      · rw [if_neg (by omega)]
        show (if j < k then Value.ref (gAd G (5 + j)) else Value.null) = _
        by_cases hjk : j < k
        · rw [if_pos hjk, if_pos (by omega)]
        · rw [if_neg hjk, if_neg (by omega)]
  refine k_iinc X.1 dX1_init_32 (j := 0) rfl (by decide) rfl ?_
  refine k_goto X.1 dX1_init_35 (tgt := 14) rfl ?_
  refine next _ ⟨?_, fun j hj => ?_⟩
  · unfold mixW; rw [if_neg (by simp; omega)]; exact hw.1
  · by_cases ej : j = k
    · subst ej
      unfold mixW
      rw [if_pos (by simp)]
      exact hp
    · unfold mixW
      rw [if_neg (by simp; omega)]
      exact hw.2 j (by omega)
end KF
set_option maxHeartbeats 4000000 in
set_option maxRecDepth 100000 in
theorem c_X1_init (l : Launch) (G : Ly) (hG : PaG G) : Ci l yX1_init cX1_init 2 3 75 29 392 G 9 1 [] (va_AO "ColdHouse$State") (orB (Bk 4) (fun q => q == 9)) (PaW 4) := by
  have hG0 := hG
  obtain ⟨ho9, ha9, hj⟩ := hG
  refine ci_of (by decide) rfl (Nat.le_of_ble_eq_true rfl) rfl ?_
  intro p e s m below meth c X hF hin hz
  have hA : Aq G 9 (gAd G 9) := Nat.le_refl _
  refine k_aload_n X.1 dX1_init_0 rfl 0 rfl ?_
  refine k_objInit X.1 ml_X1_3 ⟨(Nat.le_of_ble_eq_true rfl), (Nat.le_of_ble_eq_true rfl)⟩ (Nat.le_of_ble_eq_true rfl) dX1_init_1 ?_
  refine k_aload_n X.1 dX1_init_4 rfl 0 rfl ?_
  refine k_iconst X.1 dX1_init_5 ?_
  refine k_anew X hF (N := 4) (a := gAr G 9 2) cl_X1_9 ⟨by decide, by decide⟩ rfl (by decide) (ext_and ext_true ext_rq) (by omega) ⟨(Nat.le_of_ble_eq_true rfl), (Nat.le_of_ble_eq_true rfl)⟩ dX1_init_6 ?_
  refine k_wk (P' := fun H => (H[gAr G 9 2]? = some (pcA G 0)) ∧ Rq G wz 9 1 [] [] H) (fun H _ h => ⟨?_, h.1.2⟩) ?_
  · rw [h.2]
    unfold pcA
    congr 1
  refine k_putF X ck_X1 ho9 2 (by decide) fl_X1_11 rfl rfl hin (v := .ref (gAr G 9 2)) rfl rfl rfl hA (by decide) (fun H H1 h hk => ?_) dX1_init_9 ?_
  · show H1[gAr G 9 2]? = _
    rw [hk _ (fun z => X.2.1.2.2 9 1 9 1 2 ho9 ho9 (by decide) (by decide) z.symm)]; exact h
  refine k_iconst X.1 dX1_init_12 ?_
  refine k_istore_n X.1 dX1_init_13 rfl (by decide) rfl ?_
  refine k_wk (P' := PaE G 0 wz) (fun H _ h => ⟨⟨?_, h.1⟩, h.2⟩) ?_
  · rw [hold_R]
    intro o c hB
    exfalso
    unfold Bk at hB
    simp at hB
    omega
  refine past_step hG0 X hz 0 (by decide) wz ⟨rfl, fun j hj => by omega⟩ rfl ⟨by decide, by decide⟩ (fun w1 h1 => ?_)
  refine past_step hG0 X hz 1 (by decide) w1 h1 rfl ⟨by decide, by decide⟩ (fun w2 h2 => ?_)
  refine past_step hG0 X hz 2 (by decide) w2 h2 rfl ⟨by decide, by decide⟩ (fun w3 h3 => ?_)
  refine past_step hG0 X hz 3 (by decide) w3 h3 rfl ⟨by decide, by decide⟩ (fun w4 h4 => ?_)
  refine k_iload_n X.1 dX1_init_14 rfl 0 rfl ?_
  refine k_iconst X.1 dX1_init_15 ?_
  refine k_icmp_ge X.1 dX1_init_16 (tgt := 38) rfl ⟨by decide, by decide⟩ ⟨by decide, by decide⟩ (fun _ => ?_) (fun q => absurd (show (4 : Int) ≤ 4 by decide) q)
  refine k_vret X.1 rfl dX1_init_38 w4 h4 (fun t ht hz2 => ⟨?_, by omega⟩)
  have hq : Rq G w4 9 1 [2] [2] t.heap := ⟨ht.2.1, fun f hf => by
    have e : f = 2 := by simpa using hf
    subst e
    rw [ht.1.2]
    show _ = some (vp_cell (gCa G 3) (4, .inr (.inr (.inr (.inr fun j => some (gAd G (gLk G 9 (100 + j))))))))
    rw [vp_cell_q]
    unfold pcA
    congr 1
    refine arrV_cg (fun j hj4 => ?_)
    rw [if_pos hj4, (hj j hj4).2.1]
    rfl⟩
  have h := hold_mix ht.1.1 (hold_one ho9 (rq_done hq h4.1 (by decide) (by decide)))
  have e : mixW (fun q => q == 9) w4 w4 = w4 := by funext o; unfold mixW; split <;> rfl
  rw [e] at h
  exact h
