/-! the class's own constructor -/
theorem mix_in {B : Nat → Bool} {w' w : Wd} {o : Nat} (h : B o = true) : mixW B w' w o = w' o := by unfold mixW; rw [if_pos h]
theorem mix_out {B : Nat → Bool} {w' w : Wd} {o : Nat} (h : B o = false) : mixW B w' w o = w o := by unfold mixW; rw [if_neg (by rw [h]; decide)]
def bs0 : Nat → Bool := fun _ => false
def bs1 : Nat → Bool := orB bs0 (fun q => q == 1)
def bs2 : Nat → Bool := orB bs1 (fun q => q == 2)
def bs3 : Nat → Bool := orB bs2 (fun q => q == 3)
def bs4 : Nat → Bool := orB bs3 (fun q => q == 4)
def bs5 : Nat → Bool := orB bs4 (orB (Bk 4) (fun q => q == 9))
def bs6 : Nat → Bool := orB bs5 (orB (fun q => q == 11) (fun q => q == 10))
def bs7 : Nat → Bool := orB bs6 (fun q => q == 12)
def bs8 : Nat → Bool := orB bs7 (fun q => q == 13)
def bs9 : Nat → Bool := orB bs8 (fun q => q == 0)
def TxW (w0 : Wd) (k : Nat) (w : Wd) : Prop := (∀ o, o ≠ 1 → w o = w0 o) ∧ w 1 0 0 = (k : Int) ∧ (∀ j, w 1 1 j = if j < k then tX j else 0) ∧ ∀ j, w 1 2 j = 0
def F7 (b : Nat) (aK aV : Nat) (U : State) : Prop := va_AO "ColdHouse$State" U ∧ StK aK aV (fun q => b ≤ q) U U.heap
def XP (w : Wd) : Prop := w 2 = plX tX 88 z0 200 ∧ (ResX (w 3) ∧ ∀ j, w 3 13 j = 0) ∧ w 9 = z0 ∧ w 11 = z0 ∧ w 12 = z0 ∧ w 13 = z0 ∧ w 1 0 0 = 0 ∧ (∀ j : Nat, j < 200 → 0 ≤ w 1 1 j ∧ w 1 1 j ≤ 126) ∧ ∀ j : Nat, j < 6 → 0 ≤ w 1 2 j ∧ w 1 2 j ≤ 99
theorem fx_L (b : Nat) (D : va_G) (Ca : Nat → ClassId) (Sa : Nat → Nat) (B : Nat → Bool) (hB : ∀ o, o < 14 → B o = true) : FX (gR (gL b D Ca Sa) B) :=
  ⟨⟨gR_of (hB 0 (by decide)) rfl, gR_of (hB 1 (by decide)) rfl, gR_of (hB 2 (by decide)) rfl, gR_of (hB 3 (by decide)) rfl, gR_of (hB 4 (by decide)) rfl, gR_of (hB 5 (by decide)) rfl, gR_of (hB 6 (by decide)) rfl, gR_of (hB 7 (by decide)) rfl, gR_of (hB 8 (by decide)) rfl, gR_of (hB 9 (by decide)) rfl, gR_of (hB 10 (by decide)) rfl, gR_of (hB 11 (by decide)) rfl, gR_of (hB 12 (by decide)) rfl, gR_of (hB 13 (by decide)) rfl⟩, rfl, rfl, rfl, rfl, rfl, rfl, rfl, rfl, rfl, rfl, rfl, rfl, rfl, rfl, rfl, rfl, rfl⟩
theorem b9_all : ∀ o, o < 14 → bs9 o = true := by decide
section KL
variable {p : Program} {l : Launch} {e : Env} {R : Room} {s : State} {m : MethodId} {args : Array Value} {below : List Frame} {meth : Method} {c : Code} {Q : State → Prop} {cc : ByteArray} {nL : Nat} {ret : Option FieldType} {A : Nat → Prop} {pc kc kn : Nat} {lv : List (Nat × Value)} {st : List Value} {P : Heap → Prop} {aK aV : Nat}
theorem k_ldcS (X : Cb p s m args meth c cc nL ret RX7) (hT : StK aK aV A s s.heap) (hd : decode cc pc = .ok (.ldc 63, 2)) (k : Kj p l e R s m args below meth c Q A nL kc kn (pc + 2) lv (.ref aK :: st) P) : Kj p l e R s m args below meth c Q A nL kc kn pc lv st P :=
  fun H locs ls h1 hz h2 h3 => va_ldcS X.1 X.2.1 X.2.2.2.1 (show vk_R RX7 63 txS aK s from hT.1) hd (k H locs ls h1 hz h2 h3)
end KL
section KM
variable {p : Program} {l : Launch} {e : Env} {s : State} {m : MethodId} {args : Array Value} {below : List Frame} {meth : Method} {c : Code} {Q : State → Prop} {b : Nat} {D : va_G} {Ca : Nat → ClassId} {Sa : Nat → Nat} {aK aV : Nat}
set_option maxHeartbeats 4000000 in
set_option maxRecDepth 100000 in
theorem text_loop (X : Cx p s m args meth c cX7_init 2 none RX7 (gL b D Ca Sa)) (hF : F7 b aK aV s) (hz : s.heap.size = b + 1) (w0 : Wd)
    (next : ∀ w, TxW w0 88 w → Kj p l e (rmC 5 118 64 2560) s m args below meth c Q (fun q => b ≤ q) 2 64 2560 135 [(1, .int (iI 88)), (0, .ref b)] [] (Hold (gR (gL b D Ca Sa) bs9) w)) :
    ∀ (d k : Nat), k + d = 88 → ∀ w, TxW w0 k w → Kj p l e (rmC 5 118 64 2560) s m args below meth c Q (fun q => b ≤ q) 2 64 2560 106 [(1, .int (iI (k : Int))), (0, .ref b)] [] (Hold (gR (gL b D Ca Sa) bs9) w) := by
  have F := fx_L b D Ca Sa bs9 b9_all
  have X1 : Cx p s m args meth c cX7_init 2 none RX7 (gR (gL b D Ca Sa) bs9) := ⟨X.1, sx_R X.2⟩
  have hAG : ∀ q, q < s.heap.size → b ≤ q → gA (gR (gL b D Ca Sa) bs9) q := fun q h1 h2 => by
    have e : q = b + offO 0 := by show q = b + 0; omega
    rw [e]
    exact gA_o (fx0 F)
  have hAA : ∀ q, gA (gR (gL b D Ca Sa) bs9) q → b ≤ q := fun q h => gA_L (gA_R h)
  intro d
  induction d with
  | zero =>
    intro k hk w hw
    have e : k = 88 := by omega
    subst e
    refine k_iload_n X.1 dX7_init_106 rfl 0 rfl ?_
    refine k_ldcS X.1 hF.2 dX7_init_107 ?_
    refine k_sV (st := [.int (iI (88 : Nat))]) X.1 hF.2 (c_J0_length l aK aV) cm_J0_length_8abf5 im_J0_length_8abf5 se_J0_length_8abf5 ml_X7_65 ⟨(Nat.le_of_ble_eq_true rfl), (Nat.le_of_ble_eq_true rfl)⟩ ⟨(Nat.le_of_ble_eq_true rfl), (Nat.le_of_ble_eq_true rfl)⟩ rfl rfl (Nat.le_of_ble_eq_true rfl) dX7_init_109 ext_hold ?_
    refine k_icmp_ge X.1 dX7_init_112 (tgt := 135) rfl ⟨by decide, by decide⟩ ⟨by decide, by decide⟩ (fun _ => next w hw) (fun q => absurd (show (88 : Int) ≤ 88 by decide) q)
  | succ d ih =>
    intro k hk w hw
    obtain ⟨h0, h1, h2, h3⟩ := hw
    refine k_iload_n X.1 dX7_init_106 rfl 0 rfl ?_
    refine k_ldcS X.1 hF.2 dX7_init_107 ?_
    refine k_sV (st := [.int (iI (k : Int))]) X.1 hF.2 (c_J0_length l aK aV) cm_J0_length_8abf5 im_J0_length_8abf5 se_J0_length_8abf5 ml_X7_65 ⟨(Nat.le_of_ble_eq_true rfl), (Nat.le_of_ble_eq_true rfl)⟩ ⟨(Nat.le_of_ble_eq_true rfl), (Nat.le_of_ble_eq_true rfl)⟩ rfl rfl (Nat.le_of_ble_eq_true rfl) dX7_init_109 ext_hold ?_
    refine k_icmp_ge X.1 dX7_init_112 (tgt := 135) rfl ⟨by omega, by omega⟩ ⟨by decide, by decide⟩ (fun q => by omega) (fun _ => ?_)
    refine k_aload_n X.1 dX7_init_115 rfl 1 rfl ?_
    refine k_getO (w := w) (o := 0) X1 ck_X7 (fx0 F) (fun H h => h) 0 (by decide) fl_X7_10 (v := .ref (b + 1)) rfl dX7_init_116 ?_
    refine k_ldcS X.1 hF.2 dX7_init_119 ?_
    refine k_iload_n X.1 dX7_init_121 rfl 0 rfl ?_
    refine k_sV (st := [.ref (b + 1)]) (As := [.int (iI (k : Int))]) X.1 hF.2 (c_J0_charAt l aK aV (k : Int) ⟨by omega, by omega⟩) cm_J0_charAt_5068e im_J0_charAt_5068e se_J0_charAt_5068e ml_X7_71 ⟨(Nat.le_of_ble_eq_true rfl), (Nat.le_of_ble_eq_true rfl)⟩ ⟨(Nat.le_of_ble_eq_true rfl), (Nat.le_of_ble_eq_true rfl)⟩ rfl rfl (Nat.le_of_ble_eq_true rfl) dX7_init_122 ext_hold ?_
    refine k_mi (st := []) (As := [.int (iI (tX (k : Int).toNat))]) (o := 1) X.1 X1.2 hAG hAA (c_X3_add l (gR (gL b D Ca Sa) bs9) (tX (k : Int).toNat) w F (by omega) (tx_in _)) cm_X3_add im_X3_add se_X3_add ml_X7_75 ck_X3 (fx1 F) ⟨(Nat.le_of_ble_eq_true rfl), (Nat.le_of_ble_eq_true rfl)⟩ ⟨(Nat.le_of_ble_eq_true rfl), (Nat.le_of_ble_eq_true rfl)⟩ rfl rfl (Nat.le_of_ble_eq_true rfl) dX7_init_125 (fun H h => h) (fun z w' hp => ?_)
    refine k_pop X.1 dX7_init_128 rfl ?_
    refine k_iinc X.1 dX7_init_129 (j := 0) rfl (by decide) rfl ?_
    refine k_goto X.1 dX7_init_132 (tgt := 106) rfl ?_
    refine k_wk (P' := Hold (gR (gL b D Ca Sa) bs9) w') (fun H _ h => h.1) ?_
    refine ih (k + 1) (by omega) w' ?_
    rcases hp with ⟨q1, q2, q3⟩ | ⟨q1, q2, q3⟩
    · omega
    · rw [q3, h1]
      refine ⟨fun o ho => by rw [up_ob ho, up_ob ho]; exact h0 o ho, by rw [up_at]; omega, fun j => ?_, fun j => by rw [up_ne (by omega), up_ne (by omega)]; exact h3 j⟩
      rw [up_ne (by omega)]
      by_cases ej : j = k
      · subst ej
        rw [show ((j : Nat) : Int).toNat = j from rfl, up_at, if_pos (by omega)]
      · rw [up_ne (by omega), h2 j]
        by_cases hj : j < k
        · rw [if_pos hj, if_pos (by omega)]
        · rw [if_neg hj, if_neg (by omega)]
end KM
set_option maxHeartbeats 8000000 in
set_option maxRecDepth 100000 in
theorem c_X7_init (l : Launch) (b : Nat) (D : va_G) (Ca : Nat → ClassId) (Sa : Nat → Nat) (aK aV : Nat) : Ci l yX7_init cX7_init 2 5 118 64 2560 (gL b D Ca Sa) 0 7 [] (F7 b aK aV) bs9 XP := by
  refine ci_of (by decide) rfl (Nat.le_of_ble_eq_true rfl) rfl ?_
  intro p e s m below meth c X hF hin hz
  have hz : s.heap.size = b + 1 := hz
  have ho : obX 0 = some 7 := rfl
  have hA : Aq (gL b D Ca Sa) 0 (gAd (gL b D Ca Sa) 0) := Nat.le_refl _
  have hAG : ∀ q, q < s.heap.size → Aq (gL b D Ca Sa) 0 q → gA (gL b D Ca Sa) q := ag_one rfl hz
  refine k_aload_n X.1 dX7_init_0 rfl 0 rfl ?_
  refine k_objInit X.1 ml_X7_1 ⟨(Nat.le_of_ble_eq_true rfl), (Nat.le_of_ble_eq_true rfl)⟩ (Nat.le_of_ble_eq_true rfl) dX7_init_1 ?_
  obtain ⟨w0, hw0⟩ : ∃ w0, w0 = wz := ⟨_, rfl⟩
  refine k_wk (P' := fun H => Hold (gR (gL b D Ca Sa) bs0) w0 H ∧ Rq (gL b D Ca Sa) w0 0 7 [] [] H) (fun H _ h => ⟨hold_R.mpr (fun o c hB => by unfold bs0 at hB; exact absurd hB (by decide)), by rw [hw0]; exact h.2⟩) ?_
  refine k_aload_n X.1 dX7_init_4 rfl 0 rfl ?_
  refine k_new X (w := wz) (o := 1) ck_X3 cl_X7_7 inst_X3 ini_X3 nu_3 (by show s.heap.size + (0) = b + offO 1; rw [hz]; rfl) ⟨(Nat.le_of_ble_eq_true rfl), (Nat.le_of_ble_eq_true rfl)⟩ dX7_init_5 ?_
  refine k_dup X.1 dX7_init_8 rfl ?_
  refine k_initN (st := [.ref (b + offO 1), .ref (b + offO 0)]) (As := []) X hAG (c_X3_init l (gL b D Ca Sa) 1 rfl ⟨rfl, rfl⟩) (fun _ _ _ _ _ => trivial) (fun _ _ _ _ _ _ => trivial) cm_X3_init im_X3_init rfl mn_X7_9 (fun q h => Nat.le_trans (Nat.le_add_right _ _) h) (by show s.heap.size + (0 + 1) = b + offO 1 + 1; rw [hz]; rfl) ⟨(Nat.le_of_ble_eq_true rfl), (Nat.le_of_ble_eq_true rfl)⟩ ⟨(Nat.le_of_ble_eq_true rfl), (Nat.le_of_ble_eq_true rfl)⟩ rfl rfl (Nat.le_of_ble_eq_true rfl) dX7_init_9 (fun v1 hv1 => ?_)
  obtain ⟨w1, hw1⟩ : ∃ w, w = mixW (fun q => q == 1) v1 w0 := ⟨_, rfl⟩
  refine k_wk (P' := fun H => Hold (gR (gL b D Ca Sa) bs1) w1 H ∧ Rq (gL b D Ca Sa) w1 0 7 [] [] H) (fun H _ h => ⟨by rw [hw1]; exact hold_mix (pa_ext (ext_and ext_hold ext_rq) h.1).1 h.2, rq_world (pa_ext (ext_and ext_hold ext_rq) h.1).2 (by rw [hw1]; exact mix_out (by decide))⟩) ?_
  refine k_putF X ck_X7 ho 0 (by decide) fl_X7_10 rfl rfl hin (v := .ref (b + offO 1)) rfl rfl rfl hA (by decide) (off_hold (not_gA X.2.1 ho (by decide))) dX7_init_12 ?_
  refine k_aload_n X.1 dX7_init_15 rfl 0 rfl ?_
  refine k_new X (w := wz) (o := 2) ck_X2 cl_X7_16 inst_X2 ini_X2 nu_2 (by show s.heap.size + (0 + 1 + 2) = b + offO 2; rw [hz]; rfl) ⟨(Nat.le_of_ble_eq_true rfl), (Nat.le_of_ble_eq_true rfl)⟩ dX7_init_16 ?_
  refine k_dup X.1 dX7_init_19 rfl ?_
  refine k_initN (st := [.ref (b + offO 2), .ref (b + offO 0)]) (As := []) X hAG (c_X2_init l (gL b D Ca Sa) 2 rfl ⟨rfl, rfl, rfl, rfl, rfl, rfl⟩) (fun _ _ _ _ _ => trivial) (fun _ _ _ _ _ _ => trivial) cm_X2_init im_X2_init rfl mn_X7_18 (fun q h => Nat.le_trans (Nat.le_add_right _ _) h) (by show s.heap.size + (0 + 1 + 2 + 1) = b + offO 2 + 1; rw [hz]; rfl) ⟨(Nat.le_of_ble_eq_true rfl), (Nat.le_of_ble_eq_true rfl)⟩ ⟨(Nat.le_of_ble_eq_true rfl), (Nat.le_of_ble_eq_true rfl)⟩ rfl rfl (Nat.le_of_ble_eq_true rfl) dX7_init_20 (fun v2 hv2 => ?_)
  obtain ⟨w2, hw2⟩ : ∃ w, w = mixW (fun q => q == 2) v2 w1 := ⟨_, rfl⟩
  refine k_wk (P' := fun H => Hold (gR (gL b D Ca Sa) bs2) w2 H ∧ Rq (gL b D Ca Sa) w2 0 7 [0] [] H) (fun H _ h => ⟨by rw [hw2]; exact hold_mix (pa_ext (ext_and ext_hold ext_rq) h.1).1 h.2, rq_world (pa_ext (ext_and ext_hold ext_rq) h.1).2 (by rw [hw2]; exact mix_out (by decide))⟩) ?_
  refine k_putF X ck_X7 ho 1 (by decide) fl_X7_19 rfl rfl hin (v := .ref (b + offO 2)) rfl rfl rfl hA (by decide) (off_hold (not_gA X.2.1 ho (by decide))) dX7_init_23 ?_
  refine k_aload_n X.1 dX7_init_26 rfl 0 rfl ?_
  refine k_new X (w := wz) (o := 3) ck_X6 cl_X7_23 inst_X6 ini_X6 nu_6 (by show s.heap.size + (0 + 1 + 2 + 1 + 6) = b + offO 3; rw [hz]; rfl) ⟨(Nat.le_of_ble_eq_true rfl), (Nat.le_of_ble_eq_true rfl)⟩ dX7_init_27 ?_
  refine k_dup X.1 dX7_init_30 rfl ?_
  refine k_init (st := [.ref (b + offO 3), .ref (b + offO 0)]) (As := []) X hAG (c_X6_init l (gL b D Ca Sa) 3 rfl ⟨rfl, rfl, rfl, rfl, rfl, rfl⟩) (fun _ _ _ _ _ => trivial) (fun _ _ _ _ _ _ => trivial) cm_X6_init im_X6_init rfl ml_X7_25 (fun q h => Nat.le_trans (Nat.le_add_right _ _) h) (by show s.heap.size + (0 + 1 + 2 + 1 + 6 + 1) = b + offO 3 + 1; rw [hz]; rfl) ⟨(Nat.le_of_ble_eq_true rfl), (Nat.le_of_ble_eq_true rfl)⟩ ⟨(Nat.le_of_ble_eq_true rfl), (Nat.le_of_ble_eq_true rfl)⟩ rfl rfl (Nat.le_of_ble_eq_true rfl) dX7_init_31 (fun v3 hv3 => ?_)
  obtain ⟨w3, hw3⟩ : ∃ w, w = mixW (fun q => q == 3) v3 w2 := ⟨_, rfl⟩
  refine k_wk (P' := fun H => Hold (gR (gL b D Ca Sa) bs3) w3 H ∧ Rq (gL b D Ca Sa) w3 0 7 [1, 0] [] H) (fun H _ h => ⟨by rw [hw3]; exact hold_mix (pa_ext (ext_and ext_hold ext_rq) h.1).1 h.2, rq_world (pa_ext (ext_and ext_hold ext_rq) h.1).2 (by rw [hw3]; exact mix_out (by decide))⟩) ?_
  refine k_putF X ck_X7 ho 2 (by decide) fl_X7_26 rfl rfl hin (v := .ref (b + offO 3)) rfl rfl rfl hA (by decide) (off_hold (not_gA X.2.1 ho (by decide))) dX7_init_34 ?_
  refine k_aload_n X.1 dX7_init_37 rfl 0 rfl ?_
  refine k_new X (w := wz) (o := 4) ck_X6 cl_X7_23 inst_X6 ini_X6 nu_6 (by show s.heap.size + (0 + 1 + 2 + 1 + 6 + 1 + 6) = b + offO 4; rw [hz]; rfl) ⟨(Nat.le_of_ble_eq_true rfl), (Nat.le_of_ble_eq_true rfl)⟩ dX7_init_38 ?_
  refine k_dup X.1 dX7_init_41 rfl ?_
  refine k_init (st := [.ref (b + offO 4), .ref (b + offO 0)]) (As := []) X hAG (c_X6_init l (gL b D Ca Sa) 4 rfl ⟨rfl, rfl, rfl, rfl, rfl, rfl⟩) (fun _ _ _ _ _ => trivial) (fun _ _ _ _ _ _ => trivial) cm_X6_init im_X6_init rfl ml_X7_25 (fun q h => Nat.le_trans (Nat.le_add_right _ _) h) (by show s.heap.size + (0 + 1 + 2 + 1 + 6 + 1 + 6 + 1) = b + offO 4 + 1; rw [hz]; rfl) ⟨(Nat.le_of_ble_eq_true rfl), (Nat.le_of_ble_eq_true rfl)⟩ ⟨(Nat.le_of_ble_eq_true rfl), (Nat.le_of_ble_eq_true rfl)⟩ rfl rfl (Nat.le_of_ble_eq_true rfl) dX7_init_42 (fun v4 hv4 => ?_)
  obtain ⟨w4, hw4⟩ : ∃ w, w = mixW (fun q => q == 4) v4 w3 := ⟨_, rfl⟩
  refine k_wk (P' := fun H => Hold (gR (gL b D Ca Sa) bs4) w4 H ∧ Rq (gL b D Ca Sa) w4 0 7 [2, 1, 0] [] H) (fun H _ h => ⟨by rw [hw4]; exact hold_mix (pa_ext (ext_and ext_hold ext_rq) h.1).1 h.2, rq_world (pa_ext (ext_and ext_hold ext_rq) h.1).2 (by rw [hw4]; exact mix_out (by decide))⟩) ?_
  refine k_putF X ck_X7 ho 3 (by decide) fl_X7_30 rfl rfl hin (v := .ref (b + offO 4)) rfl rfl rfl hA (by decide) (off_hold (not_gA X.2.1 ho (by decide))) dX7_init_45 ?_
  refine k_aload_n X.1 dX7_init_48 rfl 0 rfl ?_
  refine k_new X (w := wz) (o := 9) ck_X1 cl_X7_33 inst_X1 ini_X1 nu_1 (by show s.heap.size + (0 + 1 + 2 + 1 + 6 + 1 + 6 + 1 + 6) = b + offO 9; rw [hz]; rfl) ⟨(Nat.le_of_ble_eq_true rfl), (Nat.le_of_ble_eq_true rfl)⟩ dX7_init_49 ?_
  refine k_dup X.1 dX7_init_52 rfl ?_
  refine k_init (st := [.ref (b + offO 9), .ref (b + offO 0)]) (As := []) X hAG (c_X1_init l (gL b D Ca Sa) (pag_L b D Ca Sa)) (fun _ _ _ _ h => va_AO.moved (Vm.Alike.refl _) h) (fun _ _ _ _ _ hW => va_AO.moved hW.alike hF.1) cm_X1_init im_X1_init rfl ml_X7_35 (fun q h => Nat.le_trans (Nat.le_add_right _ _) h) (by show s.heap.size + (0 + 1 + 2 + 1 + 6 + 1 + 6 + 1 + 6 + 1) = b + offO 9 + 1; rw [hz]; rfl) ⟨(Nat.le_of_ble_eq_true rfl), (Nat.le_of_ble_eq_true rfl)⟩ ⟨(Nat.le_of_ble_eq_true rfl), (Nat.le_of_ble_eq_true rfl)⟩ rfl rfl (Nat.le_of_ble_eq_true rfl) dX7_init_53 (fun v5 hv5 => ?_)
  obtain ⟨w5, hw5⟩ : ∃ w, w = mixW (orB (Bk 4) (fun q => q == 9)) v5 w4 := ⟨_, rfl⟩
  refine k_wk (P' := fun H => Hold (gR (gL b D Ca Sa) bs5) w5 H ∧ Rq (gL b D Ca Sa) w5 0 7 [3, 2, 1, 0] [] H) (fun H _ h => ⟨by rw [hw5]; exact hold_mix (pa_ext (ext_and ext_hold ext_rq) h.1).1 h.2, rq_world (pa_ext (ext_and ext_hold ext_rq) h.1).2 (by rw [hw5]; exact mix_out (by decide))⟩) ?_
  refine k_putF X ck_X7 ho 4 (by decide) fl_X7_36 rfl rfl hin (v := .ref (b + offO 9)) rfl rfl rfl hA (by decide) (off_hold (not_gA X.2.1 ho (by decide))) dX7_init_56 ?_
  refine k_aload_n X.1 dX7_init_59 rfl 0 rfl ?_
  refine k_new X (w := wz) (o := 10) ck_X5 cl_X7_40 inst_X5 ini_X5 nu_5 (by show s.heap.size + (0 + 1 + 2 + 1 + 6 + 1 + 6 + 1 + 6 + 1 + 29) = b + offO 10; rw [hz]; rfl) ⟨(Nat.le_of_ble_eq_true rfl), (Nat.le_of_ble_eq_true rfl)⟩ dX7_init_60 ?_
  refine k_dup X.1 dX7_init_63 rfl ?_
  refine k_aload_n X.1 dX7_init_64 rfl 0 rfl ?_
  refine k_getR X ck_X7 (w := w5) (S := [4, 3, 2, 1, 0]) (Tt := []) (o := 0) (fun H h => (pa_ext (ext_and ext_hold ext_rq) h.1).2) 1 (by decide) fl_X7_19 (by decide) (v := .ref (b + offO 2)) rfl dX7_init_65 ?_
  refine k_init (st := [.ref (b + offO 10), .ref (b + offO 0)]) (As := [.ref (b + offO 2)]) X hAG (c_X5_init l (gL b D Ca Sa) 10 11 rfl rfl rfl rfl rfl rfl ⟨rfl, rfl⟩) (fun _ _ _ _ _ => trivial) (fun _ _ _ _ _ _ => trivial) cm_X5_init im_X5_init rfl ml_X7_42 (fun q h => Nat.le_trans (Nat.le_add_right _ _) h) (by show s.heap.size + (0 + 1 + 2 + 1 + 6 + 1 + 6 + 1 + 6 + 1 + 29 + 1) = b + offO 10 + 1; rw [hz]; rfl) ⟨(Nat.le_of_ble_eq_true rfl), (Nat.le_of_ble_eq_true rfl)⟩ ⟨(Nat.le_of_ble_eq_true rfl), (Nat.le_of_ble_eq_true rfl)⟩ rfl rfl (Nat.le_of_ble_eq_true rfl) dX7_init_68 (fun v6 hv6 => ?_)
  obtain ⟨w6, hw6⟩ : ∃ w, w = mixW (orB (fun q => q == 11) (fun q => q == 10)) v6 w5 := ⟨_, rfl⟩
  refine k_wk (P' := fun H => Hold (gR (gL b D Ca Sa) bs6) w6 H ∧ Rq (gL b D Ca Sa) w6 0 7 [4, 3, 2, 1, 0] [] H) (fun H _ h => ⟨by rw [hw6]; exact hold_mix (pa_ext (ext_and ext_hold ext_rq) h.1).1 h.2, rq_world (pa_ext (ext_and ext_hold ext_rq) h.1).2 (by rw [hw6]; exact mix_out (by decide))⟩) ?_
  refine k_putF X ck_X7 ho 5 (by decide) fl_X7_45 rfl rfl hin (v := .ref (b + offO 10)) rfl rfl rfl hA (by decide) (off_hold (not_gA X.2.1 ho (by decide))) dX7_init_71 ?_
  refine k_aload_n X.1 dX7_init_74 rfl 0 rfl ?_
  refine k_new X (w := wz) (o := 12) ck_X4 cl_X7_49 inst_X4 ini_X4 nu_4 (by show s.heap.size + (0 + 1 + 2 + 1 + 6 + 1 + 6 + 1 + 6 + 1 + 29 + 1 + 3) = b + offO 12; rw [hz]; rfl) ⟨(Nat.le_of_ble_eq_true rfl), (Nat.le_of_ble_eq_true rfl)⟩ dX7_init_75 ?_
  refine k_dup X.1 dX7_init_78 rfl ?_
  refine k_aload_n X.1 dX7_init_79 rfl 0 rfl ?_
  refine k_getR X ck_X7 (w := w6) (S := [5, 4, 3, 2, 1, 0]) (Tt := []) (o := 0) (fun H h => (pa_ext (ext_and ext_hold ext_rq) h.1).2) 1 (by decide) fl_X7_19 (by decide) (v := .ref (b + offO 2)) rfl dX7_init_80 ?_
  refine k_init (st := [.ref (b + offO 12), .ref (b + offO 0)]) (As := [.ref (b + offO 2)]) X hAG (c_X4_init l (gL b D Ca Sa) 12 rfl rfl ⟨rfl, rfl⟩) (fun _ _ _ _ _ => trivial) (fun _ _ _ _ _ _ => trivial) cm_X4_init im_X4_init rfl ml_X7_51 (fun q h => Nat.le_trans (Nat.le_add_right _ _) h) (by show s.heap.size + (0 + 1 + 2 + 1 + 6 + 1 + 6 + 1 + 6 + 1 + 29 + 1 + 3 + 1) = b + offO 12 + 1; rw [hz]; rfl) ⟨(Nat.le_of_ble_eq_true rfl), (Nat.le_of_ble_eq_true rfl)⟩ ⟨(Nat.le_of_ble_eq_true rfl), (Nat.le_of_ble_eq_true rfl)⟩ rfl rfl (Nat.le_of_ble_eq_true rfl) dX7_init_83 (fun v7 hv7 => ?_)
  obtain ⟨w7, hw7⟩ : ∃ w, w = mixW (fun q => q == 12) v7 w6 := ⟨_, rfl⟩
  refine k_wk (P' := fun H => Hold (gR (gL b D Ca Sa) bs7) w7 H ∧ Rq (gL b D Ca Sa) w7 0 7 [5, 4, 3, 2, 1, 0] [] H) (fun H _ h => ⟨by rw [hw7]; exact hold_mix (pa_ext (ext_and ext_hold ext_rq) h.1).1 h.2, rq_world (pa_ext (ext_and ext_hold ext_rq) h.1).2 (by rw [hw7]; exact mix_out (by decide))⟩) ?_
  refine k_putF X ck_X7 ho 6 (by decide) fl_X7_52 rfl rfl hin (v := .ref (b + offO 12)) rfl rfl rfl hA (by decide) (off_hold (not_gA X.2.1 ho (by decide))) dX7_init_86 ?_
  refine k_aload_n X.1 dX7_init_89 rfl 0 rfl ?_
  refine k_new X (w := wz) (o := 13) ck_X0 cl_X7_56 inst_X0 ini_X0 nu_0 (by show s.heap.size + (0 + 1 + 2 + 1 + 6 + 1 + 6 + 1 + 6 + 1 + 29 + 1 + 3 + 1 + 2) = b + offO 13; rw [hz]; rfl) ⟨(Nat.le_of_ble_eq_true rfl), (Nat.le_of_ble_eq_true rfl)⟩ dX7_init_90 ?_
  refine k_dup X.1 dX7_init_93 rfl ?_
  refine k_aload_n X.1 dX7_init_94 rfl 0 rfl ?_
  refine k_getR X ck_X7 (w := w7) (S := [6, 5, 4, 3, 2, 1, 0]) (Tt := []) (o := 0) (fun H h => (pa_ext (ext_and ext_hold ext_rq) h.1).2) 1 (by decide) fl_X7_19 (by decide) (v := .ref (b + offO 2)) rfl dX7_init_95 ?_
  refine k_init (st := [.ref (b + offO 13), .ref (b + offO 0)]) (As := [.ref (b + offO 2)]) X hAG (c_X0_init l (gL b D Ca Sa) 13 rfl rfl ⟨rfl, rfl⟩) (fun _ _ _ _ _ => trivial) (fun _ _ _ _ _ _ => trivial) cm_X0_init im_X0_init rfl ml_X7_58 (fun q h => Nat.le_trans (Nat.le_add_right _ _) h) (by show s.heap.size + (0 + 1 + 2 + 1 + 6 + 1 + 6 + 1 + 6 + 1 + 29 + 1 + 3 + 1 + 2 + 1) = b + offO 13 + 1; rw [hz]; rfl) ⟨(Nat.le_of_ble_eq_true rfl), (Nat.le_of_ble_eq_true rfl)⟩ ⟨(Nat.le_of_ble_eq_true rfl), (Nat.le_of_ble_eq_true rfl)⟩ rfl rfl (Nat.le_of_ble_eq_true rfl) dX7_init_98 (fun v8 hv8 => ?_)
  obtain ⟨w8, hw8⟩ : ∃ w, w = mixW (fun q => q == 13) v8 w7 := ⟨_, rfl⟩
  refine k_wk (P' := fun H => Hold (gR (gL b D Ca Sa) bs8) w8 H ∧ Rq (gL b D Ca Sa) w8 0 7 [6, 5, 4, 3, 2, 1, 0] [] H) (fun H _ h => ⟨by rw [hw8]; exact hold_mix (pa_ext (ext_and ext_hold ext_rq) h.1).1 h.2, rq_world (pa_ext (ext_and ext_hold ext_rq) h.1).2 (by rw [hw8]; exact mix_out (by decide))⟩) ?_
  refine k_putF X ck_X7 ho 7 (by decide) fl_X7_59 rfl rfl hin (v := .ref (b + offO 13)) rfl rfl rfl hA (by decide) (off_hold (not_gA X.2.1 ho (by decide))) dX7_init_101 ?_
  have f1 : w8 1 = v1 1 := by rw [hw8, mix_out (by decide), hw7, mix_out (by decide), hw6, mix_out (by decide), hw5, mix_out (by decide), hw4, mix_out (by decide), hw3, mix_out (by decide), hw2, mix_out (by decide), hw1, mix_in (by decide)]
  have f2 : w8 2 = v2 2 := by rw [hw8, mix_out (by decide), hw7, mix_out (by decide), hw6, mix_out (by decide), hw5, mix_out (by decide), hw4, mix_out (by decide), hw3, mix_out (by decide), hw2, mix_in (by decide)]
  have f3 : w8 3 = v3 3 := by rw [hw8, mix_out (by decide), hw7, mix_out (by decide), hw6, mix_out (by decide), hw5, mix_out (by decide), hw4, mix_out (by decide), hw3, mix_in (by decide)]
  have f9 : w8 9 = v5 9 := by rw [hw8, mix_out (by decide), hw7, mix_out (by decide), hw6, mix_out (by decide), hw5, mix_in (by decide)]
  have f11 : w8 11 = v6 11 := by rw [hw8, mix_out (by decide), hw7, mix_out (by decide), hw6, mix_in (by decide)]
  have f12 : w8 12 = v7 12 := by rw [hw8, mix_out (by decide), hw7, mix_in (by decide)]
  have f13 : w8 13 = v8 13 := by rw [hw8, mix_in (by decide)]
  have f0 : w8 0 = wz 0 := by rw [hw8, mix_out (by decide), hw7, mix_out (by decide), hw6, mix_out (by decide), hw5, mix_out (by decide), hw4, mix_out (by decide), hw3, mix_out (by decide), hw2, mix_out (by decide), hw1, mix_out (by decide), hw0]
  obtain ⟨w9, hw9⟩ : ∃ w, w = mixW (fun q => q == 0) w8 w8 := ⟨_, rfl⟩
  have e9 : w9 = w8 := by rw [hw9]; funext o; unfold mixW; split <;> rfl
  refine k_wk (P' := Hold (gR (gL b D Ca Sa) bs9) w8) (fun H _ h => by rw [← e9, hw9]; exact hold_mix h.1 (hold_one ho (rq_done h.2 f0 (by decide) (by decide)))) ?_
  refine k_iconst X.1 dX7_init_104 ?_
  refine k_istore_n X.1 dX7_init_105 rfl (by decide) rfl ?_
  have t0 : TxW w8 0 w8 := ⟨fun _ _ => rfl, by rw [f1, hv1]; rfl, fun j => by rw [f1, hv1, if_neg (by omega)]; rfl, fun j => by rw [f1, hv1]; rfl⟩
  refine text_loop X hF hz w8 (fun w hw => ?_) 88 0 rfl w8 t0
  obtain ⟨x0, x1, x2, x3⟩ := hw
  have hT : w 1 1 = tX := by
    funext j
    rw [x2 j]
    by_cases hj : j < 88
    · rw [if_pos hj]
    · rw [if_neg hj]
      unfold tX
      rw [List.getD_eq_getElem?_getD, List.getElem?_eq_none (by show txL.length ≤ j; exact Nat.le_trans (by decide) (Nat.not_lt.mp hj))]
      rfl
  have F := fx_L b D Ca Sa bs9 b9_all
  have X1 : Cx p s m _ meth c cX7_init 2 none RX7 (gR (gL b D Ca Sa) bs9) := ⟨X.1, sx_R X.2⟩
  have hAG1 : ∀ q, q < s.heap.size → Aq (gL b D Ca Sa) 0 q → gA (gR (gL b D Ca Sa) bs9) q := fun q h1 h2 => by
    have h2 : b + 0 ≤ q := h2
    have e : q = b + offO 0 := by show q = b + 0; omega
    rw [e]
    exact gA_o (fx0 F)
  have hAA : ∀ q, gA (gR (gL b D Ca Sa) bs9) q → Aq (gL b D Ca Sa) 0 q := fun q h => gA_L (gA_R h)
  refine k_aload_n X.1 dX7_init_135 rfl 1 rfl ?_
  refine k_getO (w := w) (o := 0) X1 ck_X7 (fx0 F) (fun H h => h) 0 (by decide) fl_X7_10 (v := .ref (b + offO 1)) rfl dX7_init_136 ?_
  refine k_aload_n X.1 dX7_init_139 rfl 1 rfl ?_
  refine k_getO (w := w) (o := 0) X1 ck_X7 (fx0 F) (fun H h => h) 1 (by decide) fl_X7_19 (v := .ref (b + offO 2)) rfl dX7_init_140 ?_
  refine k_mv (st := []) (As := [.ref (b + offO 2)]) (o := 1) X.1 X1.2 hAG1 hAA (c_X3_layInto l (gR (gL b D Ca Sa) bs9) w F (by rw [x1]; decide) (fun j _ => by rw [hT]; exact tx_in j) (fun j _ => by rw [x3 j]; decide) (by rw [hT, x1]; exact tx_ok)) cm_X3_layInto im_X3_layInto se_X3_layInto ml_X7_79 ck_X3 (fx1 F) ⟨(Nat.le_of_ble_eq_true rfl), (Nat.le_of_ble_eq_true rfl)⟩ ⟨(Nat.le_of_ble_eq_true rfl), (Nat.le_of_ble_eq_true rfl)⟩ rfl rfl (Nat.le_of_ble_eq_true rfl) dX7_init_143 (fun H h => h) (fun u hu => ?_)
  refine k_wk (P' := Hold (gR (gL b D Ca Sa) bs9) u) (fun H _ h => h.1) ?_
  refine k_aload_n X.1 dX7_init_146 rfl 1 rfl ?_
  refine k_getO (w := u) (o := 0) X1 ck_X7 (fx0 F) (fun H h => h) 0 (by decide) fl_X7_10 (v := .ref (b + offO 1)) rfl dX7_init_147 ?_
  refine k_mv (st := []) (As := []) (o := 1) X.1 X1.2 hAG1 hAA (c_X3_empty l (gR (gL b D Ca Sa) bs9) u F) cm_X3_empty im_X3_empty se_X3_empty ml_X7_82 ck_X3 (fx1 F) ⟨(Nat.le_of_ble_eq_true rfl), (Nat.le_of_ble_eq_true rfl)⟩ ⟨(Nat.le_of_ble_eq_true rfl), (Nat.le_of_ble_eq_true rfl)⟩ rfl rfl (Nat.le_of_ble_eq_true rfl) dX7_init_150 (fun H h => h) (fun u2 hu2 => ?_)
  refine k_wk (P' := Hold (gR (gL b D Ca Sa) bs9) u2) (fun H _ h => h.1) ?_
  obtain ⟨y1, y2, y3⟩ := hu
  have hu2 : u2 = up u 1 0 0 0 := hu2
  have g : ∀ o, o ≠ 1 → o ≠ 2 → u2 o = w8 o := fun o h1 h2 => by
    rw [hu2, up_ob h1]
    funext f j
    rw [y2 o f j h2 (fun z => h1 z.1), x0 o h1]
  refine k_vret X.1 rfl dX7_init_153 u2 ⟨?_, ?_, ?_, ?_, ?_, ?_, ?_, fun j hj => ?_, fun j hj => ?_⟩ (fun t ht hz2 => ⟨ht, by rw [hz2, hz]; rfl⟩)
  · rw [hu2, up_ob (by decide), y1, hT, x1, x0 2 (by decide), f2, hv2]; rfl
  · rw [g 3 (by decide) (by decide), f3]; exact hv3
  · rw [g 9 (by decide) (by decide), f9]; exact hv5.1
  · rw [g 11 (by decide) (by decide), f11, hv6]; rfl
  · rw [g 12 (by decide) (by decide), f12, hv7]; rfl
  · rw [g 13 (by decide) (by decide), f13, hv8]; rfl
  · rw [hu2, up_at]
  · rw [hu2, up_ne (by omega), y2 1 1 j (by decide) (by decide), hT]; exact tx_in j
  · rw [hu2, up_ne (by omega)]; exact y3 j hj
