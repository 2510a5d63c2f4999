set_option maxHeartbeats 4000000 in
set_option maxRecDepth 100000 in
theorem c_X2_can (l : Launch) (G : Ly) (o : Nat) (set : Int) (load : Int) (w : Wd) (ho : gOb G o = some 2) (hset : 0 ≤ set ∧ set < 64) (hp : PV (w o)) (hload : InR load) : Mi l yX2_can cX2_can 3 (some .boolean) 2 45 G [.ref (gAd G o), .int (iI set), .int (iI load)] w (fun z w2 => z = (if sumB set (w o 1) (w o 0 0).toNat ≤ load ∧ load ≤ sumB set (w o 2) (w o 0 0).toNat then 1 else 0) ∧ w2 = w) := by
  refine mi_of (lv := [(0, .ref (gAd G o)), (1, .int (iI set)), (2, .int (iI load))]) (by decide) (Nat.le_of_ble_eq_true rfl) rfl ?_
  intro p_ e_ s_ m_ b_ h_ c_ X
  have q1 := pv_least hp set
  have q2 := pv_most hp set
  have q3 := hp.1
  refine g_aload_n X dX2_can_0 rfl 0 rfl ?_
  refine g_iload_n X dX2_can_1 rfl 1 rfl ?_
  refine g_calli (st := []) X (c_X2_leasts l G o set w ho (by first | assumption | omega | (unfold InR; omega)) (by first | assumption | omega | (unfold InR; omega))) cm_X2_leasts im_X2_leasts se_X2_leasts ml_X2_62 ck_X2 ho ⟨Nat.le_of_ble_eq_true rfl, Nat.le_of_ble_eq_true rfl⟩ rfl rfl (Nat.le_of_ble_eq_true rfl) dX2_can_2 (fn_i ?_)
  refine g_iload_n X dX2_can_5 rfl 2 rfl ?_
  refine g_icmp_gt (tgt := 22) X dX2_can_6 (by decide) (by unfold InR; omega) (by exact hload) (fun c_6 => ?_) (fun c_6 => ?_)
  · skip
    refine g_iconst X dX2_can_22 ?_
    exact g_iret X rfl (by decide) dX2_can_23 (by first | exact ⟨by rw [if_pos (by omega)], rfl⟩ | exact ⟨by rw [if_neg (by omega)], rfl⟩)
  · skip
    refine g_iload_n X dX2_can_9 rfl 2 rfl ?_
    refine g_aload_n X dX2_can_10 rfl 0 rfl ?_
    refine g_iload_n X dX2_can_11 rfl 1 rfl ?_
    refine g_calli (st := [.int (iI load)]) X (c_X2_mosts l G o set w ho (by first | assumption | omega | (unfold InR; omega)) (by first | assumption | omega | (unfold InR; omega))) cm_X2_mosts im_X2_mosts se_X2_mosts ml_X2_66 ck_X2 ho ⟨Nat.le_of_ble_eq_true rfl, Nat.le_of_ble_eq_true rfl⟩ rfl rfl (Nat.le_of_ble_eq_true rfl) dX2_can_12 (fn_i ?_)
    refine g_icmp_gt (tgt := 22) X dX2_can_15 (by decide) (by exact hload) (by unfold InR; omega) (fun c_15 => ?_) (fun c_15 => ?_)
    · skip
      refine g_iconst X dX2_can_22 ?_
      exact g_iret X rfl (by decide) dX2_can_23 (by first | exact ⟨by rw [if_pos (by omega)], rfl⟩ | exact ⟨by rw [if_neg (by omega)], rfl⟩)
    · skip
      refine g_iconst X dX2_can_18 ?_
      refine g_goto (tgt := 23) X dX2_can_19 (by decide) ?_
      exact g_iret X rfl (by decide) dX2_can_23 (by first | exact ⟨by rw [if_pos (by omega)], rfl⟩ | exact ⟨by rw [if_neg (by omega)], rfl⟩)
set_option maxHeartbeats 4000000 in
set_option maxRecDepth 100000 in
theorem c_X4_forget (l : Launch) (G : Ly) (o : Nat) (w : Wd) (ho : gOb G o = some 4) : Mv l yX4_forget cX4_forget 1 none 0 0 G [.ref (gAd G o)] w (fun w2 => w2 = up w o 3 0 0) := by
  refine mv_of (lv := [(0, .ref (gAd G o))]) (by decide) (Nat.le_of_ble_eq_true rfl) rfl ?_
  intro p_ e_ s_ m_ b_ h_ c_ X
  refine g_aload_n X dX4_forget_0 rfl 0 rfl ?_
  refine g_iconst X dX4_forget_1 ?_
  refine g_putf X ck_X4 ho 3 (by decide) fl_X4_22 (Or.inr rfl) rfl (by decide) (by decide) dX4_forget_2 ?_
  obtain ⟨w_1, ew_1⟩ : ∃ q_ : Wd, q_ = up w o 3 0 0 := ⟨_, rfl⟩
  refine g_w (w' := w_1) ew_1 ?_
  exact g_vret X rfl dX4_forget_5 (by exact ew_1)
set_option maxHeartbeats 4000000 in
set_option maxRecDepth 100000 in
theorem c_X4_shiftOf (l : Launch) (G : Ly) (m : Int) (w : Wd) : Mi l yX4_shiftOf cX4_shiftOf 1 (some .int) 0 0 G [.int (iI m)] w (fun z w2 => z = (7 * (5 - m)) ∧ w2 = w) := by
  refine mi_of (lv := [(0, .int (iI m))]) (by decide) (Nat.le_of_ble_eq_true rfl) rfl ?_
  intro p_ e_ s_ m_ b_ h_ c_ X
  refine g_bipush X dX4_shiftOf_0 (by decide) ?_
  refine g_iconst X dX4_shiftOf_2 ?_
  refine g_iload_n X dX4_shiftOf_3 rfl 0 rfl ?_
  refine g_isub X dX4_shiftOf_4 ?_
  refine g_imul X dX4_shiftOf_5 ?_
  exact g_iret X rfl rfl dX4_shiftOf_6 (by first | exact ⟨rfl, rfl⟩ | rfl | omega)
set_option maxHeartbeats 4000000 in
set_option maxRecDepth 100000 in
theorem c_X4_fillRow (l : Launch) (G : Ly) (o : Nat) (m : Int) (w : Wd) (ho : gOb G o = some 4) (h2 : gOb G 2 = some 2) (hlk : gLk G o 0 = 2) (hne : o ≠ 2) (hp : PV (w 2)) (hm : 0 ≤ m ∧ m < w 2 0 0) (hlift : 0 ≤ w o 6 0 ∧ w o 6 0 ≤ 45) : Mv l yX4_fillRow cX4_fillRow 3 none 1 23 G [.ref (gAd G o), .int (iI m)] w (fun w2 => w2 = upA w o 2 (rowU (w o 2) (w 2 1 m.toNat) (w 2 2 m.toNat + 1) (fun j => pkX (w 2) (w o 6 0) m.toNat j))) := by
  refine mv_of (lv := [(0, .ref (gAd G o)), (1, .int (iI m))]) (by decide) (Nat.le_of_ble_eq_true rfl) rfl ?_
  intro p_ e_ s_ m_ b_ h_ c_ X
  have hpm := hp.2.1 m.toNat (by omega)
  have hp0 := hp.1
  refine g_aload_n X dX4_fillRow_0 rfl 0 rfl ?_
  refine g_geto (o' := 2) X ck_X4 ho 0 (by decide) fl_X4_18 rfl hlk dX4_fillRow_1 ?_
  refine g_geta X ck_X2 h2 1 (by decide) fl_X4_67 rfl dX4_fillRow_4 ?_
  refine g_iload_n X dX4_fillRow_7 rfl 1 rfl ?_
  refine h_iald (a := m) (j := (m).toNat) X rfl h2 (by decide) (show fkX 2 1 = (1, 6) from rfl) (by decide) (by omega) (by omega) dX4_fillRow_8 ?_
  refine g_istore_n (lv' := [(2, .int (iI (w 2 1 (m).toNat))), (0, .ref (gAd G o)), (1, .int (iI m))]) X dX4_fillRow_9 rfl (by decide) rfl ?_
  refine g_lv (lv' := [(0, .ref (gAd G o)), (1, .int (iI m)), (2, .int (iI (w 2 1 (m).toNat)))]) [1, 2, 0] rfl ?_
  refine g_loop2 (fun (x : Int) (w1 : Wd) => [(0, .ref (gAd G o)), (1, .int (iI m)), (2, .int (iI x))]) (fun (x : Int) (w1 : Wd) => w1) (fun (x : Int) (w1 : Wd) => (w 2 1 m.toNat ≤ x) ∧ (x ≤ w 2 2 m.toNat + 1) ∧ (w1 = upA w o 2 (rowU (w o 2) (w 2 1 m.toNat) (x) (fun j => pkX (w 2) (w o 6 0) m.toNat j)))) (fun (x : Int) (w1 : Wd) => (w 2 2 m.toNat + 1 - x).toNat) (w 2 1 (m).toNat) w ⟨(by first | omega | rfl | assumption), (by first | omega | rfl | assumption), (by rw [rowU_0, upA_self])⟩ ?_
  intro x w1 hI_10 ih_10
  obtain ⟨h0, h1, hw⟩ := hI_10
  try dsimp only at ih_10 ⊢
  have q2 : w1 2 = w 2 := by rw [hw]; funext f; exact upA_ne (fun z => hne z.1.symm)
  have q6 : w1 o 6 0 = w o 6 0 := by rw [hw]; exact upA_nej (fun z => absurd z.2 (by decide))
  have qm : w1 2 2 m.toNat = w 2 2 m.toNat := by rw [q2]
  have qr := pw_rng hp (m := m.toNat) (by omega) (x := x) (lift := w o 6 0)
  have qk := pk_rng hp (m := m.toNat) (by omega) (x := x) (lift := w o 6 0)
  refine g_iload_n X dX4_fillRow_10 rfl 2 rfl ?_
  refine g_aload_n X dX4_fillRow_11 rfl 0 rfl ?_
  refine g_geto (o' := 2) X ck_X4 ho 0 (by decide) fl_X4_18 rfl hlk dX4_fillRow_12 ?_
  refine g_geta X ck_X2 h2 2 (by decide) fl_X4_79 rfl dX4_fillRow_15 ?_
  refine g_iload_n X dX4_fillRow_18 rfl 1 rfl ?_
  refine h_iald (a := m) (j := (m).toNat) X rfl h2 (by decide) (show fkX 2 2 = (1, 6) from rfl) (by decide) (by omega) (by omega) dX4_fillRow_19 ?_
  refine g_icmp_gt (tgt := 60) X dX4_fillRow_20 (by decide) (by unfold InR; omega) (by unfold InR; omega) (fun c_20 => ?_) (fun c_20 => ?_)
  · skip
    exact g_vret X rfl dX4_fillRow_60 (by rw [hw, show x = w 2 2 m.toNat + 1 by omega])
  · skip
    refine g_aload_n X dX4_fillRow_23 rfl 0 rfl ?_
    refine g_geta X ck_X4 ho 2 (by decide) fl_X4_15 rfl dX4_fillRow_24 ?_
    refine g_iload_n X dX4_fillRow_27 rfl 2 rfl ?_
    refine g_aload_n X dX4_fillRow_28 rfl 0 rfl ?_
    refine g_geto (o' := 2) X ck_X4 ho 0 (by decide) fl_X4_18 rfl hlk dX4_fillRow_29 ?_
    refine g_iload_n X dX4_fillRow_32 rfl 1 rfl ?_
    refine g_iload_n X dX4_fillRow_33 rfl 2 rfl ?_
    refine g_aload_n X dX4_fillRow_34 rfl 0 rfl ?_
    refine g_geti X ck_X4 ho 6 (by decide) fl_X4_33 (Or.inl rfl) dX4_fillRow_35 ?_
    refine g_calli (st := [.int (iI x), .ref (gAr G o 2)]) X (c_X2_powerAt l G 2 m x (w1 o 6 0) w1 h2 (by first | assumption | omega | (unfold InR; omega))) cm_X2_powerAt im_X2_powerAt se_X2_powerAt ml_X4_92 ck_X2 h2 ⟨Nat.le_of_ble_eq_true rfl, Nat.le_of_ble_eq_true rfl⟩ rfl rfl (Nat.le_of_ble_eq_true rfl) dX4_fillRow_38 (fn_i ?_)
    rw [show (w1 2 3 m.toNat + jdiv (((((100 * (w1 2 4 m.toNat)) + ((w1 2 5 m.toNat) * x)) * x) * (60 + (w1 o 6 0)))) 10000 : Int) = pwX (w 2) (w o 6 0) m.toNat x from (by rw [q6, q2]; exact pw_jdiv hp (by omega) ⟨by omega, by omega⟩ hlift)]
    refine g_i2l X dX4_fillRow_41 ?_
    rw [show (j2l (pwX (w 2) (w o 6 0) m.toNat x) : Int) = pwX (w 2) (w o 6 0) m.toNat x from (j2l_eq (by have := qr ⟨by omega, by omega⟩ hlift; unfold InR; omega))]
    refine g_bipush X dX4_fillRow_42 (by decide) ?_
    refine g_lshl X dX4_fillRow_44 ?_
    rw [show (lshl (pwX (w 2) (w o 6 0) m.toNat x) 42 : Int) = pwX (w 2) (w o 6 0) m.toNat x * 4398046511104 from (by have := qr ⟨by omega, by omega⟩ hlift; rw [lshl_eq (by omega) (by decide) (by decide) (by omega) (by show _ * (4398046511104 : Int) < _; omega)]; rfl)]
    refine g_iload_n X dX4_fillRow_45 rfl 2 rfl ?_
    refine g_i2l X dX4_fillRow_46 ?_
    rw [show (j2l x : Int) = x from (j2l_eq (by unfold InR; omega))]
    refine g_iload_n X dX4_fillRow_47 rfl 1 rfl ?_
    refine g_callsi (st := [.long (lI x), .long (lI (pwX (w 2) (w o 6 0) m.toNat x * 4398046511104)), .int (iI x), .ref (gAr G o 2)]) X (c_X4_shiftOf l G m w1) cm_X4_shiftOf sm_X4_shiftOf ml_X4_59 ⟨Nat.le_of_ble_eq_true rfl, Nat.le_of_ble_eq_true rfl⟩ rfl rfl (Nat.le_of_ble_eq_true rfl) dX4_fillRow_48 (fn_i ?_)
    refine g_lshl X dX4_fillRow_51 ?_
    rw [show (lshl x (7 * (5 - m)) : Int) = x * 2 ^ (7 * (5 - m.toNat)) from (by have := (qk ⟨by omega, by omega⟩ hlift).2.2; have e : (7 * (5 - m)).toNat = 7 * (5 - m.toNat) := (by omega); rw [lshl_eq (by omega) (by omega) (by omega) (by omega) (by rw [e]; omega), e])]
    refine g_ladd X dX4_fillRow_52 ?_
    refine h_last (a := x) (j := (x).toNat) X rfl ho (by decide) (show fkX 4 2 = (2, 81) from rfl) (by decide) (by omega) (by omega) dX4_fillRow_53 ?_
    obtain ⟨w_1, ew_1⟩ : ∃ q_ : Wd, q_ = up w1 o 2 (x).toNat ((pwX (w 2) (w o 6 0) m.toNat x * 4398046511104) + (x * 2 ^ (7 * (5 - m.toNat)))) := ⟨_, rfl⟩
    refine g_w (w' := w_1) ew_1 ?_
    refine g_iinc (j := 2) (lv' := [(2, .int (iI (x + 1))), (0, .ref (gAd G o)), (1, .int (iI m))]) X dX4_fillRow_54 rfl (by decide) rfl ?_
    refine g_goto (tgt := 10) X dX4_fillRow_57 (by decide) ?_
    refine g_lv (lv' := [(0, .ref (gAd G o)), (1, .int (iI m)), (2, .int (iI (x + 1)))]) [1, 2, 0] rfl ?_
    exact ih_10 (x + 1) w_1 ⟨(by first | omega | rfl | assumption), (by first | omega | rfl | assumption), (by rw [ew_1, hw, up_upA, ← rowU_suc _ _ h0 (by omega)]; show _ = upA w o 2 (fup _ _ (pkX _ _ _ ((x.toNat : Nat) : Int))); rw [show ((x.toNat : Nat) : Int) = x by omega]; rfl)⟩ (by omega)
set_option maxHeartbeats 4000000 in
set_option maxRecDepth 100000 in
theorem c_X4_leastWith (l : Launch) (G : Ly) (o : Nat) (m : Int) (sum : Int) (w : Wd) (ho : gOb G o = some 4) (h2 : gOb G 2 = some 2) (hlk : gLk G o 0 = 2) (hp : PV (w 2)) (hm : 0 ≤ m ∧ m < w 2 0 0) (hsum : 0 ≤ sum ∧ sum ≤ 480) (hlow : 0 ≤ w o 7 0 ∧ w o 7 0 ≤ 480) (hhigh : 0 ≤ w o 8 0 ∧ w o 8 0 ≤ 480) (hA : ∀ x, max (w 2 1 m.toNat) (sum - w o 8 0) ≤ x → x ≤ min (w 2 2 m.toNat) (sum - w o 7 0) → (0 ≤ w o 1 (sum - x).toNat ∧ w o 1 (sum - x).toNat ≤ 1000000000000000000) ∧ 0 ≤ w o 2 x.toNat ∧ w o 2 x.toNat ≤ 1000000000000000000) : Ml l yX4_leastWith cX4_leastWith 9 (some .long) 1 21 G [.ref (gAd G o), .int (iI m), .int (iI sum)] w (fun z w2 => w2 = w ∧ ((∀ x, max (w 2 1 m.toNat) (sum - w o 8 0) ≤ x → x ≤ min (w 2 2 m.toNat) (sum - w o 7 0) → z ≤ w o 1 (sum - x).toNat + w o 2 x.toNat) ∧ ((∃ x, max (w 2 1 m.toNat) (sum - w o 8 0) ≤ x ∧ x ≤ min (w 2 2 m.toNat) (sum - w o 7 0) ∧ z = w o 1 (sum - x).toNat + w o 2 x.toNat) ∨ z = 9223372036854775807))) := by
  refine ml_of (lv := [(0, .ref (gAd G o)), (1, .int (iI m)), (2, .int (iI sum))]) (by decide) (Nat.le_of_ble_eq_true rfl) rfl ?_
  intro p_ e_ s_ m_ b_ h_ c_ X
  have hpm := hp.2.1 m.toNat (by omega)
  have hp0 := hp.1
  refine g_aload_n X dX4_leastWith_0 rfl 0 rfl ?_
  refine g_geto (o' := 2) X ck_X4 ho 0 (by decide) fl_X4_18 rfl hlk dX4_leastWith_1 ?_
  refine g_geta X ck_X2 h2 2 (by decide) fl_X4_79 rfl dX4_leastWith_4 ?_
  refine g_iload_n X dX4_leastWith_7 rfl 1 rfl ?_
  refine h_iald (a := m) (j := (m).toNat) X rfl h2 (by decide) (show fkX 2 2 = (1, 6) from rfl) (by decide) (by omega) (by omega) dX4_leastWith_8 ?_
  refine g_iload_n X dX4_leastWith_9 rfl 2 rfl ?_
  refine g_aload_n X dX4_leastWith_10 rfl 0 rfl ?_
  refine g_geti X ck_X4 ho 7 (by decide) fl_X4_42 (Or.inl rfl) dX4_leastWith_11 ?_
  refine g_isub X dX4_leastWith_14 ?_
  refine g_min X ml_X4_85 (by unfold InR; omega) (by unfold InR; omega) ⟨Nat.le_of_ble_eq_true rfl, Nat.le_of_ble_eq_true rfl⟩ (Nat.le_of_ble_eq_true rfl) dX4_leastWith_15 ?_
  refine g_istore_n (lv' := [(3, .int (iI (min (w 2 2 (m).toNat) (sum - (w o 7 0))))), (0, .ref (gAd G o)), (1, .int (iI m)), (2, .int (iI sum))]) X dX4_leastWith_18 rfl (by decide) rfl ?_
  refine g_ldc2 (n := 9223372036854775807) X cst_X4_98 (by decide) dX4_leastWith_19 ?_
  refine g_lstore (lv' := [(4, .long (lI 9223372036854775807)), (3, .int (iI (min (w 2 2 (m).toNat) (sum - (w o 7 0))))), (0, .ref (gAd G o)), (1, .int (iI m)), (2, .int (iI sum))]) X dX4_leastWith_22 (by decide) rfl ?_
  refine g_aload_n X dX4_leastWith_24 rfl 2 rfl ?_
  refine g_geto (o' := 2) X ck_X4 ho 0 (by decide) fl_X4_18 rfl hlk dX4_leastWith_25 ?_
  refine g_geta X ck_X2 h2 1 (by decide) fl_X4_67 rfl dX4_leastWith_28 ?_
  refine g_iload_n X dX4_leastWith_31 rfl 3 rfl ?_
  refine h_iald (a := m) (j := (m).toNat) X rfl h2 (by decide) (show fkX 2 1 = (1, 6) from rfl) (by decide) (by omega) (by omega) dX4_leastWith_32 ?_
  refine g_iload_n X dX4_leastWith_33 rfl 4 rfl ?_
  refine g_aload_n X dX4_leastWith_34 rfl 2 rfl ?_
  refine g_geti X ck_X4 ho 8 (by decide) fl_X4_45 (Or.inl rfl) dX4_leastWith_35 ?_
  refine g_isub X dX4_leastWith_38 ?_
  refine g_max X ml_X4_74 (by unfold InR; omega) (by unfold InR; omega) ⟨Nat.le_of_ble_eq_true rfl, Nat.le_of_ble_eq_true rfl⟩ (Nat.le_of_ble_eq_true rfl) dX4_leastWith_39 ?_
  refine g_istore (lv' := [(6, .int (iI (max (w 2 1 (m).toNat) (sum - (w o 8 0))))), (4, .long (lI 9223372036854775807)), (3, .int (iI (min (w 2 2 (m).toNat) (sum - (w o 7 0))))), (0, .ref (gAd G o)), (1, .int (iI m)), (2, .int (iI sum))]) X dX4_leastWith_42 (by decide) rfl ?_
  refine g_lv (lv' := [(0, .ref (gAd G o)), (1, .int (iI m)), (2, .int (iI sum)), (3, .int (iI (min (w 2 2 m.toNat) (sum - w o 7 0)))), (4, .long (lI 9223372036854775807)), (6, .int (iI (max (w 2 1 (m).toNat) (sum - (w o 8 0)))))]) [3, 4, 5, 2, 1, 0] rfl ?_
  refine g_loop2 (fun (found : Int) (x : Int) => [(0, .ref (gAd G o)), (1, .int (iI m)), (2, .int (iI sum)), (3, .int (iI (min (w 2 2 m.toNat) (sum - w o 7 0)))), (4, .long (lI found)), (6, .int (iI x))]) (fun (found : Int) (x : Int) => w) (fun (found : Int) (x : Int) => (max (w 2 1 m.toNat) (sum - w o 8 0) ≤ x) ∧ (x ≤ 1000) ∧ (0 ≤ found ∧ found ≤ 9223372036854775807) ∧ (∀ y, max (w 2 1 m.toNat) (sum - w o 8 0) ≤ y → y < x → y ≤ min (w 2 2 m.toNat) (sum - w o 7 0) → found ≤ w o 1 (sum - y).toNat + w o 2 y.toNat) ∧ (Hid ((∃ y, max (w 2 1 m.toNat) (sum - w o 8 0) ≤ y ∧ y ≤ min (w 2 2 m.toNat) (sum - w o 7 0) ∧ found = w o 1 (sum - y).toNat + w o 2 y.toNat) ∨ found = 9223372036854775807))) (fun (found : Int) (x : Int) => (min (w 2 2 m.toNat) (sum - w o 7 0) + 1 - x).toNat) 9223372036854775807 (max (w 2 1 (m).toNat) (sum - (w o 8 0))) ⟨(by omega), (by first | omega | rfl | assumption), (by decide), (by intro y a b; omega), (by exact Or.inr rfl)⟩ ?_
  intro found x hI_44 ih_44
  obtain ⟨h0, h1, hr, hmin, hex⟩ := hI_44
  try dsimp only at ih_44 ⊢
  refine g_iload X dX4_leastWith_44 5 rfl ?_
  refine g_iload_n X dX4_leastWith_46 rfl 3 rfl ?_
  refine g_icmp_gt (tgt := 87) X dX4_leastWith_47 (by decide) (by unfold InR; omega) (by unfold InR; omega) (fun c_47 => ?_) (fun c_47 => ?_)
  · skip
    refine g_lload X dX4_leastWith_87 4 rfl ?_
    exact g_lret X rfl dX4_leastWith_89 (by refine ⟨rfl, fun y a b => hmin y a (by omega) b, hex⟩)
  · skip
    refine g_aload_n X dX4_leastWith_50 rfl 0 rfl ?_
    refine g_geta X ck_X4 ho 1 (by decide) fl_X4_11 rfl dX4_leastWith_51 ?_
    refine g_iload_n X dX4_leastWith_54 rfl 2 rfl ?_
    refine g_iload X dX4_leastWith_55 5 rfl ?_
    refine g_isub X dX4_leastWith_57 ?_
    refine h_lald (a := sum - x) (j := (sum - x).toNat) X rfl ho (by decide) (show fkX 4 1 = (2, 481) from rfl) (by decide) (by omega) (by omega) dX4_leastWith_58 ?_
    refine g_aload_n X dX4_leastWith_59 rfl 0 rfl ?_
    refine g_geta X ck_X4 ho 2 (by decide) fl_X4_15 rfl dX4_leastWith_60 ?_
    refine g_iload X dX4_leastWith_63 5 rfl ?_
    refine h_lald (a := x) (j := (x).toNat) X rfl ho (by decide) (show fkX 4 2 = (2, 81) from rfl) (by decide) (by omega) (by omega) dX4_leastWith_65 ?_
    refine g_ladd X dX4_leastWith_66 ?_
    refine g_lstore (lv' := [(7, .long (lI ((w o 1 (sum - x).toNat) + (w o 2 (x).toNat)))), (0, .ref (gAd G o)), (1, .int (iI m)), (2, .int (iI sum)), (3, .int (iI (min (w 2 2 m.toNat) (sum - w o 7 0)))), (4, .long (lI found)), (6, .int (iI x))]) X dX4_leastWith_67 (by decide) rfl ?_
    refine g_lload X dX4_leastWith_69 0 rfl ?_
    refine g_lload X dX4_leastWith_71 5 rfl ?_
    refine g_lcmp X dX4_leastWith_73 (by have := hA x h0 (by omega); unfold InL; omega) (by unfold InL; omega) ?_
    refine g_if_ge (tgt := 81) X dX4_leastWith_74 (by decide) (by exact cmp_in _ _) (fun c_74 => ?_) (fun c_74 => ?_)
    · skip
      refine g_iinc (j := 6) (lv' := [(6, .int (iI (x + 1))), (7, .long (lI ((w o 1 (sum - x).toNat) + (w o 2 (x).toNat)))), (0, .ref (gAd G o)), (1, .int (iI m)), (2, .int (iI sum)), (3, .int (iI (min (w 2 2 m.toNat) (sum - w o 7 0)))), (4, .long (lI found))]) X dX4_leastWith_81 rfl (by decide) rfl ?_
      refine g_goto (tgt := 44) X dX4_leastWith_84 (by decide) ?_
      refine g_lv (lv' := [(0, .ref (gAd G o)), (1, .int (iI m)), (2, .int (iI sum)), (3, .int (iI (min (w 2 2 m.toNat) (sum - w o 7 0)))), (4, .long (lI found)), (6, .int (iI (x + 1)))]) [2, 3, 4, 5, 6, 0] rfl ?_
      exact ih_44 found (x + 1) ⟨(by first | omega | rfl | assumption), (by first | omega | rfl | assumption), (by have := hA x h0 (by omega); rw [cmp_nn] at c_74; omega), (by rw [cmp_nn] at c_74; intro y a b d; rcases Int.lt_or_le y x with e | e; (have := hmin y a e d; omega); (have e2 : y = x := (by omega)); subst e2; omega), (by first | exact hex | exact Or.inl ⟨x, h0, by omega, rfl⟩)⟩ (by omega)
    · skip
      refine g_lload X dX4_leastWith_77 0 rfl ?_
      refine g_lstore (lv' := [(4, .long (lI ((w o 1 (sum - x).toNat) + (w o 2 (x).toNat)))), (7, .long (lI ((w o 1 (sum - x).toNat) + (w o 2 (x).toNat)))), (0, .ref (gAd G o)), (1, .int (iI m)), (2, .int (iI sum)), (3, .int (iI (min (w 2 2 m.toNat) (sum - w o 7 0)))), (6, .int (iI x))]) X dX4_leastWith_79 (by decide) rfl ?_
      refine g_iinc (j := 6) (lv' := [(6, .int (iI (x + 1))), (4, .long (lI ((w o 1 (sum - x).toNat) + (w o 2 (x).toNat)))), (7, .long (lI ((w o 1 (sum - x).toNat) + (w o 2 (x).toNat)))), (0, .ref (gAd G o)), (1, .int (iI m)), (2, .int (iI sum)), (3, .int (iI (min (w 2 2 m.toNat) (sum - w o 7 0))))]) X dX4_leastWith_81 rfl (by decide) rfl ?_
      refine g_goto (tgt := 44) X dX4_leastWith_84 (by decide) ?_
      refine g_lv (lv' := [(0, .ref (gAd G o)), (1, .int (iI m)), (2, .int (iI sum)), (3, .int (iI (min (w 2 2 m.toNat) (sum - w o 7 0)))), (4, .long (lI ((w o 1 (sum - x).toNat) + (w o 2 (x).toNat)))), (6, .int (iI (x + 1)))]) [3, 4, 5, 6, 1, 0] rfl ?_
      exact ih_44 ((w o 1 (sum - x).toNat) + (w o 2 (x).toNat)) (x + 1) ⟨(by first | omega | rfl | assumption), (by first | omega | rfl | assumption), (by have := hA x h0 (by omega); rw [cmp_nn] at c_74; omega), (by rw [cmp_nn] at c_74; intro y a b d; rcases Int.lt_or_le y x with e | e; (have := hmin y a e d; omega); (have e2 : y = x := (by omega)); subst e2; omega), (by first | exact hex | exact Or.inl ⟨x, h0, by omega, rfl⟩)⟩ (by omega)
