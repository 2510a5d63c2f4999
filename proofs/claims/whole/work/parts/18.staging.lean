set_option maxHeartbeats 4000000 in
set_option maxRecDepth 100000 in
theorem c_X5_made (l : Launch) (G : Ly) (o : Nat) (B : Int) (w : Wd) (F : FX G) (ho : gOb G o = some 6) (hp : PV (w 2)) (hS : SV B (w 2 0 0) (w o)) (hB : B ≤ 100000) : Mi l yX5_made cX5_made 2 (some .int) 2 45 G [.ref (gAd G 10), .ref (gAd G o)] w (fun z w2 => z = (madeX (w 2) (w o)) ∧ w2 = w) := by
  refine mi_of (lv := [(0, .ref (gAd G 10)), (1, .ref (gAd G o))]) (by decide) (Nat.le_of_ble_eq_true rfl) rfl ?_
  intro p_ e_ s_ m_ b_ h_ c_ X
  have n2 := ne_ob ho (fx2 F) (by decide)
  have n10 := ne_ob ho (fx10 F) (by decide)
  have n11 := ne_ob ho (fx11 F) (by decide)
  have hp0 := hp.1
  have hp7 := hp.2.2
  have sT := hS.1
  have sB := hS.2.1
  have sC := hS.2.2.1
  have sD := hS.2.2.2.1
  have sE := hS.2.2.2.2.1
  have sF := hS.2.2.2.2.2.1
  have sG := hS.2.2.2.2.2.2.1
  have sH := hS.2.2.2.2.2.2.2
  have hrun := bt_or (s := w o 6 0) (t := w o 7 0) (by omega) (by omega) (by omega) (by omega)
  have q1 := pv_least hp (w o 7 0)
  have q2 := pv_most hp (w o 7 0)
  refine g_aload_n X dX5_made_0 rfl 0 rfl ?_
  refine g_geto (o' := 2) X ck_X5 (fx10 F) 1 (by decide) fl_X5_9 rfl (fl10_1 F) dX5_made_1 ?_
  refine g_aload_n X dX5_made_4 rfl 1 rfl ?_
  refine g_geti X ck_X6 ho 7 (by decide) fl_X5_24 (Or.inl rfl) dX5_made_5 ?_
  refine g_calli (st := []) X (c_X2_leasts l G 2 (w o 7 0) w (fx2 F) (by first | assumption | omega | (unfold InR; omega)) (by first | assumption | omega | (unfold InR; omega))) cm_X2_leasts im_X2_leasts se_X2_leasts ml_X5_30 ck_X2 (fx2 F) ⟨Nat.le_of_ble_eq_true rfl, Nat.le_of_ble_eq_true rfl⟩ rfl rfl (Nat.le_of_ble_eq_true rfl) dX5_made_8 (fn_i ?_)
  refine g_aload_n X dX5_made_11 rfl 0 rfl ?_
  refine g_geto (o' := 2) X ck_X5 (fx10 F) 1 (by decide) fl_X5_9 rfl (fl10_1 F) dX5_made_12 ?_
  refine g_aload_n X dX5_made_15 rfl 1 rfl ?_
  refine g_geti X ck_X6 ho 7 (by decide) fl_X5_24 (Or.inl rfl) dX5_made_16 ?_
  refine g_calli (st := [.int (iI (sumB (w o 7 0) (w 2 1) (w 2 0 0).toNat))]) X (c_X2_mosts l G 2 (w o 7 0) w (fx2 F) (by first | assumption | omega | (unfold InR; omega)) (by first | assumption | omega | (unfold InR; omega))) cm_X2_mosts im_X2_mosts se_X2_mosts ml_X5_36 ck_X2 (fx2 F) ⟨Nat.le_of_ble_eq_true rfl, Nat.le_of_ble_eq_true rfl⟩ rfl rfl (Nat.le_of_ble_eq_true rfl) dX5_made_19 (fn_i ?_)
  refine g_aload_n X dX5_made_22 rfl 1 rfl ?_
  refine g_geta X ck_X6 ho 0 (by decide) fl_X5_39 rfl dX5_made_23 ?_
  refine g_iconst X dX5_made_26 ?_
  refine h_iald (a := 0) (j := 0) X rfl ho (by decide) (show fkX 6 0 = (1, 4) from rfl) (by decide) (by omega) (by omega) dX5_made_27 ?_
  refine g_min X ml_X5_43 (by unfold InR; omega) (by unfold InR; omega) ⟨Nat.le_of_ble_eq_true rfl, Nat.le_of_ble_eq_true rfl⟩ (Nat.le_of_ble_eq_true rfl) dX5_made_28 ?_
  refine g_max X ml_X5_49 (by unfold InR; omega) (by unfold InR; omega) ⟨Nat.le_of_ble_eq_true rfl, Nat.le_of_ble_eq_true rfl⟩ (Nat.le_of_ble_eq_true rfl) dX5_made_31 ?_
  exact g_iret X rfl rfl dX5_made_34 (by first | exact ⟨rfl, rfl⟩ | rfl | omega)
set_option maxHeartbeats 4000000 in
set_option maxRecDepth 100000 in
theorem c_X5_powerNow (l : Launch) (G : Ly) (o : Nat) (B : Int) (w : Wd) (F : FX G) (ho : gOb G o = some 6) (hp : PV (w 2)) (hS : SV B (w 2 0 0) (w o)) (hB : B ≤ 100000) (hC : ShC (w 2) (w 11)) : Mi l yX5_powerNow cX5_powerNow 2 (some .int) 4 98 G [.ref (gAd G 10), .ref (gAd G o)] w (fun z w2 => (∀ o2 f j, o2 ≠ 11 → w2 o2 f j = w o2 f j) ∧ ShC (w 2) (w2 11) ∧ PowX (w 2) (w o) z) := by
  refine mi_of (lv := [(0, .ref (gAd G 10)), (1, .ref (gAd G o))]) (by decide) (Nat.le_of_ble_eq_true rfl) rfl ?_
  intro p_ e_ s_ m_ b_ h_ c_ X
  have n2 := ne_ob ho (fx2 F) (by decide)
  have n10 := ne_ob ho (fx10 F) (by decide)
  have n11 := ne_ob ho (fx11 F) (by decide)
  have hp0 := hp.1
  have hp7 := hp.2.2
  have sT := hS.1
  have sB := hS.2.1
  have sC := hS.2.2.1
  have sD := hS.2.2.2.1
  have sE := hS.2.2.2.2.1
  have sF := hS.2.2.2.2.2.1
  have sG := hS.2.2.2.2.2.2.1
  have sH := hS.2.2.2.2.2.2.2
  have hrun := bt_or (s := w o 6 0) (t := w o 7 0) (by omega) (by omega) (by omega) (by omega)
  have mc := made_can (u := w o) hp
  have mr := mc.2 (by omega) (by omega)
  refine g_aload_n X dX5_powerNow_0 rfl 0 rfl ?_
  refine g_geto (o' := 11) X ck_X5 (fx10 F) 0 (by decide) fl_X5_20 rfl (fl10_0 F) dX5_powerNow_1 ?_
  refine g_aload_n X dX5_powerNow_4 rfl 1 rfl ?_
  refine g_geti X ck_X6 ho 7 (by decide) fl_X5_24 (Or.inl rfl) dX5_powerNow_5 ?_
  refine g_aload_n X dX5_powerNow_8 rfl 0 rfl ?_
  refine g_aload_n X dX5_powerNow_9 rfl 1 rfl ?_
  refine g_calli (st := [.int (iI (w o 7 0)), .ref (gAd G 11)]) X (c_X5_made l G o B w F ho (by first | assumption | omega | (unfold InR; omega)) (by exact hS) (by first | assumption | omega | (unfold InR; omega))) cm_X5_made im_X5_made se_X5_made ml_X5_52 ck_X5 (fx10 F) ⟨Nat.le_of_ble_eq_true rfl, Nat.le_of_ble_eq_true rfl⟩ rfl rfl (Nat.le_of_ble_eq_true rfl) dX5_powerNow_10 (fn_i ?_)
  refine g_aload_n X dX5_powerNow_13 rfl 1 rfl ?_
  refine g_calli (st := [.int (iI (madeX (w 2) (w o))), .int (iI (w o 7 0)), .ref (gAd G 11)]) X (c_X6_lift l G o w ho (by unfold InR; omega)) cm_X6_lift im_X6_lift se_X6_lift ml_X5_56 ck_X6 ho ⟨Nat.le_of_ble_eq_true rfl, Nat.le_of_ble_eq_true rfl⟩ rfl rfl (Nat.le_of_ble_eq_true rfl) dX5_powerNow_14 (fn_i ?_)
  refine g_calli (st := []) X (c_X4_find l G 11 (w o 7 0) (madeX (w 2) (w o)) (max 0 (w o 0 2 - w o 0 3)) w (fx11 F) (fx2 F) (fl11_0 F) (by first | assumption | omega | (unfold InR; omega)) (by first | assumption | omega | (unfold InR; omega)) (by omega) (by first | assumption | omega | (unfold InR; omega)) (by omega) (by first | assumption | omega | (unfold InR; omega))) cm_X4_find im_X4_find se_X4_find ml_X5_60 ck_X4 (fx11 F) ⟨Nat.le_of_ble_eq_true rfl, Nat.le_of_ble_eq_true rfl⟩ rfl rfl (Nat.le_of_ble_eq_true rfl) dX5_powerNow_17 ?_
  rintro z_17 u_17 ⟨hfr, hsc, hz⟩
  refine g_if_eq (tgt := 33) X dX5_powerNow_20 (by decide) (by rcases hz with h | h <;> rw [h.1] <;> exact ⟨by decide, by decide⟩) (fun c_20 => ?_) (fun c_20 => ?_)
  · exact absurd c_20 (by rcases hz with h | h; (rw [h.1]; decide); exact absurd mc.1 h.2) --dead
  · skip
    refine g_aload_n X dX5_powerNow_23 rfl 0 rfl ?_
    refine g_geto (o' := 11) X ck_X5 (fx10 F) 0 (by decide) fl_X5_20 rfl (fl10_0 F) dX5_powerNow_24 ?_
    refine g_calli (st := []) X (c_X4_leastPower l G 11 u_17 (fx11 F) (by rcases hz with h | h; (rw [h.2.2.2.2.1]; omega); exact absurd mc.1 h.2)) cm_X4_leastPower im_X4_leastPower se_X4_leastPower ml_X5_64 ck_X4 (fx11 F) ⟨Nat.le_of_ble_eq_true rfl, Nat.le_of_ble_eq_true rfl⟩ rfl rfl (Nat.le_of_ble_eq_true rfl) dX5_powerNow_27 (fn_i ?_)
    refine g_goto (tgt := 34) X dX5_powerNow_30 (by decide) ?_
    exact g_iret X rfl rfl dX5_powerNow_34 (by
        have n2x : (2 : Nat) ≠ 11 := by decide
        refine ⟨hfr, hsc, ?_⟩
        rcases hz with h | h
        · obtain ⟨-, hcan, g3, g4, g5, g6⟩ := h
          rcases hsc with q | q
          · omega
          · have hb := q.2.2.2.2.2
            have hv := best_rng hp q.2.2.2.1 (by omega) hb
            rw [g4, g6] at hb
            have e5 : u_17 11 5 0 = madeX (w 2) (w o) := g5
            exact ⟨_, by rw [← e5]; exact hb, by first | exact (pow_l hv.1 hv.2).1 | exact prt_l hv.1 hv.2 hm.1 (by omega)⟩
        · exact absurd mc.1 h.2)
set_option maxHeartbeats 4000000 in
set_option maxRecDepth 100000 in
theorem c_X5_madeBy (l : Launch) (G : Ly) (o : Nat) (m : Int) (B : Int) (w : Wd) (F : FX G) (ho : gOb G o = some 6) (hp : PV (w 2)) (hS : SV B (w 2 0 0) (w o)) (hB : B ≤ 100000) (hC : ShC (w 2) (w 11)) (hm : 0 ≤ m ∧ m < w 2 0 0) : Mi l yX5_madeBy cX5_madeBy 3 (some .int) 4 98 G [.ref (gAd G 10), .ref (gAd G o), .int (iI m)] w (fun z w2 => (∀ o2 f j, o2 ≠ 11 → w2 o2 f j = w o2 f j) ∧ ShC (w 2) (w2 11) ∧ ∃ v, BestC (w 2) (pkX (w 2) (liftX (w o))) (w o 7 0) (w 2 0 0).toNat (madeX (w 2) (w o)) v ∧ z = v / 2 ^ (7 * (5 - m.toNat)) % 128) := by
  refine mi_of (lv := [(0, .ref (gAd G 10)), (1, .ref (gAd G o)), (2, .int (iI m))]) (by decide) (Nat.le_of_ble_eq_true rfl) rfl ?_
  intro p_ e_ s_ m_ b_ h_ c_ X
  have n2 := ne_ob ho (fx2 F) (by decide)
  have n10 := ne_ob ho (fx10 F) (by decide)
  have n11 := ne_ob ho (fx11 F) (by decide)
  have hp0 := hp.1
  have hp7 := hp.2.2
  have sT := hS.1
  have sB := hS.2.1
  have sC := hS.2.2.1
  have sD := hS.2.2.2.1
  have sE := hS.2.2.2.2.1
  have sF := hS.2.2.2.2.2.1
  have sG := hS.2.2.2.2.2.2.1
  have sH := hS.2.2.2.2.2.2.2
  have hrun := bt_or (s := w o 6 0) (t := w o 7 0) (by omega) (by omega) (by omega) (by omega)
  have mc := made_can (u := w o) hp
  have mr := mc.2 (by omega) (by omega)
  refine g_aload_n X dX5_madeBy_0 rfl 0 rfl ?_
  refine g_geto (o' := 11) X ck_X5 (fx10 F) 0 (by decide) fl_X5_20 rfl (fl10_0 F) dX5_madeBy_1 ?_
  refine g_aload_n X dX5_madeBy_4 rfl 1 rfl ?_
  refine g_geti X ck_X6 ho 7 (by decide) fl_X5_24 (Or.inl rfl) dX5_madeBy_5 ?_
  refine g_aload_n X dX5_madeBy_8 rfl 0 rfl ?_
  refine g_aload_n X dX5_madeBy_9 rfl 1 rfl ?_
  refine g_calli (st := [.int (iI (w o 7 0)), .ref (gAd G 11)]) X (c_X5_made l G o B w F ho (by first | assumption | omega | (unfold InR; omega)) (by exact hS) (by first | assumption | omega | (unfold InR; omega))) cm_X5_made im_X5_made se_X5_made ml_X5_52 ck_X5 (fx10 F) ⟨Nat.le_of_ble_eq_true rfl, Nat.le_of_ble_eq_true rfl⟩ rfl rfl (Nat.le_of_ble_eq_true rfl) dX5_madeBy_10 (fn_i ?_)
  refine g_aload_n X dX5_madeBy_13 rfl 1 rfl ?_
  refine g_calli (st := [.int (iI (madeX (w 2) (w o))), .int (iI (w o 7 0)), .ref (gAd G 11)]) X (c_X6_lift l G o w ho (by unfold InR; omega)) cm_X6_lift im_X6_lift se_X6_lift ml_X5_56 ck_X6 ho ⟨Nat.le_of_ble_eq_true rfl, Nat.le_of_ble_eq_true rfl⟩ rfl rfl (Nat.le_of_ble_eq_true rfl) dX5_madeBy_14 (fn_i ?_)
  refine g_calli (st := []) X (c_X4_find l G 11 (w o 7 0) (madeX (w 2) (w o)) (max 0 (w o 0 2 - w o 0 3)) w (fx11 F) (fx2 F) (fl11_0 F) (by first | assumption | omega | (unfold InR; omega)) (by first | assumption | omega | (unfold InR; omega)) (by omega) (by first | assumption | omega | (unfold InR; omega)) (by omega) (by first | assumption | omega | (unfold InR; omega))) cm_X4_find im_X4_find se_X4_find ml_X5_60 ck_X4 (fx11 F) ⟨Nat.le_of_ble_eq_true rfl, Nat.le_of_ble_eq_true rfl⟩ rfl rfl (Nat.le_of_ble_eq_true rfl) dX5_madeBy_17 ?_
  rintro z_17 u_17 ⟨hfr, hsc, hz⟩
  refine g_if_eq (tgt := 34) X dX5_madeBy_20 (by decide) (by rcases hz with h | h <;> rw [h.1] <;> exact ⟨by decide, by decide⟩) (fun c_20 => ?_) (fun c_20 => ?_)
  · exact absurd c_20 (by rcases hz with h | h; (rw [h.1]; decide); exact absurd mc.1 h.2) --dead
  · skip
    refine g_aload_n X dX5_madeBy_23 rfl 0 rfl ?_
    refine g_geto (o' := 11) X ck_X5 (fx10 F) 0 (by decide) fl_X5_20 rfl (fl10_0 F) dX5_madeBy_24 ?_
    refine g_iload_n X dX5_madeBy_27 rfl 2 rfl ?_
    refine g_calli (st := []) X (c_X4_part l G 11 m u_17 (fx11 F) (by rcases hz with h | h; (rw [h.2.2.2.2.1]; omega); exact absurd mc.1 h.2)) cm_X4_part im_X4_part se_X4_part ml_X5_67 ck_X4 (fx11 F) ⟨Nat.le_of_ble_eq_true rfl, Nat.le_of_ble_eq_true rfl⟩ rfl rfl (Nat.le_of_ble_eq_true rfl) dX5_madeBy_28 (fn_i ?_)
    refine g_goto (tgt := 35) X dX5_madeBy_31 (by decide) ?_
    exact g_iret X rfl rfl dX5_madeBy_35 (by
        have n2x : (2 : Nat) ≠ 11 := by decide
        refine ⟨hfr, hsc, ?_⟩
        rcases hz with h | h
        · obtain ⟨-, hcan, g3, g4, g5, g6⟩ := h
          rcases hsc with q | q
          · omega
          · have hb := q.2.2.2.2.2
            have hv := best_rng hp q.2.2.2.1 (by omega) hb
            rw [g4, g6] at hb
            have e5 : u_17 11 5 0 = madeX (w 2) (w o) := g5
            exact ⟨_, by rw [← e5]; exact hb, by first | exact (pow_l hv.1 hv.2).1 | exact prt_l hv.1 hv.2 hm.1 (by omega)⟩
        · exact absurd mc.1 h.2)
set_option maxHeartbeats 4000000 in
set_option maxRecDepth 100000 in
theorem c_X5_gapIsOver (l : Launch) (G : Ly) (o : Nat) (tick : Int) (B : Int) (w : Wd) (F : FX G) (ho : gOb G o = some 6) (hp : PV (w 2)) (hS : SV B (w 2 0 0) (w o)) (hB : B ≤ 100000) (ht : -1000 ≤ tick ∧ tick ≤ 200000) : Mi l yX5_gapIsOver cX5_gapIsOver 3 (some .boolean) 0 0 G [.ref (gAd G 10), .ref (gAd G o), .int (iI tick)] w (fun z w2 => z = (if w 2 10 0 < tick - w o 8 0 then 1 else 0) ∧ w2 = w) := by
  refine mi_of (lv := [(0, .ref (gAd G 10)), (1, .ref (gAd G o)), (2, .int (iI tick))]) (by decide) (Nat.le_of_ble_eq_true rfl) rfl ?_
  intro p_ e_ s_ m_ b_ h_ c_ X
  have n2 := ne_ob ho (fx2 F) (by decide)
  have n10 := ne_ob ho (fx10 F) (by decide)
  have n11 := ne_ob ho (fx11 F) (by decide)
  have hp0 := hp.1
  have hp7 := hp.2.2
  have sT := hS.1
  have sB := hS.2.1
  have sC := hS.2.2.1
  have sD := hS.2.2.2.1
  have sE := hS.2.2.2.2.1
  have sF := hS.2.2.2.2.2.1
  have sG := hS.2.2.2.2.2.2.1
  have sH := hS.2.2.2.2.2.2.2
  have hrun := bt_or (s := w o 6 0) (t := w o 7 0) (by omega) (by omega) (by omega) (by omega)
  refine g_iload_n X dX5_gapIsOver_0 rfl 2 rfl ?_
  refine g_aload_n X dX5_gapIsOver_1 rfl 1 rfl ?_
  refine g_geti X ck_X6 ho 8 (by decide) fl_X5_152 (Or.inl rfl) dX5_gapIsOver_2 ?_
  refine g_isub X dX5_gapIsOver_5 ?_
  refine g_aload_n X dX5_gapIsOver_6 rfl 0 rfl ?_
  refine g_geto (o' := 2) X ck_X5 (fx10 F) 1 (by decide) fl_X5_9 rfl (fl10_1 F) dX5_gapIsOver_7 ?_
  refine g_geti X ck_X2 (fx2 F) 10 (by decide) fl_X5_155 (Or.inl rfl) dX5_gapIsOver_10 ?_
  refine g_icmp_le (tgt := 20) X dX5_gapIsOver_13 (by decide) (by unfold InR; omega) (by unfold InR; omega) (fun c_13 => ?_) (fun c_13 => ?_)
  · skip
    refine g_iconst X dX5_gapIsOver_20 ?_
    exact g_iret X rfl (by decide) dX5_gapIsOver_21 (by first | exact ⟨by rw [if_pos (by omega)], rfl⟩ | exact ⟨by rw [if_neg (by omega)], rfl⟩)
  · skip
    refine g_iconst X dX5_gapIsOver_16 ?_
    refine g_goto (tgt := 21) X dX5_gapIsOver_17 (by decide) ?_
    exact g_iret X rfl (by decide) dX5_gapIsOver_21 (by first | exact ⟨by rw [if_pos (by omega)], rfl⟩ | exact ⟨by rw [if_neg (by omega)], rfl⟩)
set_option maxHeartbeats 4000000 in
set_option maxRecDepth 100000 in
theorem c_X5_mayStart (l : Launch) (G : Ly) (o : Nat) (m : Int) (tick : Int) (B : Int) (w : Wd) (F : FX G) (ho : gOb G o = some 6) (hp : PV (w 2)) (hS : SV B (w 2 0 0) (w o)) (hB : B ≤ 100000) (hm : 0 ≤ m ∧ m < w 2 0 0) (ht : -1000 ≤ tick ∧ tick ≤ 200000) : Mi l yX5_mayStart cX5_mayStart 4 (some .boolean) 3 65 G [.ref (gAd G 10), .ref (gAd G o), .int (iI m), .int (iI tick)] w (fun z w2 => z = (if mayX (w 2) (w o) m tick then 1 else 0) ∧ w2 = w) := by
  refine mi_of (lv := [(0, .ref (gAd G 10)), (1, .ref (gAd G o)), (2, .int (iI m)), (3, .int (iI tick))]) (by decide) (Nat.le_of_ble_eq_true rfl) rfl ?_
  intro p_ e_ s_ m_ b_ h_ c_ X
  have n2 := ne_ob ho (fx2 F) (by decide)
  have n10 := ne_ob ho (fx10 F) (by decide)
  have n11 := ne_ob ho (fx11 F) (by decide)
  have hp0 := hp.1
  have hp7 := hp.2.2
  have sT := hS.1
  have sB := hS.2.1
  have sC := hS.2.2.1
  have sD := hS.2.2.2.1
  have sE := hS.2.2.2.2.1
  have sF := hS.2.2.2.2.2.1
  have sG := hS.2.2.2.2.2.2.1
  have sH := hS.2.2.2.2.2.2.2
  have hrun := bt_or (s := w o 6 0) (t := w o 7 0) (by omega) (by omega) (by omega) (by omega)
  have hro := bt_or (s := bor (w o 6 0) (w o 7 0)) (t := w o 5 0) (by omega) (by omega) (by omega) (by omega)
  have ht01 := tb01 (bor (bor (w o 6 0) (w o 7 0)) (w o 5 0)) m.toNat
  have sbr : ∀ b, 1 ≤ b → b ≤ 9 → -100000 ≤ (if w o 12 m.toNat < b then -100000 else w o 13 (m * 9 + (w o 12 m.toNat - b) % 9).toNat) ∧ (if w o 12 m.toNat < b then -100000 else w o 13 (m * 9 + (w o 12 m.toNat - b) % 9).toNat) ≤ 100000 := by
    intro b b1 b2
    have := sF m.toNat (by omega)
    split
    · omega
    · have := sG (m * 9 + (w o 12 m.toNat - b) % 9).toNat (by omega)
      omega
  have sfm := sF m.toNat (by omega)
  refine g_aload_n X dX5_mayStart_0 rfl 1 rfl ?_
  refine g_calli (st := []) X (c_X6_running l G o w ho) cm_X6_running im_X6_running se_X6_running ml_X5_85 ck_X6 ho ⟨Nat.le_of_ble_eq_true rfl, Nat.le_of_ble_eq_true rfl⟩ rfl rfl (Nat.le_of_ble_eq_true rfl) dX5_mayStart_1 (fn_i ?_)
  refine g_aload_n X dX5_mayStart_4 rfl 1 rfl ?_
  refine g_geti X ck_X6 ho 5 (by decide) fl_X5_158 (Or.inl rfl) dX5_mayStart_5 ?_
  refine g_ior X dX5_mayStart_8 ?_
  refine g_iload_n X dX5_mayStart_9 rfl 2 rfl ?_
  refine g_callni (st := []) X (c_X7_bitOf l G (bor (bor (w o 6 0) (w o 7 0)) (w o 5 0)) m w (by first | assumption | omega | (unfold InR; omega)) (by first | assumption | omega | (unfold InR; omega))) cm_X7_bitOf sm_X7_bitOf mn_X5_88 ⟨Nat.le_of_ble_eq_true rfl, Nat.le_of_ble_eq_true rfl⟩ rfl rfl (Nat.le_of_ble_eq_true rfl) dX5_mayStart_10 (fn_i ?_)
  refine g_if_ne (tgt := 64) X dX5_mayStart_13 (by decide) (by unfold InR; omega) (fun c_13 => ?_) (fun c_13 => ?_)
  · skip
    refine g_iconst X dX5_mayStart_64 ?_
    exact g_iret X rfl (by decide) dX5_mayStart_65 (by
        first
        | exact ⟨by rw [if_pos (show mayX (w 2) (w o) m tick from ⟨by unfold runX; omega, by omega, by unfold sbX; omega, of_one c_57⟩)], rfl⟩
        | exact ⟨by rw [if_neg (show ¬ mayX (w 2) (w o) m tick from fun h => of_zero c_57 h.2.2.2)], rfl⟩
        | exact ⟨by rw [if_neg (show ¬ mayX (w 2) (w o) m tick from fun h => by unfold mayX runX sbX at h; omega)], rfl⟩)
  · skip
    refine g_aload_n X dX5_mayStart_16 rfl 1 rfl ?_
    refine g_iload_n X dX5_mayStart_17 rfl 2 rfl ?_
    refine g_iload_n X dX5_mayStart_18 rfl 3 rfl ?_
    refine g_calli (st := []) X (c_X6_ticksSinceStop l G o m tick w ho (by first | assumption | omega | (unfold InR; omega))) cm_X6_ticksSinceStop im_X6_ticksSinceStop se_X6_ticksSinceStop ml_X5_161 ck_X6 ho ⟨Nat.le_of_ble_eq_true rfl, Nat.le_of_ble_eq_true rfl⟩ rfl rfl (Nat.le_of_ble_eq_true rfl) dX5_mayStart_19 (fn_i ?_)
    refine g_aload_n X dX5_mayStart_22 rfl 0 rfl ?_
    refine g_geto (o' := 2) X ck_X5 (fx10 F) 1 (by decide) fl_X5_9 rfl (fl10_1 F) dX5_mayStart_23 ?_
    refine g_geti X ck_X2 (fx2 F) 8 (by decide) fl_X5_164 (Or.inl rfl) dX5_mayStart_26 ?_
    refine g_icmp_le (tgt := 64) X dX5_mayStart_29 (by decide) (by unfold InR; omega) (by unfold InR; omega) (fun c_29 => ?_) (fun c_29 => ?_)
    · skip
      refine g_iconst X dX5_mayStart_64 ?_
      exact g_iret X rfl (by decide) dX5_mayStart_65 (by
          first
          | exact ⟨by rw [if_pos (show mayX (w 2) (w o) m tick from ⟨by unfold runX; omega, by omega, by unfold sbX; omega, of_one c_57⟩)], rfl⟩
          | exact ⟨by rw [if_neg (show ¬ mayX (w 2) (w o) m tick from fun h => of_zero c_57 h.2.2.2)], rfl⟩
          | exact ⟨by rw [if_neg (show ¬ mayX (w 2) (w o) m tick from fun h => by unfold mayX runX sbX at h; omega)], rfl⟩)
    · skip
      refine g_iload_n X dX5_mayStart_32 rfl 3 rfl ?_
      refine g_aload_n X dX5_mayStart_33 rfl 1 rfl ?_
      refine g_iload_n X dX5_mayStart_34 rfl 2 rfl ?_
      refine g_aload_n X dX5_mayStart_35 rfl 0 rfl ?_
      refine g_geto (o' := 2) X ck_X5 (fx10 F) 1 (by decide) fl_X5_9 rfl (fl10_1 F) dX5_mayStart_36 ?_
      refine g_geti X ck_X2 (fx2 F) 9 (by decide) fl_X5_167 (Or.inl rfl) dX5_mayStart_39 ?_
      refine g_calli (st := [.int (iI tick)]) X (c_X6_startBack l G o m (w 2 9 0) w ho (by first | assumption | omega | (unfold InR; omega)) (by first | assumption | omega | (unfold InR; omega)) (by first | assumption | omega | (unfold InR; omega))) cm_X6_startBack im_X6_startBack se_X6_startBack ml_X5_170 ck_X6 ho ⟨Nat.le_of_ble_eq_true rfl, Nat.le_of_ble_eq_true rfl⟩ rfl rfl (Nat.le_of_ble_eq_true rfl) dX5_mayStart_42 (fn_i ?_)
      refine g_isub X dX5_mayStart_45 ?_
      refine g_bipush X dX5_mayStart_46 (by decide) ?_
      refine g_icmp_lt (tgt := 64) X dX5_mayStart_48 (by decide) (by have h9 := sbr (w 2 9 0) (by omega) (by omega); unfold InR; omega) ⟨by decide, by decide⟩ (fun c_48 => ?_) (fun c_48 => ?_)
      · skip
        refine g_iconst X dX5_mayStart_64 ?_
        exact g_iret X rfl (by decide) dX5_mayStart_65 (by
            first
            | exact ⟨by rw [if_pos (show mayX (w 2) (w o) m tick from ⟨by unfold runX; omega, by omega, by unfold sbX; omega, of_one c_57⟩)], rfl⟩
            | exact ⟨by rw [if_neg (show ¬ mayX (w 2) (w o) m tick from fun h => of_zero c_57 h.2.2.2)], rfl⟩
            | exact ⟨by rw [if_neg (show ¬ mayX (w 2) (w o) m tick from fun h => by unfold mayX runX sbX at h; omega)], rfl⟩)
      · skip
        refine g_aload_n X dX5_mayStart_51 rfl 0 rfl ?_
        refine g_aload_n X dX5_mayStart_52 rfl 1 rfl ?_
        refine g_iload_n X dX5_mayStart_53 rfl 3 rfl ?_
        refine g_calli (st := []) X (c_X5_gapIsOver l G o tick B w F ho (by first | assumption | omega | (unfold InR; omega)) (by first | assumption | omega | (unfold InR; omega)) (by first | assumption | omega | (unfold InR; omega)) (by first | assumption | omega | (unfold InR; omega))) cm_X5_gapIsOver im_X5_gapIsOver se_X5_gapIsOver ml_X5_117 ck_X5 (fx10 F) ⟨Nat.le_of_ble_eq_true rfl, Nat.le_of_ble_eq_true rfl⟩ rfl rfl (Nat.le_of_ble_eq_true rfl) dX5_mayStart_54 (fn_i ?_)
        refine g_if_eq (tgt := 64) X dX5_mayStart_57 (by decide) (by split <;> exact ⟨by decide, by decide⟩) (fun c_57 => ?_) (fun c_57 => ?_)
        · skip
          refine g_iconst X dX5_mayStart_64 ?_
          exact g_iret X rfl (by decide) dX5_mayStart_65 (by
              first
              | exact ⟨by rw [if_pos (show mayX (w 2) (w o) m tick from ⟨by unfold runX; omega, by omega, by unfold sbX; omega, of_one c_57⟩)], rfl⟩
              | exact ⟨by rw [if_neg (show ¬ mayX (w 2) (w o) m tick from fun h => of_zero c_57 h.2.2.2)], rfl⟩
              | exact ⟨by rw [if_neg (show ¬ mayX (w 2) (w o) m tick from fun h => by unfold mayX runX sbX at h; omega)], rfl⟩)
        · skip
          refine g_iconst X dX5_mayStart_60 ?_
          refine g_goto (tgt := 65) X dX5_mayStart_61 (by decide) ?_
          exact g_iret X rfl (by decide) dX5_mayStart_65 (by
              first
              | exact ⟨by rw [if_pos (show mayX (w 2) (w o) m tick from ⟨by unfold runX; omega, by omega, by unfold sbX; omega, of_one c_57⟩)], rfl⟩
              | exact ⟨by rw [if_neg (show ¬ mayX (w 2) (w o) m tick from fun h => of_zero c_57 h.2.2.2)], rfl⟩
              | exact ⟨by rw [if_neg (show ¬ mayX (w 2) (w o) m tick from fun h => by unfold mayX runX sbX at h; omega)], rfl⟩)
set_option maxHeartbeats 4000000 in
set_option maxRecDepth 100000 in
theorem c_X5_comeOn (l : Launch) (G : Ly) (o : Nat) (m : Int) (B : Int) (w : Wd) (F : FX G) (ho : gOb G o = some 6) (hp : PV (w 2)) (hS : SV B (w 2 0 0) (w o)) (hB : B ≤ 100000) (hm : 0 ≤ m ∧ m < w 2 0 0) : Mv l yX5_comeOn cX5_comeOn 3 none 4 87 G [.ref (gAd G 10), .ref (gAd G o), .int (iI m)] w (fun w2 => w2 = setO w o (coX (w o) m)) := by
  refine mv_of (lv := [(0, .ref (gAd G 10)), (1, .ref (gAd G o)), (2, .int (iI m))]) (by decide) (Nat.le_of_ble_eq_true rfl) rfl ?_
  intro p_ e_ s_ m_ b_ h_ c_ X
  have n2 := ne_ob ho (fx2 F) (by decide)
  have n10 := ne_ob ho (fx10 F) (by decide)
  have n11 := ne_ob ho (fx11 F) (by decide)
  have hp0 := hp.1
  have hp7 := hp.2.2
  have sT := hS.1
  have sB := hS.2.1
  have sC := hS.2.2.1
  have sD := hS.2.2.2.1
  have sE := hS.2.2.2.2.1
  have sF := hS.2.2.2.2.2.1
  have sG := hS.2.2.2.2.2.2.1
  have sH := hS.2.2.2.2.2.2.2
  have hrun := bt_or (s := w o 6 0) (t := w o 7 0) (by omega) (by omega) (by omega) (by omega)
  have ht01 := tb01 (w o 6 0) m.toNat
  have sbr : ∀ b, 1 ≤ b → b ≤ 9 → -100000 ≤ (if w o 12 m.toNat < b then -100000 else w o 13 (m * 9 + (w o 12 m.toNat - b) % 9).toNat) ∧ (if w o 12 m.toNat < b then -100000 else w o 13 (m * 9 + (w o 12 m.toNat - b) % 9).toNat) ≤ 100000 := by
    intro b b1 b2
    have := sF m.toNat (by omega)
    split
    · omega
    · have := sG (m * 9 + (w o 12 m.toNat - b) % 9).toNat (by omega)
      omega
  have sfm := sF m.toNat (by omega)
  refine g_aload_n X dX5_comeOn_0 rfl 1 rfl ?_
  refine g_geti X ck_X6 ho 6 (by decide) fl_X5_111 (Or.inl rfl) dX5_comeOn_1 ?_
  refine g_iload_n X dX5_comeOn_4 rfl 2 rfl ?_
  refine g_callni (st := []) X (c_X7_bitOf l G (w o 6 0) m w (by first | assumption | omega | (unfold InR; omega)) (by first | assumption | omega | (unfold InR; omega))) cm_X7_bitOf sm_X7_bitOf mn_X5_88 ⟨Nat.le_of_ble_eq_true rfl, Nat.le_of_ble_eq_true rfl⟩ rfl rfl (Nat.le_of_ble_eq_true rfl) dX5_comeOn_5 (fn_i ?_)
  refine g_iconst X dX5_comeOn_8 ?_
  refine g_icmp_ne (tgt := 51) X dX5_comeOn_9 (by decide) (by unfold InR; omega) ⟨by decide, by decide⟩ (fun c_9 => ?_) (fun c_9 => ?_)
  · skip
    exact g_vret X rfl dX5_comeOn_51 (by
        first
        | (show w = _; unfold coX sbX; rw [if_neg (by omega), setO_self])
        | (unfold coX sbX; rw [if_pos ⟨by omega, by omega⟩, up_setO w o 6 0, up_set2, setO_at, fu_ne (fun z => absurd z.1 (by decide))]))
  · skip
    refine g_aload_n X dX5_comeOn_12 rfl 1 rfl ?_
    refine g_iload_n X dX5_comeOn_13 rfl 2 rfl ?_
    refine g_aload_n X dX5_comeOn_14 rfl 1 rfl ?_
    refine g_geti X ck_X6 ho 1 (by decide) fl_X5_76 (Or.inl rfl) dX5_comeOn_15 ?_
    refine g_calli (st := []) X (c_X6_ticksSinceStart l G o m (w o 1 0) w ho (by first | assumption | omega | (unfold InR; omega)) (by first | assumption | omega | (unfold InR; omega))) cm_X6_ticksSinceStart im_X6_ticksSinceStart se_X6_ticksSinceStart ml_X5_114 ck_X6 ho ⟨Nat.le_of_ble_eq_true rfl, Nat.le_of_ble_eq_true rfl⟩ rfl rfl (Nat.le_of_ble_eq_true rfl) dX5_comeOn_18 (fn_i ?_)
    refine g_iconst X dX5_comeOn_21 ?_
    refine g_icmp_lt (tgt := 51) X dX5_comeOn_22 (by decide) (by have h9 := sbr 1 (by decide) (by decide); unfold InR; omega) ⟨by decide, by decide⟩ (fun c_22 => ?_) (fun c_22 => ?_)
    · skip
      exact g_vret X rfl dX5_comeOn_51 (by
          first
          | (show w = _; unfold coX sbX; rw [if_neg (by omega), setO_self])
          | (unfold coX sbX; rw [if_pos ⟨by omega, by omega⟩, up_setO w o 6 0, up_set2, setO_at, fu_ne (fun z => absurd z.1 (by decide))]))
    · skip
      refine g_aload_n X dX5_comeOn_25 rfl 1 rfl ?_
      refine g_dup X dX5_comeOn_26 rfl ?_
      refine g_geti X ck_X6 ho 6 (by decide) fl_X5_111 (Or.inl rfl) dX5_comeOn_27 ?_
      refine g_iconst X dX5_comeOn_30 ?_
      refine g_iload_n X dX5_comeOn_31 rfl 2 rfl ?_
      refine g_ishl X dX5_comeOn_32 ?_
      refine g_iconst X dX5_comeOn_33 ?_
      refine g_ixor X dX5_comeOn_34 ?_
      refine g_iand X dX5_comeOn_35 ?_
      refine g_puti X ck_X6 ho 6 (by decide) fl_X5_111 rfl rfl rfl dX5_comeOn_36 ?_
      obtain ⟨w_1, ew_1⟩ : ∃ q_ : Wd, q_ = up w o 6 0 (band (w o 6 0) (bxor (bshl 1 m) (-1))) := ⟨_, rfl⟩
      refine g_w (w' := w_1) ew_1 ?_
      refine g_aload_n X dX5_comeOn_39 rfl 1 rfl ?_
      refine g_dup X dX5_comeOn_40 rfl ?_
      refine g_geti X ck_X6 ho 7 (by decide) fl_X5_24 (Or.inl rfl) dX5_comeOn_41 ?_
      refine g_iconst X dX5_comeOn_44 ?_
      refine g_iload_n X dX5_comeOn_45 rfl 2 rfl ?_
      refine g_ishl X dX5_comeOn_46 ?_
      refine g_ior X dX5_comeOn_47 ?_
      refine g_puti X ck_X6 ho 7 (by decide) fl_X5_24 rfl rfl rfl dX5_comeOn_48 ?_
      obtain ⟨w_2, ew_2⟩ : ∃ q_ : Wd, q_ = up w_1 o 7 0 (bor (w_1 o 7 0) (bshl 1 m)) := ⟨_, rfl⟩
      refine g_w (w' := w_2) ew_2 ?_
      exact g_vret X rfl dX5_comeOn_51 (by
          first
          | (show w = _; unfold coX sbX; rw [if_neg (by omega), setO_self])
          | (unfold coX sbX; rw [if_pos ⟨by omega, by omega⟩, ew_2, ew_1, up_setO w o 6 0, up_set2, setO_at, fu_ne (fun z => absurd z.1 (by decide))]))
set_option maxHeartbeats 4000000 in
set_option maxRecDepth 100000 in
theorem c_X5_comeBack (l : Launch) (G : Ly) (o : Nat) (B : Int) (w : Wd) (F : FX G) (ho : gOb G o = some 6) (hp : PV (w 2)) (hS : SV B (w 2 0 0) (w o)) (hB : B ≤ 100000) (hl : 0 < w o 9 0) : Mv l yX5_comeBack cX5_comeBack 3 none 3 64 G [.ref (gAd G 10), .ref (gAd G o)] w (fun w2 => w2 = setO w o (cbX (w 2) (w o))) := by
  refine mv_of (lv := [(0, .ref (gAd G 10)), (1, .ref (gAd G o))]) (by decide) (Nat.le_of_ble_eq_true rfl) rfl ?_
  intro p_ e_ s_ m_ b_ h_ c_ X
  have n2 := ne_ob ho (fx2 F) (by decide)
  have n10 := ne_ob ho (fx10 F) (by decide)
  have n11 := ne_ob ho (fx11 F) (by decide)
  have hp0 := hp.1
  have hp7 := hp.2.2
  have sT := hS.1
  have sB := hS.2.1
  have sC := hS.2.2.1
  have sD := hS.2.2.2.1
  have sE := hS.2.2.2.2.1
  have sF := hS.2.2.2.2.2.1
  have sG := hS.2.2.2.2.2.2.1
  have sH := hS.2.2.2.2.2.2.2
  have hrun := bt_or (s := w o 6 0) (t := w o 7 0) (by omega) (by omega) (by omega) (by omega)
  have h10 := sE 0 (by omega)
  refine g_aload_n X dX5_comeBack_0 rfl 0 rfl ?_
  refine g_aload_n X dX5_comeBack_1 rfl 1 rfl ?_
  refine g_aload_n X dX5_comeBack_2 rfl 1 rfl ?_
  refine g_geti X ck_X6 ho 1 (by decide) fl_X5_76 (Or.inl rfl) dX5_comeBack_3 ?_
  refine g_calli (st := []) X (c_X5_gapIsOver l G o (w o 1 0) B w F ho (by first | assumption | omega | (unfold InR; omega)) (by first | assumption | omega | (unfold InR; omega)) (by first | assumption | omega | (unfold InR; omega)) (by first | assumption | omega | (unfold InR; omega))) cm_X5_gapIsOver im_X5_gapIsOver se_X5_gapIsOver ml_X5_117 ck_X5 (fx10 F) ⟨Nat.le_of_ble_eq_true rfl, Nat.le_of_ble_eq_true rfl⟩ rfl rfl (Nat.le_of_ble_eq_true rfl) dX5_comeBack_6 (fn_i ?_)
  refine g_if_eq (tgt := 27) X dX5_comeBack_9 (by decide) (by split <;> exact ⟨by decide, by decide⟩) (fun c_9 => ?_) (fun c_9 => ?_)
  · skip
    exact g_vret X rfl dX5_comeBack_27 (by
        first
        | (show w = _; unfold cbX; rw [if_neg (of_zero c_9), setO_self])
        | (unfold cbX; rw [if_pos (of_one c_9), st_eq, ew_1, tk_eq, setO_setO, setO_at]))
  · skip
    refine g_aload_n X dX5_comeBack_12 rfl 1 rfl ?_
    refine g_calli (st := []) X (c_X6_firstOfList l G o w ho) cm_X6_firstOfList im_X6_firstOfList se_X6_firstOfList ml_X5_121 ck_X6 ho ⟨Nat.le_of_ble_eq_true rfl, Nat.le_of_ble_eq_true rfl⟩ rfl rfl (Nat.le_of_ble_eq_true rfl) dX5_comeBack_13 (fn_i ?_)
    refine g_istore_n (lv' := [(2, .int (iI (w o 10 0))), (0, .ref (gAd G 10)), (1, .ref (gAd G o))]) X dX5_comeBack_16 rfl (by decide) rfl ?_
    refine g_aload_n X dX5_comeBack_17 rfl 2 rfl ?_
    refine g_iload_n X dX5_comeBack_18 rfl 0 rfl ?_
    refine g_callv (st := []) X (c_X6_takeOffList l G o (w o 10 0) w ho (by omega) (by unfold InR; omega) (by intro j hj; have := sE j hj; unfold InR; omega)) cm_X6_takeOffList im_X6_takeOffList se_X6_takeOffList ml_X5_124 ck_X6 ho ⟨Nat.le_of_ble_eq_true rfl, Nat.le_of_ble_eq_true rfl⟩ rfl rfl (Nat.le_of_ble_eq_true rfl) dX5_comeBack_19 (fn_v ?_)
    obtain ⟨w_1, ew_1⟩ : ∃ q_ : Wd, q_ = up (upA w o 10 (tol (w o 10) (w o 10 0) (w o 9 0).toNat).1) o 9 0 ((tol (w o 10) (w o 10 0) (w o 9 0).toNat).2 : Int) := ⟨_, rfl⟩
    refine g_w (w' := w_1) ew_1 ?_
    refine g_aload_n X dX5_comeBack_22 rfl 2 rfl ?_
    refine g_iload_n X dX5_comeBack_23 rfl 0 rfl ?_
    refine g_callv (st := []) X (c_X6_start l G o (w o 10 0) w_1 ho (by omega) (by
        have hs2 := (sv_tk (m := w o 10 0) hS).2.2.2.2.2.1 (w o 10 0).toNat (by omega)
        rw [show w_1 = _ from ew_1, tk_eq, setO_at]
        omega)) cm_X6_start im_X6_start se_X6_start ml_X5_128 ck_X6 ho ⟨Nat.le_of_ble_eq_true rfl, Nat.le_of_ble_eq_true rfl⟩ rfl rfl (Nat.le_of_ble_eq_true rfl) dX5_comeBack_24 (fn_v ?_)
    obtain ⟨w_2, ew_2⟩ : ∃ q_ : Wd, q_ = up (up (up (up w_1 o 6 0 (bor (w_1 o 6 0) (bshl 1 (w o 10 0)))) o 13 ((w o 10 0) * 9 + w_1 o 12 (w o 10 0).toNat % 9).toNat (w_1 o 1 0)) o 12 (w o 10 0).toNat (w_1 o 12 (w o 10 0).toNat + 1)) o 8 0 (w_1 o 1 0) := ⟨_, rfl⟩
    refine g_w (w' := w_2) ew_2 ?_
    exact g_vret X rfl dX5_comeBack_27 (by
        first
        | (show w = _; unfold cbX; rw [if_neg (of_zero c_9), setO_self])
        | (unfold cbX; rw [if_pos (of_one c_9), ew_2, st_eq, ew_1, tk_eq, setO_setO, setO_at]))
set_option maxHeartbeats 4000000 in
set_option maxRecDepth 100000 in
theorem c_X5_nextToStart (l : Launch) (G : Ly) (o : Nat) (B : Int) (w : Wd) (F : FX G) (ho : gOb G o = some 6) (hp : PV (w 2)) (hS : SV B (w 2 0 0) (w o)) (hB : B ≤ 100000) : Mi l yX5_nextToStart cX5_nextToStart 4 (some .int) 4 88 G [.ref (gAd G 10), .ref (gAd G o)] w (fun z w2 => z = (nsX (w 2) (w o) (w 2 0 0).toNat) ∧ w2 = w) := by
  refine mi_of (lv := [(0, .ref (gAd G 10)), (1, .ref (gAd G o))]) (by decide) (Nat.le_of_ble_eq_true rfl) rfl ?_
  intro p_ e_ s_ m_ b_ h_ c_ X
  have n2 := ne_ob ho (fx2 F) (by decide)
  have n10 := ne_ob ho (fx10 F) (by decide)
  have n11 := ne_ob ho (fx11 F) (by decide)
  have hp0 := hp.1
  have hp7 := hp.2.2
  have sT := hS.1
  have sB := hS.2.1
  have sC := hS.2.2.1
  have sD := hS.2.2.2.1
  have sE := hS.2.2.2.2.1
  have sF := hS.2.2.2.2.2.1
  have sG := hS.2.2.2.2.2.2.1
  have sH := hS.2.2.2.2.2.2.2
  have hrun := bt_or (s := w o 6 0) (t := w o 7 0) (by omega) (by omega) (by omega) (by omega)
  refine g_bipush X dX5_nextToStart_0 (by decide) ?_
  refine g_istore_n (lv' := [(2, .int (iI (-4))), (0, .ref (gAd G 10)), (1, .ref (gAd G o))]) X dX5_nextToStart_2 rfl (by decide) rfl ?_
  refine g_iconst X dX5_nextToStart_3 ?_
  refine g_istore_n (lv' := [(3, .int (iI 0)), (2, .int (iI (-4))), (0, .ref (gAd G 10)), (1, .ref (gAd G o))]) X dX5_nextToStart_4 rfl (by decide) rfl ?_
  refine g_lv (lv' := [(0, .ref (gAd G 10)), (1, .ref (gAd G o)), (2, .int (iI (-4))), (3, .int (iI 0))]) [2, 3, 1, 0] rfl ?_
  refine g_loop2 (fun (found : Int) (k : Int) => [(0, .ref (gAd G 10)), (1, .ref (gAd G o)), (2, .int (iI found)), (3, .int (iI k))]) (fun (found : Int) (k : Int) => w) (fun (found : Int) (k : Int) => (0 ≤ k) ∧ (k ≤ w 2 0 0) ∧ (found = nsX (w 2) (w o) k.toNat) ∧ (found = -4 ∨ (0 ≤ found ∧ found < k))) (fun (found : Int) (k : Int) => (w 2 0 0 - k).toNat) (-4) 0 ⟨(by first | omega | rfl | assumption), (by first | omega | rfl | assumption), (by rfl), (by first | omega | rfl | assumption)⟩ ?_
  intro found k hI_5 ih_5
  obtain ⟨h0, h1, hf, hr⟩ := hI_5
  try dsimp only at ih_5 ⊢
  refine g_iload_n X dX5_nextToStart_5 rfl 3 rfl ?_
  refine g_aload_n X dX5_nextToStart_6 rfl 0 rfl ?_
  refine g_geto (o' := 2) X ck_X5 (fx10 F) 1 (by decide) fl_X5_9 rfl (fl10_1 F) dX5_nextToStart_7 ?_
  refine g_geti X ck_X2 (fx2 F) 0 (by decide) fl_X5_79 (Or.inl rfl) dX5_nextToStart_10 ?_
  refine g_icmp_ge (tgt := 58) X dX5_nextToStart_13 (by decide) (by unfold InR; omega) (by unfold InR; omega) (fun c_13 => ?_) (fun c_13 => ?_)
  · skip
    refine g_iload_n X dX5_nextToStart_58 rfl 2 rfl ?_
    exact g_iret X rfl rfl dX5_nextToStart_59 (by exact ⟨by rw [hf, show k = w 2 0 0 by omega], rfl⟩)
  · skip
    refine g_cut1 (pc' := 52) (fun (found2 : Int) => [(0, .ref (gAd G 10)), (1, .ref (gAd G o)), (2, .int (iI found2)), (3, .int (iI k))]) (fun (found2 : Int) => []) (fun (found2 : Int) => w) (fun (found2 : Int) => (found2 = nsX (w 2) (w o) (k.toNat + 1))) ?_ ?_
    · intro found2 hI_52
      have hf2 := hI_52
      try dsimp only at hf2 ⊢
      refine g_iinc (j := 3) (lv' := [(3, .int (iI (k + 1))), (0, .ref (gAd G 10)), (1, .ref (gAd G o)), (2, .int (iI found2))]) X dX5_nextToStart_52 rfl (by decide) rfl ?_
      refine g_goto (tgt := 5) X dX5_nextToStart_55 (by decide) ?_
      refine g_lv (lv' := [(0, .ref (gAd G 10)), (1, .ref (gAd G o)), (2, .int (iI found2)), (3, .int (iI (k + 1)))]) [1, 2, 3, 0] rfl ?_
      exact ih_5 found2 (k + 1) ⟨(by first | omega | rfl | assumption), (by first | omega | rfl | assumption), (by rw [hf2, show (k + 1).toNat = k.toNat + 1 by omega]), (by rw [hf2]; have := nsX_in (w 2) (w o) (k.toNat + 1); omega)⟩ (by omega)
    · intro J_52
      try dsimp only at J_52
      have hk := sF k.toNat (by omega)
      have hfd : 0 ≤ found → 0 ≤ w o 11 found.toNat ∧ w o 11 found.toNat ≤ B := fun h => (sF found.toNat (by omega)).1
      refine g_aload_n X dX5_nextToStart_16 rfl 0 rfl ?_
      refine g_aload_n X dX5_nextToStart_17 rfl 1 rfl ?_
      refine g_iload_n X dX5_nextToStart_18 rfl 3 rfl ?_
      refine g_aload_n X dX5_nextToStart_19 rfl 1 rfl ?_
      refine g_geti X ck_X6 ho 1 (by decide) fl_X5_76 (Or.inl rfl) dX5_nextToStart_20 ?_
      refine g_calli (st := []) X (c_X5_mayStart l G o k (w o 1 0) B w F ho (by first | assumption | omega | (unfold InR; omega)) (by first | assumption | omega | (unfold InR; omega)) (by first | assumption | omega | (unfold InR; omega)) (by first | assumption | omega | (unfold InR; omega)) (by first | assumption | omega | (unfold InR; omega))) cm_X5_mayStart im_X5_mayStart se_X5_mayStart ml_X5_173 ck_X5 (fx10 F) ⟨Nat.le_of_ble_eq_true rfl, Nat.le_of_ble_eq_true rfl⟩ rfl rfl (Nat.le_of_ble_eq_true rfl) dX5_nextToStart_23 (fn_i ?_)
      refine g_if_eq (tgt := 52) X dX5_nextToStart_26 (by decide) (by split <;> exact ⟨by decide, by decide⟩) (fun c_26 => ?_) (fun c_26 => ?_)
      · skip
        refine g_lv (lv' := [(0, .ref (gAd G 10)), (1, .ref (gAd G o)), (2, .int (iI found)), (3, .int (iI k))]) [0, 1, 2, 3] rfl ?_
        exact J_52 found (by
            unfold nsX
            rw [← hf, show ((k.toNat : Nat) : Int) = k by omega]
            first
            | rw [if_neg (fun h => of_zero c_26 h.1)]
            | rw [if_pos ⟨of_one c_26, by omega⟩]
            | rw [if_neg (fun h => by omega)])
      · skip
        refine g_iload_n X dX5_nextToStart_29 rfl 2 rfl ?_
        refine g_bipush X dX5_nextToStart_30 (by decide) ?_
        refine g_icmp_eq (tgt := 50) X dX5_nextToStart_32 (by decide) (by unfold InR; omega) ⟨by decide, by decide⟩ (fun c_32 => ?_) (fun c_32 => ?_)
        · skip
          refine g_iload_n X dX5_nextToStart_50 rfl 3 rfl ?_
          refine g_istore_n (lv' := [(2, .int (iI k)), (0, .ref (gAd G 10)), (1, .ref (gAd G o)), (3, .int (iI k))]) X dX5_nextToStart_51 rfl (by decide) rfl ?_
          refine g_lv (lv' := [(0, .ref (gAd G 10)), (1, .ref (gAd G o)), (2, .int (iI k)), (3, .int (iI k))]) [1, 2, 0, 3] rfl ?_
          exact J_52 k (by
              unfold nsX
              rw [← hf, show ((k.toNat : Nat) : Int) = k by omega]
              first
              | rw [if_neg (fun h => of_zero c_26 h.1)]
              | rw [if_pos ⟨of_one c_26, by omega⟩]
              | rw [if_neg (fun h => by omega)])
        · skip
          refine g_aload_n X dX5_nextToStart_35 rfl 1 rfl ?_
          refine g_geta X ck_X6 ho 11 (by decide) fl_X5_82 rfl dX5_nextToStart_36 ?_
          refine g_iload_n X dX5_nextToStart_39 rfl 3 rfl ?_
          refine h_iald (a := k) (j := (k).toNat) X rfl ho (by decide) (show fkX 6 11 = (1, 6) from rfl) (by decide) (by omega) (by omega) dX5_nextToStart_40 ?_
          refine g_aload_n X dX5_nextToStart_41 rfl 1 rfl ?_
          refine g_geta X ck_X6 ho 11 (by decide) fl_X5_82 rfl dX5_nextToStart_42 ?_
          refine g_iload_n X dX5_nextToStart_45 rfl 2 rfl ?_
          refine h_iald (a := found) (j := (found).toNat) X rfl ho (by decide) (show fkX 6 11 = (1, 6) from rfl) (by decide) (by omega) (by omega) dX5_nextToStart_46 ?_
          refine g_icmp_ge (tgt := 52) X dX5_nextToStart_47 (by decide) (by unfold InR; omega) (by have := hfd (by omega); unfold InR; omega) (fun c_47 => ?_) (fun c_47 => ?_)
          · skip
            refine g_lv (lv' := [(0, .ref (gAd G 10)), (1, .ref (gAd G o)), (2, .int (iI found)), (3, .int (iI k))]) [0, 1, 2, 3] rfl ?_
            exact J_52 found (by
                unfold nsX
                rw [← hf, show ((k.toNat : Nat) : Int) = k by omega]
                first
                | rw [if_neg (fun h => of_zero c_26 h.1)]
                | rw [if_pos ⟨of_one c_26, by omega⟩]
                | rw [if_neg (fun h => by omega)])
          · skip
            refine g_iload_n X dX5_nextToStart_50 rfl 3 rfl ?_
            refine g_istore_n (lv' := [(2, .int (iI k)), (0, .ref (gAd G 10)), (1, .ref (gAd G o)), (3, .int (iI k))]) X dX5_nextToStart_51 rfl (by decide) rfl ?_
            refine g_lv (lv' := [(0, .ref (gAd G 10)), (1, .ref (gAd G o)), (2, .int (iI k)), (3, .int (iI k))]) [1, 2, 0, 3] rfl ?_
            exact J_52 k (by
                unfold nsX
                rw [← hf, show ((k.toNat : Nat) : Int) = k by omega]
                first
                | rw [if_neg (fun h => of_zero c_26 h.1)]
                | rw [if_pos ⟨of_one c_26, by omega⟩]
                | rw [if_neg (fun h => by omega)])
set_option maxHeartbeats 4000000 in
set_option maxRecDepth 100000 in
theorem c_X5_nextToStop (l : Launch) (G : Ly) (o : Nat) (B : Int) (w : Wd) (F : FX G) (ho : gOb G o = some 6) (hp : PV (w 2)) (hS : SV B (w 2 0 0) (w o)) (hB : B ≤ 100000) : Mi l yX5_nextToStop cX5_nextToStop 4 (some .int) 4 87 G [.ref (gAd G 10), .ref (gAd G o)] w (fun z w2 => z = (npX (w 2) (w o) (w 2 0 0).toNat) ∧ w2 = w) := by
  refine mi_of (lv := [(0, .ref (gAd G 10)), (1, .ref (gAd G o))]) (by decide) (Nat.le_of_ble_eq_true rfl) rfl ?_
  intro p_ e_ s_ m_ b_ h_ c_ X
  have n2 := ne_ob ho (fx2 F) (by decide)
  have n10 := ne_ob ho (fx10 F) (by decide)
  have n11 := ne_ob ho (fx11 F) (by decide)
  have hp0 := hp.1
  have hp7 := hp.2.2
  have sT := hS.1
  have sB := hS.2.1
  have sC := hS.2.2.1
  have sD := hS.2.2.2.1
  have sE := hS.2.2.2.2.1
  have sF := hS.2.2.2.2.2.1
  have sG := hS.2.2.2.2.2.2.1
  have sH := hS.2.2.2.2.2.2.2
  have hrun := bt_or (s := w o 6 0) (t := w o 7 0) (by omega) (by omega) (by omega) (by omega)
  refine g_bipush X dX5_nextToStop_0 (by decide) ?_
  refine g_istore_n (lv' := [(2, .int (iI (-4))), (0, .ref (gAd G 10)), (1, .ref (gAd G o))]) X dX5_nextToStop_2 rfl (by decide) rfl ?_
  refine g_iconst X dX5_nextToStop_3 ?_
  refine g_istore_n (lv' := [(3, .int (iI 0)), (2, .int (iI (-4))), (0, .ref (gAd G 10)), (1, .ref (gAd G o))]) X dX5_nextToStop_4 rfl (by decide) rfl ?_
  refine g_lv (lv' := [(0, .ref (gAd G 10)), (1, .ref (gAd G o)), (2, .int (iI (-4))), (3, .int (iI 0))]) [2, 3, 1, 0] rfl ?_
  refine g_loop2 (fun (found : Int) (k : Int) => [(0, .ref (gAd G 10)), (1, .ref (gAd G o)), (2, .int (iI found)), (3, .int (iI k))]) (fun (found : Int) (k : Int) => w) (fun (found : Int) (k : Int) => (0 ≤ k) ∧ (k ≤ w 2 0 0) ∧ (found = npX (w 2) (w o) k.toNat) ∧ (found = -4 ∨ (0 ≤ found ∧ found < k))) (fun (found : Int) (k : Int) => (w 2 0 0 - k).toNat) (-4) 0 ⟨(by first | omega | rfl | assumption), (by first | omega | rfl | assumption), (by rfl), (by first | omega | rfl | assumption)⟩ ?_
  intro found k hI_5 ih_5
  obtain ⟨h0, h1, hf, hr⟩ := hI_5
  try dsimp only at ih_5 ⊢
  refine g_iload_n X dX5_nextToStop_5 rfl 3 rfl ?_
  refine g_aload_n X dX5_nextToStop_6 rfl 0 rfl ?_
  refine g_geto (o' := 2) X ck_X5 (fx10 F) 1 (by decide) fl_X5_9 rfl (fl10_1 F) dX5_nextToStop_7 ?_
  refine g_geti X ck_X2 (fx2 F) 0 (by decide) fl_X5_79 (Or.inl rfl) dX5_nextToStop_10 ?_
  refine g_icmp_ge (tgt := 76) X dX5_nextToStop_13 (by decide) (by unfold InR; omega) (by unfold InR; omega) (fun c_13 => ?_) (fun c_13 => ?_)
  · skip
    refine g_iload_n X dX5_nextToStop_76 rfl 2 rfl ?_
    exact g_iret X rfl rfl dX5_nextToStop_77 (by exact ⟨by rw [hf, show k = w 2 0 0 by omega], rfl⟩)
  · skip
    refine g_cut1 (pc' := 70) (fun (found2 : Int) => [(0, .ref (gAd G 10)), (1, .ref (gAd G o)), (2, .int (iI found2)), (3, .int (iI k))]) (fun (found2 : Int) => []) (fun (found2 : Int) => w) (fun (found2 : Int) => (found2 = npX (w 2) (w o) (k.toNat + 1))) ?_ ?_
    · intro found2 hI_70
      have hf2 := hI_70
      try dsimp only at hf2 ⊢
      refine g_iinc (j := 3) (lv' := [(3, .int (iI (k + 1))), (0, .ref (gAd G 10)), (1, .ref (gAd G o)), (2, .int (iI found2))]) X dX5_nextToStop_70 rfl (by decide) rfl ?_
      refine g_goto (tgt := 5) X dX5_nextToStop_73 (by decide) ?_
      refine g_lv (lv' := [(0, .ref (gAd G 10)), (1, .ref (gAd G o)), (2, .int (iI found2)), (3, .int (iI (k + 1)))]) [1, 2, 3, 0] rfl ?_
      exact ih_5 found2 (k + 1) ⟨(by first | omega | rfl | assumption), (by first | omega | rfl | assumption), (by rw [hf2, show (k + 1).toNat = k.toNat + 1 by omega]), (by rw [hf2]; have := npX_in (w 2) (w o) (k.toNat + 1); omega)⟩ (by omega)
    · intro J_70
      try dsimp only at J_70
      have hk := sF k.toNat (by omega)
      have ht01 := tb01 (w o 7 0) k.toNat
      have hfd : 0 ≤ found → 0 ≤ w o 11 found.toNat ∧ w o 11 found.toNat ≤ B := fun h => (sF found.toNat (by omega)).1
      have sbr : -100000 ≤ (if w o 12 k.toNat < 1 then -100000 else w o 13 (k * 9 + (w o 12 k.toNat - 1) % 9).toNat) ∧ (if w o 12 k.toNat < 1 then -100000 else w o 13 (k * 9 + (w o 12 k.toNat - 1) % 9).toNat) ≤ 100000 := by
        split
        · omega
        · have := sG (k * 9 + (w o 12 k.toNat - 1) % 9).toNat (by omega)
          omega
      refine g_aload_n X dX5_nextToStop_16 rfl 1 rfl ?_
      refine g_geti X ck_X6 ho 7 (by decide) fl_X5_24 (Or.inl rfl) dX5_nextToStop_17 ?_
      refine g_iload_n X dX5_nextToStop_20 rfl 3 rfl ?_
      refine g_callni (st := []) X (c_X7_bitOf l G (w o 7 0) k w (by first | assumption | omega | (unfold InR; omega)) (by first | assumption | omega | (unfold InR; omega))) cm_X7_bitOf sm_X7_bitOf mn_X5_88 ⟨Nat.le_of_ble_eq_true rfl, Nat.le_of_ble_eq_true rfl⟩ rfl rfl (Nat.le_of_ble_eq_true rfl) dX5_nextToStop_21 (fn_i ?_)
      refine g_iconst X dX5_nextToStop_24 ?_
      refine g_icmp_ne (tgt := 70) X dX5_nextToStop_25 (by decide) (by unfold InR; omega) ⟨by decide, by decide⟩ (fun c_25 => ?_) (fun c_25 => ?_)
      · skip
        refine g_lv (lv' := [(0, .ref (gAd G 10)), (1, .ref (gAd G o)), (2, .int (iI found)), (3, .int (iI k))]) [0, 1, 2, 3] rfl ?_
        exact J_70 found (by
            unfold npX sbX
            rw [← hf, show ((k.toNat : Nat) : Int) = k by omega]
            first
            | rw [if_pos (by omega)]
            | rw [if_neg (by omega)])
      · skip
        refine g_aload_n X dX5_nextToStop_28 rfl 1 rfl ?_
        refine g_iload_n X dX5_nextToStop_29 rfl 3 rfl ?_
        refine g_aload_n X dX5_nextToStop_30 rfl 1 rfl ?_
        refine g_geti X ck_X6 ho 1 (by decide) fl_X5_76 (Or.inl rfl) dX5_nextToStop_31 ?_
        refine g_calli (st := []) X (c_X6_ticksSinceStart l G o k (w o 1 0) w ho (by first | assumption | omega | (unfold InR; omega)) (by first | assumption | omega | (unfold InR; omega))) cm_X6_ticksSinceStart im_X6_ticksSinceStart se_X6_ticksSinceStart ml_X5_114 ck_X6 ho ⟨Nat.le_of_ble_eq_true rfl, Nat.le_of_ble_eq_true rfl⟩ rfl rfl (Nat.le_of_ble_eq_true rfl) dX5_nextToStop_34 (fn_i ?_)
        refine g_aload_n X dX5_nextToStop_37 rfl 0 rfl ?_
        refine g_geto (o' := 2) X ck_X5 (fx10 F) 1 (by decide) fl_X5_9 rfl (fl10_1 F) dX5_nextToStop_38 ?_
        refine g_geti X ck_X2 (fx2 F) 7 (by decide) fl_X5_177 (Or.inl rfl) dX5_nextToStop_41 ?_
        refine g_icmp_le (tgt := 70) X dX5_nextToStop_44 (by decide) (by unfold InR; omega) (by unfold InR; omega) (fun c_44 => ?_) (fun c_44 => ?_)
        · skip
          refine g_lv (lv' := [(0, .ref (gAd G 10)), (1, .ref (gAd G o)), (2, .int (iI found)), (3, .int (iI k))]) [0, 1, 2, 3] rfl ?_
          exact J_70 found (by
              unfold npX sbX
              rw [← hf, show ((k.toNat : Nat) : Int) = k by omega]
              first
              | rw [if_pos (by omega)]
              | rw [if_neg (by omega)])
        · skip
          refine g_iload_n X dX5_nextToStop_47 rfl 2 rfl ?_
          refine g_bipush X dX5_nextToStop_48 (by decide) ?_
          refine g_icmp_eq (tgt := 68) X dX5_nextToStop_50 (by decide) (by unfold InR; omega) ⟨by decide, by decide⟩ (fun c_50 => ?_) (fun c_50 => ?_)
          · skip
            refine g_iload_n X dX5_nextToStop_68 rfl 3 rfl ?_
            refine g_istore_n (lv' := [(2, .int (iI k)), (0, .ref (gAd G 10)), (1, .ref (gAd G o)), (3, .int (iI k))]) X dX5_nextToStop_69 rfl (by decide) rfl ?_
            refine g_lv (lv' := [(0, .ref (gAd G 10)), (1, .ref (gAd G o)), (2, .int (iI k)), (3, .int (iI k))]) [1, 2, 0, 3] rfl ?_
            exact J_70 k (by
                unfold npX sbX
                rw [← hf, show ((k.toNat : Nat) : Int) = k by omega]
                first
                | rw [if_pos (by omega)]
                | rw [if_neg (by omega)])
          · skip
            refine g_aload_n X dX5_nextToStop_53 rfl 1 rfl ?_
            refine g_geta X ck_X6 ho 11 (by decide) fl_X5_82 rfl dX5_nextToStop_54 ?_
            refine g_iload_n X dX5_nextToStop_57 rfl 3 rfl ?_
            refine h_iald (a := k) (j := (k).toNat) X rfl ho (by decide) (show fkX 6 11 = (1, 6) from rfl) (by decide) (by omega) (by omega) dX5_nextToStop_58 ?_
            refine g_aload_n X dX5_nextToStop_59 rfl 1 rfl ?_
            refine g_geta X ck_X6 ho 11 (by decide) fl_X5_82 rfl dX5_nextToStop_60 ?_
            refine g_iload_n X dX5_nextToStop_63 rfl 2 rfl ?_
            refine h_iald (a := found) (j := (found).toNat) X rfl ho (by decide) (show fkX 6 11 = (1, 6) from rfl) (by decide) (by omega) (by omega) dX5_nextToStop_64 ?_
            refine g_icmp_lt (tgt := 70) X dX5_nextToStop_65 (by decide) (by unfold InR; omega) (by have := hfd (by omega); unfold InR; omega) (fun c_65 => ?_) (fun c_65 => ?_)
            · skip
              refine g_lv (lv' := [(0, .ref (gAd G 10)), (1, .ref (gAd G o)), (2, .int (iI found)), (3, .int (iI k))]) [0, 1, 2, 3] rfl ?_
              exact J_70 found (by
                  unfold npX sbX
                  rw [← hf, show ((k.toNat : Nat) : Int) = k by omega]
                  first
                  | rw [if_pos (by omega)]
                  | rw [if_neg (by omega)])
            · skip
              refine g_iload_n X dX5_nextToStop_68 rfl 3 rfl ?_
              refine g_istore_n (lv' := [(2, .int (iI k)), (0, .ref (gAd G 10)), (1, .ref (gAd G o)), (3, .int (iI k))]) X dX5_nextToStop_69 rfl (by decide) rfl ?_
              refine g_lv (lv' := [(0, .ref (gAd G 10)), (1, .ref (gAd G o)), (2, .int (iI k)), (3, .int (iI k))]) [1, 2, 0, 3] rfl ?_
              exact J_70 k (by
                  unfold npX sbX
                  rw [← hf, show ((k.toNat : Nat) : Int) = k by omega]
                  first
                  | rw [if_pos (by omega)]
                  | rw [if_neg (by omega)])
