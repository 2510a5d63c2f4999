theorem up_ne2 {w : Wd} {o f j : Nat} {v : Int} (h : o ≠ 2) : up w o f j v 2 = w 2 := by
  rw [up_setO, setO_ne (fun z => h z.symm)]
set_option maxHeartbeats 4000000 in
set_option maxRecDepth 100000 in
theorem c_X5_greatestOf (l : Launch) (G : Ly) (set : Int) (w : Wd) (F : FX G) (hp : PV (w 2)) (hset : 0 ≤ set ∧ set < 64) : Mi l yX5_greatestOf cX5_greatestOf 5 (some .int) 1 21 G [.ref (gAd G 10), .int (iI set)] w (fun z w2 => z = ((grX (w 2) set (w 2 0 0).toNat).1) ∧ w2 = w) := by
  refine mi_of (lv := [(0, .ref (gAd G 10)), (1, .int (iI set))]) (by decide) (Nat.le_of_ble_eq_true rfl) rfl ?_
  intro p_ e_ s_ m_ b_ h_ c_ X
  have hp0 := hp.1
  refine g_iconst X dX5_greatestOf_0 ?_
  refine g_istore_n (lv' := [(2, .int (iI 0)), (0, .ref (gAd G 10)), (1, .int (iI set))]) X dX5_greatestOf_1 rfl (by decide) rfl ?_
  refine g_iconst X dX5_greatestOf_2 ?_
  refine g_istore_n (lv' := [(3, .int (iI 0)), (2, .int (iI 0)), (0, .ref (gAd G 10)), (1, .int (iI set))]) X dX5_greatestOf_3 rfl (by decide) rfl ?_
  refine g_iconst X dX5_greatestOf_4 ?_
  refine g_istore (lv' := [(4, .int (iI 0)), (3, .int (iI 0)), (2, .int (iI 0)), (0, .ref (gAd G 10)), (1, .int (iI set))]) X dX5_greatestOf_5 (by decide) rfl ?_
  refine g_lv (lv' := [(0, .ref (gAd G 10)), (1, .int (iI set)), (2, .int (iI 0)), (3, .int (iI 0)), (4, .int (iI 0))]) [3, 4, 2, 1, 0] rfl ?_
  refine g_loop3 (fun (found : Int) (most : Int) (k : Int) => [(0, .ref (gAd G 10)), (1, .int (iI set)), (2, .int (iI found)), (3, .int (iI most)), (4, .int (iI k))]) (fun (found : Int) (most : Int) (k : Int) => w) (fun (found : Int) (most : Int) (k : Int) => (0 ≤ k) ∧ (k ≤ w 2 0 0) ∧ (found = (grX (w 2) set k.toNat).1) ∧ (most = (grX (w 2) set k.toNat).2) ∧ (0 ≤ most ∧ most ≤ 80)) (fun (found : Int) (most : Int) (k : Int) => (w 2 0 0 - k).toNat) 0 0 0 ⟨(by first | omega | rfl | assumption), (by first | omega | rfl | assumption), (by rfl), (by rfl), (by first | omega | rfl | assumption)⟩ ?_
  intro found most k hI_7 ih_7
  obtain ⟨h0, h1, hf, hg, hr⟩ := hI_7
  try dsimp only at ih_7 ⊢
  refine g_iload X dX5_greatestOf_7 4 rfl ?_
  refine g_aload_n X dX5_greatestOf_9 rfl 0 rfl ?_
  refine g_geto (o' := 2) X ck_X5 (fx10 F) 1 (by decide) fl_X5_9 rfl (fl10_1 F) dX5_greatestOf_10 ?_
  refine g_geti X ck_X2 (fx2 F) 0 (by decide) fl_X5_79 (Or.inl rfl) dX5_greatestOf_13 ?_
  refine g_icmp_ge (tgt := 63) X dX5_greatestOf_16 (by decide) (by unfold InR; omega) (by unfold InR; omega) (fun c_16 => ?_) (fun c_16 => ?_)
  · skip
    refine g_iload_n X dX5_greatestOf_63 rfl 2 rfl ?_
    exact g_iret X rfl rfl dX5_greatestOf_64 (by exact ⟨by rw [hf, show k = w 2 0 0 by omega], rfl⟩)
  · skip
    refine g_cut2 (pc' := 57) (fun (found2 : Int) (most2 : Int) => [(0, .ref (gAd G 10)), (1, .int (iI set)), (2, .int (iI found2)), (3, .int (iI most2)), (4, .int (iI k))]) (fun (found2 : Int) (most2 : Int) => []) (fun (found2 : Int) (most2 : Int) => w) (fun (found2 : Int) (most2 : Int) => (found2 = (grX (w 2) set (k.toNat + 1)).1) ∧ (most2 = (grX (w 2) set (k.toNat + 1)).2) ∧ (0 ≤ most2 ∧ most2 ≤ 80)) ?_ ?_
    · intro found2 most2 hI_57
      obtain ⟨hf2, hg2, hr2⟩ := hI_57
      try dsimp only
      refine g_iinc (j := 4) (lv' := [(4, .int (iI (k + 1))), (0, .ref (gAd G 10)), (1, .int (iI set)), (2, .int (iI found2)), (3, .int (iI most2))]) X dX5_greatestOf_57 rfl (by decide) rfl ?_
      refine g_goto (tgt := 7) X dX5_greatestOf_60 (by decide) ?_
      refine g_lv (lv' := [(0, .ref (gAd G 10)), (1, .int (iI set)), (2, .int (iI found2)), (3, .int (iI most2)), (4, .int (iI (k + 1)))]) [1, 2, 3, 4, 0] rfl ?_
      exact ih_7 found2 most2 (k + 1) ⟨(by first | omega | rfl | assumption), (by first | omega | rfl | assumption), (by rw [hf2, show (k + 1).toNat = k.toNat + 1 by omega]), (by rw [hg2, show (k + 1).toNat = k.toNat + 1 by omega]), (by exact hr2)⟩ (by omega)
    · intro J_57
      try dsimp only at J_57
      have hk := hp.2.1 k.toNat (by omega)
      have ht01 := tb01 set k.toNat
      refine g_iload_n X dX5_greatestOf_19 rfl 1 rfl ?_
      refine g_iload X dX5_greatestOf_20 4 rfl ?_
      refine g_callni (st := []) X (c_X7_bitOf l G set k w (by first | assumption | omega | (unfold InR; omega)) (by first | assumption | omega | (unfold InR; omega))) cm_X7_bitOf sm_X7_bitOf mn_X5_88 ⟨Nat.le_of_ble_eq_true rfl, Nat.le_of_ble_eq_true rfl⟩ rfl rfl (Nat.le_of_ble_eq_true rfl) dX5_greatestOf_22 (fn_i ?_)
      refine g_iconst X dX5_greatestOf_25 ?_
      refine g_icmp_ne (tgt := 57) X dX5_greatestOf_26 (by decide) (by unfold InR; omega) ⟨by decide, by decide⟩ (fun c_26 => ?_) (fun c_26 => ?_)
      · skip
        refine g_lv (lv' := [(0, .ref (gAd G 10)), (1, .int (iI set)), (2, .int (iI found)), (3, .int (iI most)), (4, .int (iI k))]) [0, 1, 2, 3, 4] rfl ?_
        exact J_57 found most ⟨(by unfold grX; first | rw [if_pos ⟨by omega, by omega⟩]; (show k = ((k.toNat : Nat) : Int)); omega | rw [if_neg (by omega)]; exact hf), (by unfold grX; first | rw [if_pos ⟨by omega, by omega⟩] | rw [if_neg (by omega)]; exact hg), (by first | omega | rfl | assumption)⟩
      · skip
        refine g_aload_n X dX5_greatestOf_29 rfl 0 rfl ?_
        refine g_geto (o' := 2) X ck_X5 (fx10 F) 1 (by decide) fl_X5_9 rfl (fl10_1 F) dX5_greatestOf_30 ?_
        refine g_geta X ck_X2 (fx2 F) 2 (by decide) fl_X5_186 rfl dX5_greatestOf_33 ?_
        refine g_iload X dX5_greatestOf_36 4 rfl ?_
        refine h_iald (a := k) (j := (k).toNat) X rfl (fx2 F) (by decide) (show fkX 2 2 = (1, 6) from rfl) (by decide) (by omega) (by omega) dX5_greatestOf_38 ?_
        refine g_iload_n X dX5_greatestOf_39 rfl 3 rfl ?_
        refine g_icmp_le (tgt := 57) X dX5_greatestOf_40 (by decide) (by unfold InR; omega) (by unfold InR; omega) (fun c_40 => ?_) (fun c_40 => ?_)
        · skip
          refine g_lv (lv' := [(0, .ref (gAd G 10)), (1, .int (iI set)), (2, .int (iI found)), (3, .int (iI most)), (4, .int (iI k))]) [0, 1, 2, 3, 4] rfl ?_
          exact J_57 found most ⟨(by unfold grX; first | rw [if_pos ⟨by omega, by omega⟩]; (show k = ((k.toNat : Nat) : Int)); omega | rw [if_neg (by omega)]; exact hf), (by unfold grX; first | rw [if_pos ⟨by omega, by omega⟩] | rw [if_neg (by omega)]; exact hg), (by first | omega | rfl | assumption)⟩
        · skip
          refine g_iload X dX5_greatestOf_43 4 rfl ?_
          refine g_istore_n (lv' := [(2, .int (iI k)), (0, .ref (gAd G 10)), (1, .int (iI set)), (3, .int (iI most)), (4, .int (iI k))]) X dX5_greatestOf_45 rfl (by decide) rfl ?_
          refine g_aload_n X dX5_greatestOf_46 rfl 1 rfl ?_
          refine g_geto (o' := 2) X ck_X5 (fx10 F) 1 (by decide) fl_X5_9 rfl (fl10_1 F) dX5_greatestOf_47 ?_
          refine g_geta X ck_X2 (fx2 F) 2 (by decide) fl_X5_186 rfl dX5_greatestOf_50 ?_
          refine g_iload X dX5_greatestOf_53 4 rfl ?_
          refine h_iald (a := k) (j := (k).toNat) X rfl (fx2 F) (by decide) (show fkX 2 2 = (1, 6) from rfl) (by decide) (by omega) (by omega) dX5_greatestOf_55 ?_
          refine g_istore_n (lv' := [(3, .int (iI (w 2 2 (k).toNat))), (2, .int (iI k)), (0, .ref (gAd G 10)), (1, .int (iI set)), (4, .int (iI k))]) X dX5_greatestOf_56 rfl (by decide) rfl ?_
          refine g_lv (lv' := [(0, .ref (gAd G 10)), (1, .int (iI set)), (2, .int (iI k)), (3, .int (iI (w 2 2 (k).toNat))), (4, .int (iI k))]) [2, 3, 1, 0, 4] rfl ?_
          exact J_57 k (w 2 2 (k).toNat) ⟨(by unfold grX; first | rw [if_pos ⟨by omega, by omega⟩]; (show k = ((k.toNat : Nat) : Int)); omega | rw [if_neg (by omega)]; exact hf), (by unfold grX; first | rw [if_pos ⟨by omega, by omega⟩] | rw [if_neg (by omega)]; exact hg), (by first | omega | rfl | assumption)⟩
set_option maxHeartbeats 4000000 in
set_option maxRecDepth 100000 in
theorem c_X5_stageUp (l : Launch) (G : Ly) (o : Nat) (B : Int) (w : Wd) (F : FX G) (ho : gOb G o = some 6) (hp : PV (w 2)) (hS : SV B (w 2 0 0) (w o)) (hB : B ≤ 99000) : Mv l yX5_stageUp cX5_stageUp 3 none 5 111 G [.ref (gAd G 10), .ref (gAd G o)] w (fun w2 => w2 = setO w o (suX (w 2) (w o))) := by
  refine mv_of (lv := [(0, .ref (gAd G 10)), (1, .ref (gAd G o))]) (by decide) (Nat.le_of_ble_eq_true rfl) rfl ?_
  intro p_ e_ s_ m_ b_ h_ c_ X
  have n2 := ne_ob ho (fx2 F) (by decide)
  have n10 := ne_ob ho (fx10 F) (by decide)
  have n11 := ne_ob ho (fx11 F) (by decide)
  have hp0 := hp.1
  have hp7 := hp.2.2
  have sT := hS.1
  have sB := hS.2.1
  have sC := hS.2.2.1
  have sD := hS.2.2.2.1
  have sE := hS.2.2.2.2.1
  have sF := hS.2.2.2.2.2.1
  have sG := hS.2.2.2.2.2.2.1
  have sH := hS.2.2.2.2.2.2.2
  have hrun := bt_or (s := w o 6 0) (t := w o 7 0) (by omega) (by omega) (by omega) (by omega)
  refine g_aload_n X dX5_stageUp_0 rfl 1 rfl ?_
  refine g_dup X dX5_stageUp_1 rfl ?_
  refine g_geti X ck_X6 ho 2 (by decide) fl_X5_131 (Or.inl rfl) dX5_stageUp_2 ?_
  refine g_iconst X dX5_stageUp_5 ?_
  refine g_iadd X dX5_stageUp_6 ?_
  refine g_puti X ck_X6 ho 2 (by decide) fl_X5_131 rfl rfl rfl dX5_stageUp_7 ?_
  obtain ⟨w_1, ew_1⟩ : ∃ q_ : Wd, q_ = up w o 2 0 ((w o 2 0) + 1) := ⟨_, rfl⟩
  refine g_w (w' := w_1) ew_1 ?_
  refine g_aload_n X dX5_stageUp_10 rfl 1 rfl ?_
  refine g_iconst X dX5_stageUp_11 ?_
  refine g_puti X ck_X6 ho 3 (by decide) fl_X5_134 rfl rfl rfl dX5_stageUp_12 ?_
  obtain ⟨w_2, ew_2⟩ : ∃ q_ : Wd, q_ = up w_1 o 3 0 0 := ⟨_, rfl⟩
  refine g_w (w' := w_2) ew_2 ?_
  have hw : w_2 = setO w o (u1X (w o)) := by rw [ew_2, ew_1, up_setO w o 2 0, up_set2]; rfl
  have hu : w_2 o = u1X (w o) := by rw [hw, setO_at]
  have h2 : w_2 2 = w 2 := by rw [hw]; exact setO_ne (fun z => n2 z.symm)
  have h20 : w_2 2 0 0 = w 2 0 0 := by rw [h2]
  have h213 : w_2 2 13 0 = w 2 13 0 := by rw [h2]
  have h22 : w_2 o 2 0 = w o 2 0 + 1 := by rw [hu]; simp [u1X, fu]
  have hS2 : SV (B + 1) (w 2 0 0) (u1X (w o)) := sv_fu3 (sv_fu2 (sv_mono hS (by omega)) (by omega) (by omega)) (by decide) (by omega)
  have hns := nsX_in (w 2) (u1X (w o)) (w 2 0 0).toNat
  refine g_aload_n X dX5_stageUp_15 rfl 1 rfl ?_
  refine g_cut1 (pc' := 39) (fun (who : Int) => [(0, .ref (gAd G 10)), (1, .ref (gAd G o))]) (fun (who : Int) => [.int (iI who)]) (fun (who : Int) => w_2) (fun (who : Int) => (who = whoX (w 2) (u1X (w o)))) ?_ ?_
  · intro who hI_39
    have hwho := hI_39
    try dsimp only at hwho ⊢
    refine g_istore_n (lv' := [(2, .int (iI who)), (0, .ref (gAd G 10)), (1, .ref (gAd G o))]) X dX5_stageUp_39 rfl (by decide) rfl ?_
    refine g_iload_n X dX5_stageUp_40 rfl 0 rfl ?_
    refine g_bipush X dX5_stageUp_41 (by decide) ?_
    refine g_icmp_eq (tgt := 56) X dX5_stageUp_43 (by decide) (by have : who = -4 ∨ (0 ≤ who ∧ who < w 2 0 0) := (by rw [hwho]; unfold whoX; split <;> omega); unfold InR; omega) ⟨by decide, by decide⟩ (fun c_43 => ?_) (fun c_43 => ?_)
    · skip
      exact g_vret X rfl dX5_stageUp_56 (by
          first
          | (show w_2 = _; unfold suX; rw [← hwho, if_pos (by omega)]; exact hw)
          | (unfold suX; rw [← hwho, if_neg (by omega), ew_2, show w_3 = _ from ew_3, st_eq, up_set2, hu, hw, setO_setO]))
    · skip
      refine g_aload_n X dX5_stageUp_46 rfl 2 rfl ?_
      refine g_iload_n X dX5_stageUp_47 rfl 0 rfl ?_
      refine g_callv (st := []) X (c_X6_start l G o who w_2 ho (by have : who = -4 ∨ (0 ≤ who ∧ who < w 2 0 0) := (by rw [hwho]; unfold whoX; split <;> omega); omega) (by have : who = -4 ∨ (0 ≤ who ∧ who < w 2 0 0) := (by rw [hwho]; unfold whoX; split <;> omega); rw [hu]; have := hS2.2.2.2.2.2.1 who.toNat (by omega); omega)) cm_X6_start im_X6_start se_X6_start ml_X5_128 ck_X6 ho ⟨Nat.le_of_ble_eq_true rfl, Nat.le_of_ble_eq_true rfl⟩ rfl rfl (Nat.le_of_ble_eq_true rfl) dX5_stageUp_48 (fn_v ?_)
      obtain ⟨w_3, ew_3⟩ : ∃ q_ : Wd, q_ = up (up (up (up w_2 o 6 0 (bor (w_2 o 6 0) (bshl 1 who))) o 13 (who * 9 + w_2 o 12 who.toNat % 9).toNat (w_2 o 1 0)) o 12 who.toNat (w_2 o 12 who.toNat + 1)) o 8 0 (w_2 o 1 0) := ⟨_, rfl⟩
      refine g_w (w' := w_3) ew_3 ?_
      refine g_aload_n X dX5_stageUp_51 rfl 2 rfl ?_
      refine g_iconst X dX5_stageUp_52 ?_
      refine g_puti X ck_X6 ho 2 (by decide) fl_X5_131 rfl rfl rfl dX5_stageUp_53 ?_
      obtain ⟨w_4, ew_4⟩ : ∃ q_ : Wd, q_ = up w_3 o 2 0 0 := ⟨_, rfl⟩
      refine g_w (w' := w_4) ew_4 ?_
      exact g_vret X rfl dX5_stageUp_56 (by
          first
          | (show w_2 = _; unfold suX; rw [← hwho, if_pos (by omega)]; exact hw)
          | (unfold suX; rw [← hwho, if_neg (by omega), ew_4, show w_3 = _ from ew_3, st_eq, up_set2, hu, hw, setO_setO]))
  · intro J_39
    try dsimp only at J_39
    refine g_geti X ck_X6 ho 2 (by decide) fl_X5_131 (Or.inl rfl) dX5_stageUp_16 ?_
    refine g_aload_n X dX5_stageUp_19 rfl 0 rfl ?_
    refine g_geto (o' := 2) X ck_X5 (fx10 F) 1 (by decide) fl_X5_9 rfl (fl10_1 F) dX5_stageUp_20 ?_
    refine g_geti X ck_X2 (fx2 F) 13 (by decide) fl_X5_137 (Or.inl rfl) dX5_stageUp_23 ?_
    refine g_icmp_le (tgt := 37) X dX5_stageUp_26 (by decide) (by unfold InR; omega) (by unfold InR; omega) (fun c_26 => ?_) (fun c_26 => ?_)
    · skip
      refine g_bipush X dX5_stageUp_37 (by decide) ?_
      refine g_lv (lv' := [(0, .ref (gAd G 10)), (1, .ref (gAd G o))]) [0, 1] rfl ?_
      exact J_39 (-4) (by
          unfold whoX
          have h22' : u1X (w o) 2 0 = w o 2 0 + 1 := by rw [← hu]; exact h22
          first
          | (rw [if_neg (by omega)])
          | (rw [if_pos (by omega), h2, hu]))
    · skip
      refine g_aload_n X dX5_stageUp_29 rfl 0 rfl ?_
      refine g_aload_n X dX5_stageUp_30 rfl 1 rfl ?_
      refine g_calli (st := []) X (c_X5_nextToStart l G o (B + 1) w_2 F ho (by rw [h2]; exact hp) (by rw [h20, hu]; exact hS2) (by omega)) cm_X5_nextToStart im_X5_nextToStart se_X5_nextToStart ml_X5_140 ck_X5 (fx10 F) ⟨Nat.le_of_ble_eq_true rfl, Nat.le_of_ble_eq_true rfl⟩ rfl rfl (Nat.le_of_ble_eq_true rfl) dX5_stageUp_31 (fn_i ?_)
      refine g_goto (tgt := 39) X dX5_stageUp_34 (by decide) ?_
      refine g_lv (lv' := [(0, .ref (gAd G 10)), (1, .ref (gAd G o))]) [0, 1] rfl ?_
      exact J_39 (nsX (w_2 2) (w_2 o) (w_2 2 0 0).toNat) (by
          unfold whoX
          have h22' : u1X (w o) 2 0 = w o 2 0 + 1 := by rw [← hu]; exact h22
          first
          | (rw [if_neg (by omega)])
          | (rw [if_pos (by omega), h2, hu]))
set_option maxHeartbeats 4000000 in
set_option maxRecDepth 100000 in
theorem c_X5_stageDown (l : Launch) (G : Ly) (o : Nat) (B : Int) (w : Wd) (F : FX G) (ho : gOb G o = some 6) (hp : PV (w 2)) (hS : SV B (w 2 0 0) (w o)) (hB : B ≤ 99000) : Mv l yX5_stageDown cX5_stageDown 3 none 5 110 G [.ref (gAd G 10), .ref (gAd G o)] w (fun w2 => w2 = setO w o (sdX (w 2) (w o))) := by
  refine mv_of (lv := [(0, .ref (gAd G 10)), (1, .ref (gAd G o))]) (by decide) (Nat.le_of_ble_eq_true rfl) rfl ?_
  intro p_ e_ s_ m_ b_ h_ c_ X
  have n2 := ne_ob ho (fx2 F) (by decide)
  have n10 := ne_ob ho (fx10 F) (by decide)
  have n11 := ne_ob ho (fx11 F) (by decide)
  have hp0 := hp.1
  have hp7 := hp.2.2
  have sT := hS.1
  have sB := hS.2.1
  have sC := hS.2.2.1
  have sD := hS.2.2.2.1
  have sE := hS.2.2.2.2.1
  have sF := hS.2.2.2.2.2.1
  have sG := hS.2.2.2.2.2.2.1
  have sH := hS.2.2.2.2.2.2.2
  have hrun := bt_or (s := w o 6 0) (t := w o 7 0) (by omega) (by omega) (by omega) (by omega)
  have hnp := npX_in (w 2) (w o) (w 2 0 0).toNat
  obtain ⟨who, hwho⟩ : ∃ q, q = npX (w 2) (w o) (w 2 0 0).toNat := ⟨_, rfl⟩
  have hcl : who ≠ -4 → 0 ≤ clrB (runX (w o)) who ∧ clrB (runX (w o)) who < 64 := by
    intro h
    have := bt_clr (s := bor (w o 6 0) (w o 7 0)) (m := who) (by omega) (by omega) (by omega) (by omega)
    exact ⟨this.1, this.2.1⟩
  have hsm := pv_most hp (clrB (runX (w o)) who)
  have hmul := mulb (a := w 2 12 0) (b := sumB (clrB (runX (w o)) who) (w 2 2) (w 2 0 0).toNat) (A := 99) (B := 480) (by omega) (by omega) hsm.1 hsm.2
  refine g_aload_n X dX5_stageDown_0 rfl 0 rfl ?_
  refine g_aload_n X dX5_stageDown_1 rfl 1 rfl ?_
  refine g_calli (st := []) X (c_X5_nextToStop l G o B w F ho (by first | assumption | omega | (unfold InR; omega)) (by first | assumption | omega | (unfold InR; omega)) (by omega)) cm_X5_nextToStop im_X5_nextToStop se_X5_nextToStop ml_X5_143 ck_X5 (fx10 F) ⟨Nat.le_of_ble_eq_true rfl, Nat.le_of_ble_eq_true rfl⟩ rfl rfl (Nat.le_of_ble_eq_true rfl) dX5_stageDown_2 (fn_i ?_)
  rw [show (npX (w 2) (w o) (w 2 0 0).toNat : Int) = who from hwho.symm]
  refine g_istore_n (lv' := [(2, .int (iI who)), (0, .ref (gAd G 10)), (1, .ref (gAd G o))]) X dX5_stageDown_5 rfl (by decide) rfl ?_
  refine g_aload_n X dX5_stageDown_6 rfl 2 rfl ?_
  refine g_iconst X dX5_stageDown_7 ?_
  refine g_puti X ck_X6 ho 2 (by decide) fl_X5_131 rfl rfl rfl dX5_stageDown_8 ?_
  obtain ⟨w_1, ew_1⟩ : ∃ q_ : Wd, q_ = up w o 2 0 0 := ⟨_, rfl⟩
  refine g_w (w' := w_1) ew_1 ?_
  have hw : w_1 = setO w o (fu (w o) 2 0 0) := by rw [ew_1, up_setO]
  have hu : w_1 o = fu (w o) 2 0 0 := by rw [hw, setO_at]
  have h2 : w_1 2 = w 2 := by rw [hw]; exact setO_ne (fun z => n2 z.symm)
  have h20 : w_1 2 0 0 = w 2 0 0 := by rw [h2]
  have h212 : w_1 2 12 0 = w 2 12 0 := by rw [h2]
  have h3 : w_1 o 3 0 = w o 3 0 := by rw [hu]; simp [fu]
  have h6 : w_1 o 6 0 = w o 6 0 := by rw [hu]; simp [fu]
  have h7 : w_1 o 7 0 = w o 7 0 := by rw [hu]; simp [fu]
  have h00 : w_1 o 0 0 = w o 0 0 := by rw [hu]; simp [fu]
  refine g_iload_n X dX5_stageDown_11 rfl 0 rfl ?_
  refine g_bipush X dX5_stageDown_12 (by decide) ?_
  refine g_icmp_eq (tgt := 54) X dX5_stageDown_14 (by decide) (by unfold InR; omega) ⟨by decide, by decide⟩ (fun c_14 => ?_) (fun c_14 => ?_)
  · skip
    refine g_aload_n X dX5_stageDown_54 rfl 2 rfl ?_
    refine g_iconst X dX5_stageDown_55 ?_
    refine g_puti X ck_X6 ho 3 (by decide) fl_X5_134 rfl rfl rfl dX5_stageDown_56 ?_
    obtain ⟨w_2, ew_2⟩ : ∃ q_ : Wd, q_ = up w_1 o 3 0 0 := ⟨_, rfl⟩
    refine g_w (w' := w_2) ew_2 ?_
    exact g_vret X rfl dX5_stageDown_59 (by
        unfold sdX
        rw [← hwho, if_pos (by first | exact Or.inl c_14 | (right; rw [h00, h212] at c_51; omega)), ew_2, hw, up_set2])
  · skip
    refine g_bipush X dX5_stageDown_17 (by decide) ?_
    refine g_aload_n X dX5_stageDown_19 rfl 2 rfl ?_
    refine g_geta X ck_X6 ho 0 (by decide) fl_X5_39 rfl dX5_stageDown_20 ?_
    refine g_iconst X dX5_stageDown_23 ?_
    refine h_iald (a := 0) (j := 0) X rfl ho (by decide) (show fkX 6 0 = (1, 4) from rfl) (by decide) (by omega) (by omega) dX5_stageDown_24 ?_
    refine g_imul X dX5_stageDown_25 ?_
    refine g_aload_n X dX5_stageDown_26 rfl 1 rfl ?_
    refine g_geto (o' := 2) X ck_X5 (fx10 F) 1 (by decide) fl_X5_9 rfl (fl10_1 F) dX5_stageDown_27 ?_
    refine g_geti X ck_X2 (fx2 F) 12 (by decide) fl_X5_146 (Or.inl rfl) dX5_stageDown_30 ?_
    refine g_aload_n X dX5_stageDown_33 rfl 1 rfl ?_
    refine g_geto (o' := 2) X ck_X5 (fx10 F) 1 (by decide) fl_X5_9 rfl (fl10_1 F) dX5_stageDown_34 ?_
    refine g_aload_n X dX5_stageDown_37 rfl 2 rfl ?_
    refine g_calli (st := [.ref (gAd G 2), .int (iI (w_1 2 12 0)), .int (iI (100 * (w_1 o 0 0)))]) X (c_X6_running l G o w_1 ho) cm_X6_running im_X6_running se_X6_running ml_X5_85 ck_X6 ho ⟨Nat.le_of_ble_eq_true rfl, Nat.le_of_ble_eq_true rfl⟩ rfl rfl (Nat.le_of_ble_eq_true rfl) dX5_stageDown_38 (fn_i ?_)
    refine g_iconst X dX5_stageDown_41 ?_
    refine g_iload_n X dX5_stageDown_42 rfl 0 rfl ?_
    refine g_ishl X dX5_stageDown_43 ?_
    refine g_iconst X dX5_stageDown_44 ?_
    refine g_ixor X dX5_stageDown_45 ?_
    refine g_iand X dX5_stageDown_46 ?_
    refine g_calli (st := [.int (iI (w_1 2 12 0)), .int (iI (100 * (w_1 o 0 0)))]) X (c_X2_mosts l G 2 (band (bor (w_1 o 6 0) (w_1 o 7 0)) (bxor (bshl 1 who) (-1))) w_1 (fx2 F) (by rw [h6, h7]; exact hcl c_14) (by first | assumption | omega | (unfold InR; omega))) cm_X2_mosts im_X2_mosts se_X2_mosts ml_X5_36 ck_X2 (fx2 F) ⟨Nat.le_of_ble_eq_true rfl, Nat.le_of_ble_eq_true rfl⟩ rfl rfl (Nat.le_of_ble_eq_true rfl) dX5_stageDown_47 (fn_i ?_)
    rw [show (sumB (band (bor (w_1 o 6 0) (w_1 o 7 0)) (bxor (bshl 1 who) (-1))) (w_1 2 2) (w_1 2 0 0).toNat : Int) = sumB (clrB (runX (w o)) who) (w 2 2) (w 2 0 0).toNat from (by rw [h6, h7, h2])]
    refine g_imul X dX5_stageDown_50 ?_
    refine g_icmp_lt (tgt := 60) X dX5_stageDown_51 (by decide) (by rw [h00]; unfold InR; omega) (by rw [h212]; unfold InR; omega) (fun c_51 => ?_) (fun c_51 => ?_)
    · skip
      refine g_aload_n X dX5_stageDown_60 rfl 2 rfl ?_
      refine g_dup X dX5_stageDown_61 rfl ?_
      refine g_geti X ck_X6 ho 3 (by decide) fl_X5_134 (Or.inl rfl) dX5_stageDown_62 ?_
      refine g_iconst X dX5_stageDown_65 ?_
      refine g_iadd X dX5_stageDown_66 ?_
      refine g_puti X ck_X6 ho 3 (by decide) fl_X5_134 rfl rfl rfl dX5_stageDown_67 ?_
      obtain ⟨w_3, ew_3⟩ : ∃ q_ : Wd, q_ = up w_1 o 3 0 ((w_1 o 3 0) + 1) := ⟨_, rfl⟩
      refine g_w (w' := w_3) ew_3 ?_
      have hw2 : w_3 = setO w o (fu (fu (w o) 2 0 0) 3 0 (w o 3 0 + 1)) := by rw [ew_3, h3, hw, up_set2]
      have hu2 : w_3 o = fu (fu (w o) 2 0 0) 3 0 (w o 3 0 + 1) := by rw [hw2, setO_at]
      have k3 : w_3 o 3 0 = w o 3 0 + 1 := by rw [hu2]; simp [fu]
      have k213 : w_3 2 13 0 = w 2 13 0 := by rw [hw2, setO_ne (fun z => n2 z.symm)]
      have k6 : w_3 o 6 0 = w o 6 0 := by rw [hu2]; simp [fu]
      have k7 : w_3 o 7 0 = w o 7 0 := by rw [hu2]; simp [fu]
      refine g_aload_n X dX5_stageDown_70 rfl 2 rfl ?_
      refine g_geti X ck_X6 ho 3 (by decide) fl_X5_134 (Or.inl rfl) dX5_stageDown_71 ?_
      refine g_aload_n X dX5_stageDown_74 rfl 1 rfl ?_
      refine g_geto (o' := 2) X ck_X5 (fx10 F) 1 (by decide) fl_X5_9 rfl (fl10_1 F) dX5_stageDown_75 ?_
      refine g_geti X ck_X2 (fx2 F) 13 (by decide) fl_X5_137 (Or.inl rfl) dX5_stageDown_78 ?_
      refine g_icmp_le (tgt := 94) X dX5_stageDown_81 (by decide) (by unfold InR; omega) (by unfold InR; omega) (fun c_81 => ?_) (fun c_81 => ?_)
      · skip
        exact g_vret X rfl dX5_stageDown_94 (by
            unfold sdX
            rw [h00, h212] at c_51
            rw [← hwho, if_neg (by rintro (h | h); exact c_14 h; omega)]
            first
            | (rw [if_neg (by omega)]; exact hw2)
            | (rw [if_pos (by omega), ew_3, sp_eq h_86, hw2, setO_setO, setO_at, up_set2]))
      · skip
        refine g_aload_n X dX5_stageDown_84 rfl 2 rfl ?_
        refine g_iload_n X dX5_stageDown_85 rfl 0 rfl ?_
        refine g_callv (st := []) X (c_X6_stop l G o who w_3 ho (by omega) (by first | assumption | omega | (unfold InR; omega)) (by first | assumption | omega | (unfold InR; omega))) cm_X6_stop im_X6_stop se_X6_stop ml_X5_149 ck_X6 ho ⟨Nat.le_of_ble_eq_true rfl, Nat.le_of_ble_eq_true rfl⟩ rfl rfl (Nat.le_of_ble_eq_true rfl) dX5_stageDown_86 ?_
        rintro u_86 h_86
        refine g_aload_n X dX5_stageDown_89 rfl 2 rfl ?_
        refine g_iconst X dX5_stageDown_90 ?_
        refine g_puti X ck_X6 ho 3 (by decide) fl_X5_134 rfl rfl rfl dX5_stageDown_91 ?_
        obtain ⟨w_4, ew_4⟩ : ∃ q_ : Wd, q_ = up u_86 o 3 0 0 := ⟨_, rfl⟩
        refine g_w (w' := w_4) ew_4 ?_
        exact g_vret X rfl dX5_stageDown_94 (by
            unfold sdX
            rw [h00, h212] at c_51
            rw [← hwho, if_neg (by rintro (h | h); exact c_14 h; omega)]
            first
            | (rw [if_neg (by omega)]; exact hw2)
            | (rw [if_pos (by omega), ew_4, sp_eq h_86, hw2, setO_setO, setO_at, up_set2]))
    · skip
      refine g_aload_n X dX5_stageDown_54 rfl 2 rfl ?_
      refine g_iconst X dX5_stageDown_55 ?_
      refine g_puti X ck_X6 ho 3 (by decide) fl_X5_134 rfl rfl rfl dX5_stageDown_56 ?_
      obtain ⟨w_5, ew_5⟩ : ∃ q_ : Wd, q_ = up w_1 o 3 0 0 := ⟨_, rfl⟩
      refine g_w (w' := w_5) ew_5 ?_
      exact g_vret X rfl dX5_stageDown_59 (by
          unfold sdX
          rw [← hwho, if_pos (by first | exact Or.inl c_14 | (right; rw [h00, h212] at c_51; omega)), ew_5, hw, up_set2])
set_option maxHeartbeats 4000000 in
set_option maxRecDepth 100000 in
theorem c_X5_fall (l : Launch) (G : Ly) (o : Nat) (B : Int) (w : Wd) (F : FX G) (ho : gOb G o = some 6) (hp : PV (w 2)) (hS : SV B (w 2 0 0) (w o)) (hB : B ≤ 99000) (hl : w o 9 0 + cnt (runX (w o)) ≤ 6) : Mv l yX5_fall cX5_fall 5 none 2 45 G [.ref (gAd G 10), .ref (gAd G o)] w (fun w2 => w2 = setO w o (fu (fu (flX (w 2) (w o) 6).1 2 0 0) 3 0 0)) := by
  refine mv_of (lv := [(0, .ref (gAd G 10)), (1, .ref (gAd G o))]) (by decide) (Nat.le_of_ble_eq_true rfl) rfl ?_
  intro p_ e_ s_ m_ b_ h_ c_ X
  have n2 := ne_ob ho (fx2 F) (by decide)
  have n10 := ne_ob ho (fx10 F) (by decide)
  have n11 := ne_ob ho (fx11 F) (by decide)
  have hp0 := hp.1
  have hp7 := hp.2.2
  have sT := hS.1
  have sB := hS.2.1
  have sC := hS.2.2.1
  have sD := hS.2.2.2.1
  have sE := hS.2.2.2.2.1
  have sF := hS.2.2.2.2.2.1
  have sG := hS.2.2.2.2.2.2.1
  have sH := hS.2.2.2.2.2.2.2
  have hrun := bt_or (s := w o 6 0) (t := w o 7 0) (by omega) (by omega) (by omega) (by omega)
  have hfl := fl_inv hp hS hl
  refine g_aload_n X dX5_fall_0 rfl 1 rfl ?_
  refine g_calli (st := []) X (c_X6_running l G o w ho) cm_X6_running im_X6_running se_X6_running ml_X5_85 ck_X6 ho ⟨Nat.le_of_ble_eq_true rfl, Nat.le_of_ble_eq_true rfl⟩ rfl rfl (Nat.le_of_ble_eq_true rfl) dX5_fall_1 (fn_i ?_)
  refine g_istore_n (lv' := [(2, .int (iI (bor (w o 6 0) (w o 7 0)))), (0, .ref (gAd G 10)), (1, .ref (gAd G o))]) X dX5_fall_4 rfl (by decide) rfl ?_
  refine g_iconst X dX5_fall_5 ?_
  refine g_istore_n (lv' := [(3, .int (iI 0)), (2, .int (iI (bor (w o 6 0) (w o 7 0)))), (0, .ref (gAd G 10)), (1, .ref (gAd G o))]) X dX5_fall_6 rfl (by decide) rfl ?_
  refine g_lv (lv' := [(0, .ref (gAd G 10)), (1, .ref (gAd G o)), (2, .int (iI (bor (w o 6 0) (w o 7 0)))), (3, .int (iI 0))]) [2, 3, 1, 0] rfl ?_
  refine g_loop3 (fun (left : Int) (k : Int) (w1 : Wd) => [(0, .ref (gAd G 10)), (1, .ref (gAd G o)), (2, .int (iI left)), (3, .int (iI k))]) (fun (left : Int) (k : Int) (w1 : Wd) => w1) (fun (left : Int) (k : Int) (w1 : Wd) => (0 ≤ k) ∧ (k ≤ 6) ∧ (left = (flX (w 2) (w o) k.toNat).2) ∧ (w1 = setO w o (flX (w 2) (w o) k.toNat).1)) (fun (left : Int) (k : Int) (w1 : Wd) => (6 - k).toNat) (bor (w o 6 0) (w o 7 0)) 0 w ⟨(by first | omega | rfl | assumption), (by first | omega | rfl | assumption), (by rfl), (by show w = setO w o (w o); rw [setO_self])⟩ ?_
  intro left k w1 hI_7 ih_7
  obtain ⟨h0, h1, hlf, hw⟩ := hI_7
  try dsimp only at ih_7 ⊢
  have hk := hfl k.toNat
  have h2 : w1 2 = w 2 := by rw [hw]; exact setO_ne (fun z => n2 z.symm)
  have h20 : w1 2 0 0 = w 2 0 0 := by rw [h2]
  have hu : w1 o = (flX (w 2) (w o) k.toNat).1 := by rw [hw, setO_at]
  refine g_iload_n X dX5_fall_7 rfl 3 rfl ?_
  refine g_bipush X dX5_fall_8 (by decide) ?_
  refine g_icmp_ge (tgt := 51) X dX5_fall_10 (by decide) (by unfold InR; omega) ⟨by decide, by decide⟩ (fun c_10 => ?_) (fun c_10 => ?_)
  · skip
    refine g_aload_n X dX5_fall_51 rfl 1 rfl ?_
    refine g_iconst X dX5_fall_52 ?_
    refine g_puti X ck_X6 ho 2 (by decide) fl_X5_131 rfl rfl rfl dX5_fall_53 ?_
    obtain ⟨w_1, ew_1⟩ : ∃ q_ : Wd, q_ = up w1 o 2 0 0 := ⟨_, rfl⟩
    refine g_w (w' := w_1) ew_1 ?_
    refine g_aload_n X dX5_fall_56 rfl 1 rfl ?_
    refine g_iconst X dX5_fall_57 ?_
    refine g_puti X ck_X6 ho 3 (by decide) fl_X5_134 rfl rfl rfl dX5_fall_58 ?_
    obtain ⟨w_2, ew_2⟩ : ∃ q_ : Wd, q_ = up w_1 o 3 0 0 := ⟨_, rfl⟩
    refine g_w (w' := w_2) ew_2 ?_
    exact g_vret X rfl dX5_fall_61 (by
        have hfin : flX (w 2) (w o) 6 = flX (w 2) (w o) k.toNat := by
          first
          | (have e := flX_stop (w 2) (w o) k.toNat (by rw [← hlf]; exact c_14) (6 - k.toNat)
             rw [show k.toNat + (6 - k.toNat) = 6 by omega] at e
             exact e)
          | rw [show k.toNat = 6 by omega]
        rw [ew_2, ew_1, hw, up_set2, up_set2, hfin])
  · skip
    refine g_iload_n X dX5_fall_13 rfl 2 rfl ?_
    refine g_if_eq (tgt := 51) X dX5_fall_14 (by decide) (by have := hk.2.1; rw [hlf]; unfold InR; omega) (fun c_14 => ?_) (fun c_14 => ?_)
    · skip
      refine g_aload_n X dX5_fall_51 rfl 1 rfl ?_
      refine g_iconst X dX5_fall_52 ?_
      refine g_puti X ck_X6 ho 2 (by decide) fl_X5_131 rfl rfl rfl dX5_fall_53 ?_
      obtain ⟨w_3, ew_3⟩ : ∃ q_ : Wd, q_ = up w1 o 2 0 0 := ⟨_, rfl⟩
      refine g_w (w' := w_3) ew_3 ?_
      refine g_aload_n X dX5_fall_56 rfl 1 rfl ?_
      refine g_iconst X dX5_fall_57 ?_
      refine g_puti X ck_X6 ho 3 (by decide) fl_X5_134 rfl rfl rfl dX5_fall_58 ?_
      obtain ⟨w_4, ew_4⟩ : ∃ q_ : Wd, q_ = up w_3 o 3 0 0 := ⟨_, rfl⟩
      refine g_w (w' := w_4) ew_4 ?_
      exact g_vret X rfl dX5_fall_61 (by
          have hfin : flX (w 2) (w o) 6 = flX (w 2) (w o) k.toNat := by
            first
            | (have e := flX_stop (w 2) (w o) k.toNat (by rw [← hlf]; exact c_14) (6 - k.toNat)
               rw [show k.toNat + (6 - k.toNat) = 6 by omega] at e
               exact e)
            | rw [show k.toNat = 6 by omega]
          rw [ew_4, ew_3, hw, up_set2, up_set2, hfin])
    · skip
      obtain ⟨g1, g2, g3⟩ := grt_ok hp (s := left) (by rw [hlf]; exact hk.2.1.1) (by rw [hlf]; exact hk.2.1.2) c_14 (by rw [hlf]; exact hk.2.2.1)
      obtain ⟨who, hwho⟩ : ∃ q, q = (grX (w 2) left (w 2 0 0).toNat).1 := ⟨_, rfl⟩
      rw [← hwho] at g1 g2 g3
      have c1 := hk.1.2.2.1
      refine g_aload_n X dX5_fall_17 rfl 0 rfl ?_
      refine g_iload_n X dX5_fall_18 rfl 2 rfl ?_
      refine g_calli (st := []) X (c_X5_greatestOf l G left w1 F (by rw [h2]; exact hp) (by rw [hlf]; exact hk.2.1)) cm_X5_greatestOf im_X5_greatestOf se_X5_greatestOf ml_X5_180 ck_X5 (fx10 F) ⟨Nat.le_of_ble_eq_true rfl, Nat.le_of_ble_eq_true rfl⟩ rfl rfl (Nat.le_of_ble_eq_true rfl) dX5_fall_19 (fn_i ?_)
      rw [show ((grX (w1 2) left (w1 2 0 0).toNat).1 : Int) = who from (by rw [h2]; exact hwho.symm)]
      refine g_istore (lv' := [(4, .int (iI who)), (0, .ref (gAd G 10)), (1, .ref (gAd G o)), (2, .int (iI left)), (3, .int (iI k))]) X dX5_fall_22 (by decide) rfl ?_
      refine g_iload_n X dX5_fall_24 rfl 3 rfl ?_
      refine g_iconst X dX5_fall_25 ?_
      refine g_iload X dX5_fall_26 0 rfl ?_
      refine g_ishl X dX5_fall_28 ?_
      refine g_iconst X dX5_fall_29 ?_
      refine g_ixor X dX5_fall_30 ?_
      refine g_iand X dX5_fall_31 ?_
      refine g_istore_n (lv' := [(2, .int (iI (band left (bxor (bshl 1 who) (-1))))), (4, .int (iI who)), (0, .ref (gAd G 10)), (1, .ref (gAd G o)), (3, .int (iI k))]) X dX5_fall_32 rfl (by decide) rfl ?_
      refine g_aload_n X dX5_fall_33 rfl 3 rfl ?_
      refine g_iload X dX5_fall_34 1 rfl ?_
      refine g_callv (st := []) X (c_X6_stop l G o who w1 ho (by omega) (by rw [hu]; exact c1.2.1) (by rw [hu]; exact c1.2.2)) cm_X6_stop im_X6_stop se_X6_stop ml_X5_149 ck_X6 ho ⟨Nat.le_of_ble_eq_true rfl, Nat.le_of_ble_eq_true rfl⟩ rfl rfl (Nat.le_of_ble_eq_true rfl) dX5_fall_36 ?_
      rintro u_36 h_36
      refine g_aload_n X dX5_fall_39 rfl 3 rfl ?_
      refine g_iload X dX5_fall_40 1 rfl ?_
      refine g_callv (st := []) X (c_X6_putOnList l G o who u_36 ho (by
          have hc := cnt_rng hk.2.1.1 hk.2.1.2
          have hcl := cnt_clr hk.2.1.1 hk.2.1.2 g1 (by omega) (by rw [← hlf]; exact g3)
          have hcr := bt_clr hk.2.1.1 hk.2.1.2 g1 (show who < 6 by omega)
          have hc2 : 0 ≤ cnt (clrB (flX (w 2) (w o) k.toNat).2 who) := (cnt_rng hcr.1 hcr.2.1).1
          have e9 : (spX (flX (w 2) (w o) k.toNat).1 who) 9 0 = (flX (w 2) (w o) k.toNat).1 9 0 := by
            unfold spX
            split
            · simp [fu]
            · rfl
          have hk4 := hk.2.2.2
          have hk9 := hk.1.2.2.2.1.2
          rw [sp_eq h_36, setO_at, hu, e9]
          omega)) cm_X6_putOnList im_X6_putOnList se_X6_putOnList ml_X5_183 ck_X6 ho ⟨Nat.le_of_ble_eq_true rfl, Nat.le_of_ble_eq_true rfl⟩ rfl rfl (Nat.le_of_ble_eq_true rfl) dX5_fall_42 (fn_v ?_)
      obtain ⟨w_5, ew_5⟩ : ∃ q_ : Wd, q_ = up (up u_36 o 10 (u_36 o 9 0).toNat who) o 9 0 (u_36 o 9 0 + 1) := ⟨_, rfl⟩
      refine g_w (w' := w_5) ew_5 ?_
      refine g_iinc (j := 4) (lv' := [(3, .int (iI (k + 1))), (2, .int (iI (band left (bxor (bshl 1 who) (-1))))), (4, .int (iI who)), (0, .ref (gAd G 10)), (1, .ref (gAd G o))]) X dX5_fall_45 rfl (by decide) rfl ?_
      refine g_goto (tgt := 7) X dX5_fall_48 (by decide) ?_
      refine g_lv (lv' := [(0, .ref (gAd G 10)), (1, .ref (gAd G o)), (2, .int (iI (band left (bxor (bshl 1 who) (-1))))), (3, .int (iI (k + 1)))]) [3, 4, 1, 0] rfl ?_
      exact ih_7 (band left (bxor (bshl 1 who) (-1))) (k + 1) w_5 ⟨(by first | omega | rfl | assumption), (by first | omega | rfl | assumption), (by
          rw [show (k + 1).toNat = k.toNat + 1 by omega]
          unfold flX
          rw [← hlf, if_neg c_14, ← hwho]), (by
          rw [show (k + 1).toNat = k.toNat + 1 by omega]
          unfold flX
          rw [← hlf, if_neg c_14, ← hwho, ew_5, pt_eq, sp_eq h_36, setO_setO, setO_at, hw, setO_setO, setO_at])⟩ (by omega)
set_option maxHeartbeats 4000000 in
set_option maxRecDepth 100000 in
theorem c_X5_pass (l : Launch) (G : Ly) (o : Nat) (B : Int) (w : Wd) (F : FX G) (ho : gOb G o = some 6) (hp : PV (w 2)) (hS : SV B (w 2 0 0) (w o)) (hB : B ≤ 99000) (hC : ShC (w 2) (w 11)) (hB2 : B ≤ 98000) : Mv l yX5_pass cX5_pass 3 none 6 133 G [.ref (gAd G 10), .ref (gAd G o)] w (fun w2 => ∃ e, PowX (w 2) (w o) e ∧ w2 o = psX (w 2) (w o) e ∧ (∀ o2, o2 ≠ o → o2 ≠ 11 → w2 o2 = w o2) ∧ ShC (w 2) (w2 11)) := by
  refine mv_of (lv := [(0, .ref (gAd G 10)), (1, .ref (gAd G o))]) (by decide) (Nat.le_of_ble_eq_true rfl) rfl ?_
  intro p_ e_ s_ m_ b_ h_ c_ X
  have n2 := ne_ob ho (fx2 F) (by decide)
  have n10 := ne_ob ho (fx10 F) (by decide)
  have n11 := ne_ob ho (fx11 F) (by decide)
  have hp0 := hp.1
  have hp7 := hp.2.2
  have sT := hS.1
  have sB := hS.2.1
  have sC := hS.2.2.1
  have sD := hS.2.2.2.1
  have sE := hS.2.2.2.2.1
  have sF := hS.2.2.2.2.2.1
  have sG := hS.2.2.2.2.2.2.1
  have sH := hS.2.2.2.2.2.2.2
  have hrun := bt_or (s := w o 6 0) (t := w o 7 0) (by omega) (by omega) (by omega) (by omega)
  refine g_aload_n X dX5_pass_0 rfl 1 rfl ?_
  refine g_dup X dX5_pass_1 rfl ?_
  refine g_geti X ck_X6 ho 4 (by decide) fl_X5_70 (Or.inl rfl) dX5_pass_2 ?_
  refine g_aload_n X dX5_pass_5 rfl 0 rfl ?_
  refine g_aload_n X dX5_pass_6 rfl 1 rfl ?_
  refine g_calli (st := [.int (iI (w o 4 0)), .ref (gAd G o)]) X (c_X5_powerNow l G o B w F ho (by first | assumption | omega | (unfold InR; omega)) (by first | assumption | omega | (unfold InR; omega)) (by omega) (by first | assumption | omega | (unfold InR; omega))) cm_X5_powerNow im_X5_powerNow se_X5_powerNow ml_X5_73 ck_X5 (fx10 F) ⟨Nat.le_of_ble_eq_true rfl, Nat.le_of_ble_eq_true rfl⟩ rfl rfl (Nat.le_of_ble_eq_true rfl) dX5_pass_7 ?_
  rintro z_7 u_7 ⟨hfr, hsc, hpw⟩
  have e2 : u_7 2 = w 2 := by funext f j; exact hfr 2 f j (by decide)
  have eo : u_7 o = w o := by funext f j; exact hfr o f j n11
  refine g_iadd X dX5_pass_10 ?_
  refine g_puti X ck_X6 ho 4 (by decide) fl_X5_70 rfl rfl rfl dX5_pass_11 ?_
  obtain ⟨w_1, ew_1⟩ : ∃ q_ : Wd, q_ = up u_7 o 4 0 ((w o 4 0) + z_7) := ⟨_, rfl⟩
  refine g_w (w' := w_1) ew_1 ?_
  refine g_aload_n X dX5_pass_14 rfl 1 rfl ?_
  refine g_dup X dX5_pass_15 rfl ?_
  refine g_geti X ck_X6 ho 1 (by decide) fl_X5_76 (Or.inl rfl) dX5_pass_16 ?_
  refine g_iconst X dX5_pass_19 ?_
  refine g_iadd X dX5_pass_20 ?_
  refine g_puti X ck_X6 ho 1 (by decide) fl_X5_76 rfl rfl rfl dX5_pass_21 ?_
  obtain ⟨w_2, ew_2⟩ : ∃ q_ : Wd, q_ = up w_1 o 1 0 ((w_1 o 1 0) + 1) := ⟨_, rfl⟩
  refine g_w (w' := w_2) ew_2 ?_
  refine g_iconst X dX5_pass_24 ?_
  refine g_istore_n (lv' := [(2, .int (iI 0)), (0, .ref (gAd G 10)), (1, .ref (gAd G o))]) X dX5_pass_25 rfl (by decide) rfl ?_
  refine g_lv (lv' := [(0, .ref (gAd G 10)), (1, .ref (gAd G o)), (2, .int (iI 0))]) [1, 2, 0] rfl ?_
  refine g_loop2 (fun (k : Int) (w1 : Wd) => [(0, .ref (gAd G 10)), (1, .ref (gAd G o)), (2, .int (iI k))]) (fun (k : Int) (w1 : Wd) => w1) (fun (k : Int) (w1 : Wd) => (0 ≤ k) ∧ (k ≤ w 2 0 0) ∧ (w1 = setO u_7 o (lpX (tkE (w o) z_7) k.toNat))) (fun (k : Int) (w1 : Wd) => (w 2 0 0 - k).toNat) 0 w_2 ⟨(by first | omega | rfl | assumption), (by first | omega | rfl | assumption), (by rw [ew_2, ew_1, up_setO u_7 o 4 0, up_set2, setO_at, eo]; show _ = setO u_7 o (tkE (w o) z_7); unfold tkE; simp [fu])⟩ ?_
  intro k w1 hI_26 ih_26
  obtain ⟨h0, h1, hw⟩ := hI_26
  try dsimp only at ih_26 ⊢
  have hlp := sv_lp (e := z_7) (show w 2 0 0 ≤ 6 by omega) hS k.toNat (by omega)
  rw [show ((k.toNat : Nat) : Int) = k by omega] at hlp
  have h2 : w1 2 = w 2 := by rw [hw, setO_ne (fun z => n2 z.symm)]; exact e2
  have h20 : w1 2 0 0 = w 2 0 0 := by rw [h2]
  have hu : w1 o = lpX (tkE (w o) z_7) k.toNat := by rw [hw, setO_at]
  have h11 : w1 11 = u_7 11 := by rw [hw]; exact setO_ne (fun z => n11 z.symm)
  have hC2 := hlp.2.2.1
  rw [← hu] at hC2
  refine g_iload_n X dX5_pass_26 rfl 2 rfl ?_
  refine g_aload_n X dX5_pass_27 rfl 0 rfl ?_
  refine g_geto (o' := 2) X ck_X5 (fx10 F) 1 (by decide) fl_X5_9 rfl (fl10_1 F) dX5_pass_28 ?_
  refine g_geti X ck_X2 (fx2 F) 0 (by decide) fl_X5_79 (Or.inl rfl) dX5_pass_31 ?_
  refine g_icmp_ge (tgt := 66) X dX5_pass_34 (by decide) (by unfold InR; omega) (by unfold InR; omega) (fun c_34 => ?_) (fun c_34 => ?_)
  · skip
    have hlp9 := hlp.2.2.2.1.2
    rw [← hu] at hlp9
    have hlp0 := hlp.1
    rw [← hu] at hlp0
    have hrun2 := bt_or (s := w1 o 6 0) (t := w1 o 7 0) (by omega) (by omega) (by omega) (by omega)
    have hsm : 0 ≤ sumB (bor (w1 o 6 0) (w1 o 7 0)) (w1 2 2) (w1 2 0 0).toNat ∧ sumB (bor (w1 o 6 0) (w1 o 7 0)) (w1 2 2) (w1 2 0 0).toNat ≤ 480 := by rw [h2]; exact pv_most hp _
    have h211 : w1 2 11 0 = w 2 11 0 := by rw [h2]
    have hmul := mulb (a := w1 2 11 0) (b := sumB (bor (w1 o 6 0) (w1 o 7 0)) (w1 2 2) (w1 2 0 0).toNat) (A := 99) (B := 480) (by omega) (by omega) hsm.1 hsm.2
    have hkn : k = w 2 0 0 := by omega
    refine g_aload_n X dX5_pass_66 rfl 1 rfl ?_
    refine g_geti X ck_X6 ho 9 (by decide) fl_X5_95 (Or.inl rfl) dX5_pass_67 ?_
    refine g_if_le (tgt := 81) X dX5_pass_70 (by decide) (by unfold InR; omega) (fun c_70 => ?_) (fun c_70 => ?_)
    · skip
      refine g_bipush X dX5_pass_81 (by decide) ?_
      refine g_aload_n X dX5_pass_83 rfl 1 rfl ?_
      refine g_geta X ck_X6 ho 0 (by decide) fl_X5_39 rfl dX5_pass_84 ?_
      refine g_iconst X dX5_pass_87 ?_
      refine h_iald (a := 0) (j := 0) X rfl ho (by decide) (show fkX 6 0 = (1, 4) from rfl) (by decide) (by omega) (by omega) dX5_pass_88 ?_
      refine g_imul X dX5_pass_89 ?_
      refine g_aload_n X dX5_pass_90 rfl 0 rfl ?_
      refine g_geto (o' := 2) X ck_X5 (fx10 F) 1 (by decide) fl_X5_9 rfl (fl10_1 F) dX5_pass_91 ?_
      refine g_geti X ck_X2 (fx2 F) 11 (by decide) fl_X5_102 (Or.inl rfl) dX5_pass_94 ?_
      refine g_aload_n X dX5_pass_97 rfl 0 rfl ?_
      refine g_geto (o' := 2) X ck_X5 (fx10 F) 1 (by decide) fl_X5_9 rfl (fl10_1 F) dX5_pass_98 ?_
      refine g_aload_n X dX5_pass_101 rfl 1 rfl ?_
      refine g_calli (st := [.ref (gAd G 2), .int (iI (w1 2 11 0)), .int (iI (100 * (w1 o 0 0)))]) X (c_X6_running l G o w1 ho) cm_X6_running im_X6_running se_X6_running ml_X5_85 ck_X6 ho ⟨Nat.le_of_ble_eq_true rfl, Nat.le_of_ble_eq_true rfl⟩ rfl rfl (Nat.le_of_ble_eq_true rfl) dX5_pass_102 (fn_i ?_)
      refine g_calli (st := [.int (iI (w1 2 11 0)), .int (iI (100 * (w1 o 0 0)))]) X (c_X2_mosts l G 2 (bor (w1 o 6 0) (w1 o 7 0)) w1 (fx2 F) (by omega) (by first | assumption | omega | (unfold InR; omega))) cm_X2_mosts im_X2_mosts se_X2_mosts ml_X5_36 ck_X2 (fx2 F) ⟨Nat.le_of_ble_eq_true rfl, Nat.le_of_ble_eq_true rfl⟩ rfl rfl (Nat.le_of_ble_eq_true rfl) dX5_pass_105 (fn_i ?_)
      refine g_imul X dX5_pass_108 ?_
      refine g_icmp_le (tgt := 120) X dX5_pass_109 (by decide) (by unfold InR; omega) (by unfold InR; omega) (fun c_109 => ?_) (fun c_109 => ?_)
      · skip
        refine g_aload_n X dX5_pass_120 rfl 0 rfl ?_
        refine g_aload_n X dX5_pass_121 rfl 1 rfl ?_
        refine g_callv (st := []) X (c_X5_stageDown l G o (B + 1 + k) w1 F ho (by rw [h2]; exact hp) (by rw [h20, hu]; exact hlp) (by omega)) cm_X5_stageDown im_X5_stageDown se_X5_stageDown ml_X5_108 ck_X5 (fx10 F) ⟨Nat.le_of_ble_eq_true rfl, Nat.le_of_ble_eq_true rfl⟩ rfl rfl (Nat.le_of_ble_eq_true rfl) dX5_pass_122 (fn_v ?_)
        obtain ⟨w_3, ew_3⟩ : ∃ q_ : Wd, q_ = setO w1 o (sdX (w1 2) (w1 o)) := ⟨_, rfl⟩
        refine g_w (w' := w_3) ew_3 ?_
        exact g_vret X rfl dX5_pass_125 (by
            refine ⟨z_7, hpw, ?_, ?_, ?_⟩
            · rw [ew_3, setO_at]
              have hkk : (w 2 0 0).toNat = k.toNat := by omega
              unfold psX tailX
              rw [hkk, ← hu]
              first
              | (rw [if_pos (by omega), h2])
              | (rw [h2, hkk] at c_109; rw [if_neg (by omega), if_pos (by unfold runX; omega), h2])
              | (rw [h2, hkk] at c_109; rw [if_neg (by omega), if_neg (by unfold runX; omega), h2])
            · intro o2 a b
              rw [ew_3, setO_ne a, hw, setO_ne a]
              funext f j
              exact hfr o2 f j b
            · rw [ew_3, setO_ne (fun z => n11 z.symm), h11]
              exact hsc)
      · skip
        refine g_aload_n X dX5_pass_112 rfl 0 rfl ?_
        refine g_aload_n X dX5_pass_113 rfl 1 rfl ?_
        refine g_callv (st := []) X (c_X5_stageUp l G o (B + 1 + k) w1 F ho (by rw [h2]; exact hp) (by rw [h20, hu]; exact hlp) (by omega)) cm_X5_stageUp im_X5_stageUp se_X5_stageUp ml_X5_105 ck_X5 (fx10 F) ⟨Nat.le_of_ble_eq_true rfl, Nat.le_of_ble_eq_true rfl⟩ rfl rfl (Nat.le_of_ble_eq_true rfl) dX5_pass_114 (fn_v ?_)
        obtain ⟨w_4, ew_4⟩ : ∃ q_ : Wd, q_ = setO w1 o (suX (w1 2) (w1 o)) := ⟨_, rfl⟩
        refine g_w (w' := w_4) ew_4 ?_
        refine g_goto (tgt := 125) X dX5_pass_117 (by decide) ?_
        exact g_vret X rfl dX5_pass_125 (by
            refine ⟨z_7, hpw, ?_, ?_, ?_⟩
            · rw [ew_4, setO_at]
              have hkk : (w 2 0 0).toNat = k.toNat := by omega
              unfold psX tailX
              rw [hkk, ← hu]
              first
              | (rw [if_pos (by omega), h2])
              | (rw [h2, hkk] at c_109; rw [if_neg (by omega), if_pos (by unfold runX; omega), h2])
              | (rw [h2, hkk] at c_109; rw [if_neg (by omega), if_neg (by unfold runX; omega), h2])
            · intro o2 a b
              rw [ew_4, setO_ne a, hw, setO_ne a]
              funext f j
              exact hfr o2 f j b
            · rw [ew_4, setO_ne (fun z => n11 z.symm), h11]
              exact hsc)
    · skip
      refine g_aload_n X dX5_pass_73 rfl 0 rfl ?_
      refine g_aload_n X dX5_pass_74 rfl 1 rfl ?_
      refine g_callv (st := []) X (c_X5_comeBack l G o (B + 1 + k) w1 F ho (by rw [h2]; exact hp) (by rw [h20, hu]; exact hlp) (by omega) (by first | assumption | omega | (unfold InR; omega))) cm_X5_comeBack im_X5_comeBack se_X5_comeBack ml_X5_98 ck_X5 (fx10 F) ⟨Nat.le_of_ble_eq_true rfl, Nat.le_of_ble_eq_true rfl⟩ rfl rfl (Nat.le_of_ble_eq_true rfl) dX5_pass_75 (fn_v ?_)
      obtain ⟨w_5, ew_5⟩ : ∃ q_ : Wd, q_ = setO w1 o (cbX (w1 2) (w1 o)) := ⟨_, rfl⟩
      refine g_w (w' := w_5) ew_5 ?_
      refine g_goto (tgt := 125) X dX5_pass_78 (by decide) ?_
      exact g_vret X rfl dX5_pass_125 (by
          refine ⟨z_7, hpw, ?_, ?_, ?_⟩
          · rw [ew_5, setO_at]
            have hkk : (w 2 0 0).toNat = k.toNat := by omega
            unfold psX tailX
            rw [hkk, ← hu]
            first
            | (rw [if_pos (by omega), h2])
            | (rw [h2, hkk] at c_109; rw [if_neg (by omega), if_pos (by unfold runX; omega), h2])
            | (rw [h2, hkk] at c_109; rw [if_neg (by omega), if_neg (by unfold runX; omega), h2])
          · intro o2 a b
            rw [ew_5, setO_ne a, hw, setO_ne a]
            funext f j
            exact hfr o2 f j b
          · rw [ew_5, setO_ne (fun z => n11 z.symm), h11]
            exact hsc)
  · skip
    refine g_aload_n X dX5_pass_37 rfl 1 rfl ?_
    refine g_geta X ck_X6 ho 11 (by decide) fl_X5_82 rfl dX5_pass_38 ?_
    refine g_iload_n X dX5_pass_41 rfl 2 rfl ?_
    refine g_dup2 X dX5_pass_42 rfl rfl ?_
    refine h_iald (a := k) (j := (k).toNat) X rfl ho (by decide) (show fkX 6 11 = (1, 6) from rfl) (by decide) (by omega) (by omega) dX5_pass_43 ?_
    refine g_aload_n X dX5_pass_44 rfl 1 rfl ?_
    refine g_calli (st := [.int (iI (w1 o 11 (k).toNat)), .int (iI k), .ref (gAr G o 11)]) X (c_X6_running l G o w1 ho) cm_X6_running im_X6_running se_X6_running ml_X5_85 ck_X6 ho ⟨Nat.le_of_ble_eq_true rfl, Nat.le_of_ble_eq_true rfl⟩ rfl rfl (Nat.le_of_ble_eq_true rfl) dX5_pass_45 (fn_i ?_)
    refine g_iload_n X dX5_pass_48 rfl 2 rfl ?_
    refine g_callni (st := [.int (iI (w1 o 11 (k).toNat)), .int (iI k), .ref (gAr G o 11)]) X (c_X7_bitOf l G (bor (w1 o 6 0) (w1 o 7 0)) k w1 (by have := bt_or (s := w1 o 6 0) (t := w1 o 7 0) (by omega) (by omega) (by omega) (by omega); omega) (by first | assumption | omega | (unfold InR; omega))) cm_X7_bitOf sm_X7_bitOf mn_X5_88 ⟨Nat.le_of_ble_eq_true rfl, Nat.le_of_ble_eq_true rfl⟩ rfl rfl (Nat.le_of_ble_eq_true rfl) dX5_pass_49 (fn_i ?_)
    refine g_iadd X dX5_pass_52 ?_
    refine h_iast (a := k) (j := (k).toNat) X rfl ho (by decide) (show fkX 6 11 = (1, 6) from rfl) (by decide) (by omega) (by omega) dX5_pass_53 ?_
    obtain ⟨w_6, ew_6⟩ : ∃ q_ : Wd, q_ = up w1 o 11 (k).toNat ((w1 o 11 (k).toNat) + (tb (bor (w1 o 6 0) (w1 o 7 0)) k.toNat)) := ⟨_, rfl⟩
    refine g_w (w' := w_6) ew_6 ?_
    refine g_aload_n X dX5_pass_54 rfl 0 rfl ?_
    refine g_aload_n X dX5_pass_55 rfl 1 rfl ?_
    refine g_iload_n X dX5_pass_56 rfl 2 rfl ?_
    refine g_callv (st := []) X (c_X5_comeOn l G o k (B + 1 + k + 1) w_6 F ho (by rw [ew_6, up_ne2 n2]; rw [h2]; exact hp) (by
        rw [ew_6, up_setO, setO_at, setO_ne (fun z => n2 z.symm), h20, hu]
        have hh := sv_hr (m := k) hlp h0 (by omega)
        exact hh) (by omega) (by rw [ew_6, up_setO, setO_ne (fun z => n2 z.symm), h20]; omega)) cm_X5_comeOn im_X5_comeOn se_X5_comeOn ml_X5_91 ck_X5 (fx10 F) ⟨Nat.le_of_ble_eq_true rfl, Nat.le_of_ble_eq_true rfl⟩ rfl rfl (Nat.le_of_ble_eq_true rfl) dX5_pass_57 (fn_v ?_)
    obtain ⟨w_7, ew_7⟩ : ∃ q_ : Wd, q_ = setO w_6 o (coX (w_6 o) k) := ⟨_, rfl⟩
    refine g_w (w' := w_7) ew_7 ?_
    refine g_iinc (j := 2) (lv' := [(2, .int (iI (k + 1))), (0, .ref (gAd G 10)), (1, .ref (gAd G o))]) X dX5_pass_60 rfl (by decide) rfl ?_
    refine g_goto (tgt := 26) X dX5_pass_63 (by decide) ?_
    refine g_lv (lv' := [(0, .ref (gAd G 10)), (1, .ref (gAd G o)), (2, .int (iI (k + 1)))]) [1, 2, 0] rfl ?_
    exact ih_26 (k + 1) w_7 ⟨(by first | omega | rfl | assumption), (by first | omega | rfl | assumption), (by
        rw [show (k + 1).toNat = k.toNat + 1 by omega]
        show _ = setO u_7 o (coX (hrX (lpX (tkE (w o) z_7) k.toNat) ((k.toNat : Nat) : Int)) ((k.toNat : Nat) : Int))
        rw [show ((k.toNat : Nat) : Int) = k by omega, ew_7, ew_6, up_setO, setO_at, setO_setO, hu, hw, setO_setO]
        rfl)⟩ (by omega)
