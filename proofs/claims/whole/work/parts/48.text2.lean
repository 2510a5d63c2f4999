set_option maxHeartbeats 4000000 in
set_option maxRecDepth 100000 in
theorem c_X8_isFigure (l : Launch) (G : Ly) (t : Nat → Int) (w : Wd) (FM : gOb G 20 = some 8) (ht : ∀ j : Nat, (j : Int) < w 20 1 0 → w 20 0 j = t j) (hL : 0 ≤ w 20 1 0 ∧ w 20 1 0 ≤ 200) (htr : ∀ j : Nat, j < 200 → 0 ≤ t j ∧ t j ≤ 126) (hat : 0 ≤ w 20 2 0 ∧ w 20 2 0 ≤ w 20 1 0) : Mi l yX8_isFigure cX8_isFigure 1 (some .boolean) 1 22 G [.ref (gAd G 20)] w (fun z w2 => z = (if figX t (w 20 1 0) (w 20 2 0) then 1 else 0) ∧ w2 = w) := by
  refine mi_of (lv := [(0, .ref (gAd G 20))]) (by decide) (Nat.le_of_ble_eq_true rfl) rfl ?_
  intro p_ e_ s_ m_ b_ h_ c_ X
  refine g_aload_n X dX8_isFigure_0 rfl 0 rfl ?_
  refine g_geti X ck_X8 FM 2 (by decide) fl_X8_55 (Or.inl rfl) dX8_isFigure_1 ?_
  refine g_aload_n X dX8_isFigure_4 rfl 0 rfl ?_
  refine g_geti X ck_X8 FM 1 (by decide) fl_X8_58 (Or.inl rfl) dX8_isFigure_5 ?_
  refine g_icmp_ge (tgt := 34) X dX8_isFigure_8 (by decide) (by unfold InR; omega) (by unfold InR; omega) (fun c_8 => ?_) (fun c_8 => ?_)
  · skip
    refine g_iconst X dX8_isFigure_34 ?_
    exact g_iret X rfl (by decide) dX8_isFigure_35 (by
        refine ⟨?_, rfl⟩
        first
        | exact (if_pos (show figX t (w 20 1 0) (w 20 2 0) from (by unfold figX; rw [hlt]; exact of_one c_27))).symm
        | exact (if_neg (show ¬ figX t (w 20 1 0) (w 20 2 0) from (by unfold figX; rw [hlt]; exact of_zero c_27))).symm
        | exact (if_neg (show ¬ figX t (w 20 1 0) (w 20 2 0) from (by unfold figX ltX; rw [if_neg (by omega)]; omega))).symm)
  · skip
    have hlt : ltX t (w 20 1 0) (w 20 2 0) = w 20 0 (w 20 2 0).toNat := by unfold ltX; rw [if_pos ⟨hat.1, by omega⟩, ht _ (by omega)]
    have hr := htr (w 20 2 0).toNat (by omega)
    rw [← ht (w 20 2 0).toNat (by omega)] at hr
    refine g_aload_n X dX8_isFigure_11 rfl 0 rfl ?_
    refine g_geta X ck_X8 FM 0 (by decide) fl_X8_7 rfl dX8_isFigure_12 ?_
    refine g_aload_n X dX8_isFigure_15 rfl 0 rfl ?_
    refine g_geti X ck_X8 FM 2 (by decide) fl_X8_55 (Or.inl rfl) dX8_isFigure_16 ?_
    refine h_iald (a := w 20 2 0) (j := (w 20 2 0).toNat) X rfl FM (by decide) (show fkX 8 0 = (1, 200) from rfl) (by decide) (by omega) (by omega) dX8_isFigure_19 ?_
    refine g_bipush X dX8_isFigure_20 (by decide) ?_
    refine g_bipush X dX8_isFigure_22 (by decide) ?_
    refine g_callsi (st := []) X (c_X8_in l G (w 20 0 (w 20 2 0).toNat) 48 57 w (by unfold InR; omega) (by first | assumption | omega | (unfold InR; omega)) (by first | assumption | omega | (unfold InR; omega))) cm_X8_in sm_X8_in ml_X8_61 ⟨Nat.le_of_ble_eq_true rfl, Nat.le_of_ble_eq_true rfl⟩ rfl rfl (Nat.le_of_ble_eq_true rfl) dX8_isFigure_24 (fn_i ?_)
    refine g_if_eq (tgt := 34) X dX8_isFigure_27 (by decide) (by exact in01) (fun c_27 => ?_) (fun c_27 => ?_)
    · skip
      refine g_iconst X dX8_isFigure_34 ?_
      exact g_iret X rfl (by decide) dX8_isFigure_35 (by
          refine ⟨?_, rfl⟩
          first
          | exact (if_pos (show figX t (w 20 1 0) (w 20 2 0) from (by unfold figX; rw [hlt]; exact of_one c_27))).symm
          | exact (if_neg (show ¬ figX t (w 20 1 0) (w 20 2 0) from (by unfold figX; rw [hlt]; exact of_zero c_27))).symm
          | exact (if_neg (show ¬ figX t (w 20 1 0) (w 20 2 0) from (by unfold figX ltX; rw [if_neg (by omega)]; omega))).symm)
    · skip
      refine g_iconst X dX8_isFigure_30 ?_
      refine g_goto (tgt := 35) X dX8_isFigure_31 (by decide) ?_
      exact g_iret X rfl (by decide) dX8_isFigure_35 (by
          refine ⟨?_, rfl⟩
          first
          | exact (if_pos (show figX t (w 20 1 0) (w 20 2 0) from (by unfold figX; rw [hlt]; exact of_one c_27))).symm
          | exact (if_neg (show ¬ figX t (w 20 1 0) (w 20 2 0) from (by unfold figX; rw [hlt]; exact of_zero c_27))).symm
          | exact (if_neg (show ¬ figX t (w 20 1 0) (w 20 2 0) from (by unfold figX ltX; rw [if_neg (by omega)]; omega))).symm)
set_option maxHeartbeats 4000000 in
set_option maxRecDepth 100000 in
theorem c_X8_isNumber (l : Launch) (G : Ly) (k : Int) (a : Int) (b : Int) (w : Wd) (FM : gOb G 20 = some 8) (hk : 0 ≤ k ∧ k < 6) (hn : 0 ≤ w 20 9 k.toNat ∧ w 20 9 k.toNat ≤ 99) (ha : InR a) (hb : InR b) : Mi l yX8_isNumber cX8_isNumber 4 (some .boolean) 1 22 G [.ref (gAd G 20), .int (iI k), .int (iI a), .int (iI b)] w (fun z w2 => z = (if a ≤ w 20 9 k.toNat ∧ w 20 9 k.toNat ≤ b then 1 else 0) ∧ w2 = w) := by
  refine mi_of (lv := [(0, .ref (gAd G 20)), (1, .int (iI k)), (2, .int (iI a)), (3, .int (iI b))]) (by decide) (Nat.le_of_ble_eq_true rfl) rfl ?_
  intro p_ e_ s_ m_ b_ h_ c_ X
  refine g_aload_n X dX8_isNumber_0 rfl 0 rfl ?_
  refine g_geta X ck_X8 FM 9 (by decide) fl_X8_28 rfl dX8_isNumber_1 ?_
  refine g_iload_n X dX8_isNumber_4 rfl 1 rfl ?_
  refine h_iald (a := k) (j := (k).toNat) X rfl FM (by decide) (show fkX 8 9 = (1, 6) from rfl) (by decide) (by omega) (by omega) dX8_isNumber_5 ?_
  refine g_iload_n X dX8_isNumber_6 rfl 2 rfl ?_
  refine g_iload_n X dX8_isNumber_7 rfl 3 rfl ?_
  refine g_callsi (st := []) X (c_X8_in l G (w 20 9 (k).toNat) a b w (by unfold InR; omega) (by first | assumption | omega | (unfold InR; omega)) (by first | assumption | omega | (unfold InR; omega))) cm_X8_in sm_X8_in ml_X8_61 ⟨Nat.le_of_ble_eq_true rfl, Nat.le_of_ble_eq_true rfl⟩ rfl rfl (Nat.le_of_ble_eq_true rfl) dX8_isNumber_8 (fn_i ?_)
  exact g_iret X rfl (by split <;> rfl) dX8_isNumber_11 (by exact ⟨rfl, rfl⟩)
set_option maxHeartbeats 4000000 in
set_option maxRecDepth 100000 in
theorem c_X8_write (l : Launch) (G : Ly) (c : Int) (t : Nat → Int) (w : Wd) (FM : gOb G 20 = some 8) (ht : ∀ j : Nat, (j : Int) < w 20 1 0 → w 20 0 j = t j) (hL : 0 ≤ w 20 1 0 ∧ w 20 1 0 ≤ 200) (htr : ∀ j : Nat, j < 200 → 0 ≤ t j ∧ t j ≤ 126) (hc : InR c) : Mi l yX8_write cX8_write 2 (some .int) 1 22 G [.ref (gAd G 20), .int (iI c)] w (fun z w2 => ((c < 32 ∨ 126 < c) ∧ z = -1 ∧ w2 = w) ∨ (32 ≤ c ∧ c ≤ 126 ∧ w 20 1 0 = 200 ∧ z = -3 ∧ w2 = w) ∨ (32 ≤ c ∧ c ≤ 126 ∧ w 20 1 0 < 200 ∧ z = w 20 1 0 + 1 ∧ w2 = up (up w 20 0 (w 20 1 0).toNat c) 20 1 0 (w 20 1 0 + 1))) := by
  refine mi_of (lv := [(0, .ref (gAd G 20)), (1, .int (iI c))]) (by decide) (Nat.le_of_ble_eq_true rfl) rfl ?_
  intro p_ e_ s_ m_ b_ h_ c_ X
  refine g_iload_n X dX8_write_0 rfl 1 rfl ?_
  refine g_bipush X dX8_write_1 (by decide) ?_
  refine g_bipush X dX8_write_3 (by decide) ?_
  refine g_callsi (st := []) X (c_X8_in l G c 32 126 w (by exact hc) (by first | assumption | omega | (unfold InR; omega)) (by first | assumption | omega | (unfold InR; omega))) cm_X8_in sm_X8_in ml_X8_61 ⟨Nat.le_of_ble_eq_true rfl, Nat.le_of_ble_eq_true rfl⟩ rfl rfl (Nat.le_of_ble_eq_true rfl) dX8_write_5 (fn_i ?_)
  refine g_if_ne (tgt := 13) X dX8_write_8 (by decide) (by exact in01) (fun c_8 => ?_) (fun c_8 => ?_)
  · skip
    refine g_aload_n X dX8_write_13 rfl 0 rfl ?_
    refine g_geti X ck_X8 FM 1 (by decide) fl_X8_58 (Or.inl rfl) dX8_write_14 ?_
    refine g_sipush X dX8_write_17 (by decide) ?_
    refine g_icmp_ne (tgt := 26) X dX8_write_20 (by decide) (by unfold InR; omega) ⟨by decide, by decide⟩ (fun c_20 => ?_) (fun c_20 => ?_)
    · skip
      refine g_aload_n X dX8_write_26 rfl 0 rfl ?_
      refine g_geta X ck_X8 FM 0 (by decide) fl_X8_7 rfl dX8_write_27 ?_
      refine g_aload_n X dX8_write_30 rfl 0 rfl ?_
      refine g_geti X ck_X8 FM 1 (by decide) fl_X8_58 (Or.inl rfl) dX8_write_31 ?_
      refine g_iload_n X dX8_write_34 rfl 1 rfl ?_
      refine h_iast (a := w 20 1 0) (j := (w 20 1 0).toNat) X rfl FM (by decide) (show fkX 8 0 = (1, 200) from rfl) (by decide) (by omega) (by omega) dX8_write_35 ?_
      obtain ⟨w_1, ew_1⟩ : ∃ q_ : Wd, q_ = up w 20 0 (w 20 1 0).toNat c := ⟨_, rfl⟩
      refine g_w (w' := w_1) ew_1 ?_
      refine g_aload_n X dX8_write_36 rfl 0 rfl ?_
      refine g_dup X dX8_write_37 rfl ?_
      refine g_geti X ck_X8 FM 1 (by decide) fl_X8_58 (Or.inl rfl) dX8_write_38 ?_
      refine g_iconst X dX8_write_41 ?_
      refine g_iadd X dX8_write_42 ?_
      refine g_puti X ck_X8 FM 1 (by decide) fl_X8_58 rfl rfl rfl dX8_write_43 ?_
      obtain ⟨w_2, ew_2⟩ : ∃ q_ : Wd, q_ = up w_1 20 1 0 ((w_1 20 1 0) + 1) := ⟨_, rfl⟩
      refine g_w (w' := w_2) ew_2 ?_
      refine g_aload_n X dX8_write_46 rfl 0 rfl ?_
      refine g_geti X ck_X8 FM 1 (by decide) fl_X8_58 (Or.inl rfl) dX8_write_47 ?_
      exact g_iret X rfl rfl dX8_write_50 (by
          have := of_one c_8
          refine Or.inr (Or.inr ⟨by omega, by omega, by omega, ?_, ?_⟩)
          · rw [ew_2, ew_1, up_at, up_ne (fun z => absurd z.2.1 (by decide))]
          · rw [ew_2, ew_1, up_ne (fun z => absurd z.2.1 (by decide))])
    · skip
      refine g_bipush X dX8_write_23 (by decide) ?_
      exact g_iret X rfl rfl dX8_write_25 (by have := of_one c_8; exact Or.inr (Or.inl ⟨by omega, by omega, by omega, rfl, rfl⟩))
  · skip
    refine g_iconst X dX8_write_11 ?_
    exact g_iret X rfl rfl dX8_write_12 (by have := of_zero (Classical.not_not.mp c_8); exact Or.inl ⟨by omega, rfl, rfl⟩)
set_option maxHeartbeats 4000000 in
set_option maxRecDepth 100000 in
theorem c_X8_wipe (l : Launch) (G : Ly) (t : Nat → Int) (w : Wd) (FM : gOb G 20 = some 8) (ht : ∀ j : Nat, (j : Int) < w 20 1 0 → w 20 0 j = t j) (hL : 0 ≤ w 20 1 0 ∧ w 20 1 0 ≤ 200) (htr : ∀ j : Nat, j < 200 → 0 ≤ t j ∧ t j ≤ 126) : Mi l yX8_wipe cX8_wipe 2 (some .int) 0 0 G [.ref (gAd G 20)] w (fun z w2 => z = (w 20 1 0) ∧ w2 = up w 20 1 0 0) := by
  refine mi_of (lv := [(0, .ref (gAd G 20))]) (by decide) (Nat.le_of_ble_eq_true rfl) rfl ?_
  intro p_ e_ s_ m_ b_ h_ c_ X
  refine g_aload_n X dX8_wipe_0 rfl 0 rfl ?_
  refine g_geti X ck_X8 FM 1 (by decide) fl_X8_58 (Or.inl rfl) dX8_wipe_1 ?_
  refine g_istore_n (lv' := [(1, .int (iI (w 20 1 0))), (0, .ref (gAd G 20))]) X dX8_wipe_4 rfl (by decide) rfl ?_
  refine g_aload_n X dX8_wipe_5 rfl 1 rfl ?_
  refine g_iconst X dX8_wipe_6 ?_
  refine g_puti X ck_X8 FM 1 (by decide) fl_X8_58 rfl rfl rfl dX8_wipe_7 ?_
  obtain ⟨w_1, ew_1⟩ : ∃ q_ : Wd, q_ = up w 20 1 0 0 := ⟨_, rfl⟩
  refine g_w (w' := w_1) ew_1 ?_
  refine g_iload_n X dX8_wipe_10 rfl 0 rfl ?_
  exact g_iret X rfl rfl dX8_wipe_11 (by exact ⟨rfl, ew_1⟩)
set_option maxHeartbeats 4000000 in
set_option maxRecDepth 100000 in
theorem c_X8_readNumbers (l : Launch) (G : Ly) (n : Int) (t : Nat → Int) (w : Wd) (FM : gOb G 20 = some 8) (ht : ∀ j : Nat, (j : Int) < w 20 1 0 → w 20 0 j = t j) (hL : 0 ≤ w 20 1 0 ∧ w 20 1 0 ≤ 200) (htr : ∀ j : Nat, j < 200 → 0 ≤ t j ∧ t j ≤ 126) (hat : 0 ≤ w 20 2 0 ∧ w 20 2 0 ≤ w 20 1 0) (hn : 1 ≤ n ∧ n ≤ 6) (h9 : ∀ j : Nat, j < 6 → 0 ≤ w 20 9 j ∧ w 20 9 j ≤ 99) : Mi l yX8_readNumbers cX8_readNumbers 5 (some .boolean) 2 42 G [.ref (gAd G 20), .int (iI n)] w (fun z w2 => (∀ o f, ¬ (o = 20 ∧ (f = 2 ∨ f = 9)) → w2 o f = w o f) ∧ (0 ≤ w2 20 2 0 ∧ w2 20 2 0 ≤ w 20 1 0) ∧ (∀ j : Nat, j < 6 → 0 ≤ w2 20 9 j ∧ w2 20 9 j ≤ 99) ∧ ((z = 1 ∧ rqX t (w 20 1 0) n.toNat (fun _ => 0) (fun _ => 99) (w 20 2 0) n.toNat ≠ -4 ∧ w2 20 2 0 = rqX t (w 20 1 0) n.toNat (fun _ => 0) (fun _ => 99) (w 20 2 0) n.toNat ∧ ∀ k : Nat, (k : Int) < n → w2 20 9 k = nvX t (w 20 1 0) (rqX t (w 20 1 0) n.toNat (fun _ => 0) (fun _ => 99) (w 20 2 0) k)) ∨ (z = 0 ∧ rqX t (w 20 1 0) n.toNat (fun _ => 0) (fun _ => 99) (w 20 2 0) n.toNat = -4))) := by
  refine mi_of (lv := [(0, .ref (gAd G 20)), (1, .int (iI n))]) (by decide) (Nat.le_of_ble_eq_true rfl) rfl ?_
  intro p_ e_ s_ m_ b_ h_ c_ X
  refine g_iconst X dX8_readNumbers_0 ?_
  refine g_istore_n (lv' := [(2, .int (iI 0)), (0, .ref (gAd G 20)), (1, .int (iI n))]) X dX8_readNumbers_1 rfl (by decide) rfl ?_
  refine g_lv (lv' := [(0, .ref (gAd G 20)), (1, .int (iI n)), (2, .int (iI 0))]) [1, 2, 0] rfl ?_
  refine g_loop2 (fun (k : Int) (w1 : Wd) => [(0, .ref (gAd G 20)), (1, .int (iI n)), (2, .int (iI k))]) (fun (k : Int) (w1 : Wd) => w1) (fun (k : Int) (w1 : Wd) => (0 ≤ k) ∧ (k ≤ n) ∧ ((rqX t (w 20 1 0) n.toNat (fun _ => 0) (fun _ => 99) (w 20 2 0) k.toNat) ≠ -4) ∧ (w1 20 2 0 = (rqX t (w 20 1 0) n.toNat (fun _ => 0) (fun _ => 99) (w 20 2 0) k.toNat)) ∧ (0 ≤ w1 20 2 0 ∧ w1 20 2 0 ≤ w 20 1 0) ∧ (∀ o f, ¬ (o = 20 ∧ (f = 2 ∨ f = 9)) → w1 o f = w o f) ∧ (∀ j : Nat, (j : Int) < k → w1 20 9 j = nvX t (w 20 1 0) (rqX t (w 20 1 0) n.toNat (fun _ => 0) (fun _ => 99) (w 20 2 0) j)) ∧ (∀ j : Nat, j < 6 → 0 ≤ w1 20 9 j ∧ w1 20 9 j ≤ 99)) (fun (k : Int) (w1 : Wd) => (n - k).toNat) 0 w ⟨(by first | omega | rfl | assumption), (by first | omega | rfl | assumption), (by show w 20 2 0 ≠ -4; omega), (by rfl), (by first | omega | rfl | assumption), (by intro _ _ _; rfl), (by intro j hj; omega), (by first | omega | rfl | assumption)⟩ ?_
  intro k w1 hI_2 ih_2
  obtain ⟨h0, h1, hne, h2, h2r, hfr, hv, h91⟩ := hI_2
  try dsimp only at ih_2 ⊢
  refine g_iload_n X dX8_readNumbers_2 rfl 2 rfl ?_
  refine g_iload_n X dX8_readNumbers_3 rfl 1 rfl ?_
  refine g_icmp_ge (tgt := 136) X dX8_readNumbers_4 (by decide) (by unfold InR; omega) (by unfold InR; omega) (fun c_4 => ?_) (fun c_4 => ?_)
  · skip
    refine g_iconst X dX8_readNumbers_136 ?_
    exact g_iret X rfl (by decide) dX8_readNumbers_137 (by
        have hkn : k = n := by omega
        rw [hkn] at hne h2 hv
        exact ⟨hfr, h2r, h91, Or.inl ⟨rfl, hne, h2, hv⟩⟩)
  · skip
    have hstep := rqX_s t (w 20 1 0) n.toNat (fun _ => 0) (fun _ => 99) (w 20 2 0) k.toNat
    rw [if_neg hne, ← h2] at hstep
    have q1 : w1 20 1 0 = w 20 1 0 := by rw [hfr 20 1 (by decide)]
    have q0 : w1 20 0 = w 20 0 := hfr 20 0 (by decide)
    refine g_aload_n X dX8_readNumbers_7 rfl 0 rfl ?_
    refine g_geti X ck_X8 FM 2 (by decide) fl_X8_55 (Or.inl rfl) dX8_readNumbers_8 ?_
    refine g_istore_n (lv' := [(3, .int (iI (w1 20 2 0))), (0, .ref (gAd G 20)), (1, .int (iI n)), (2, .int (iI k))]) X dX8_readNumbers_11 rfl (by decide) rfl ?_
    refine g_iconst X dX8_readNumbers_12 ?_
    refine g_istore (lv' := [(4, .int (iI 0)), (3, .int (iI (w1 20 2 0))), (0, .ref (gAd G 20)), (1, .int (iI n)), (2, .int (iI k))]) X dX8_readNumbers_13 (by decide) rfl ?_
    refine g_lv (lv' := [(0, .ref (gAd G 20)), (1, .int (iI n)), (2, .int (iI k)), (3, .int (iI (w1 20 2 0))), (4, .int (iI 0))]) [2, 3, 4, 1, 0] rfl ?_
    refine g_loop2 (fun (v : Int) (w3 : Wd) => [(0, .ref (gAd G 20)), (1, .int (iI n)), (2, .int (iI k)), (3, .int (iI (w1 20 2 0))), (4, .int (iI v))]) (fun (v : Int) (w3 : Wd) => w3) (fun (v : Int) (w3 : Wd) => ((w3 20 2 0 = w1 20 2 0 ∧ v = 0) ∨ (w3 20 2 0 = w1 20 2 0 + 1 ∧ figX t (w 20 1 0) (w1 20 2 0) ∧ v = ltX t (w 20 1 0) (w1 20 2 0) - 48) ∨ (w3 20 2 0 = w1 20 2 0 + 2 ∧ figX t (w 20 1 0) (w1 20 2 0) ∧ figX t (w 20 1 0) (w1 20 2 0 + 1) ∧ v = (ltX t (w 20 1 0) (w1 20 2 0) - 48) * 10 + ltX t (w 20 1 0) (w1 20 2 0 + 1) - 48)) ∧ (∀ o f, ¬ (o = 20 ∧ f = 2) → w3 o f = w1 o f) ∧ (0 ≤ w3 20 2 0 ∧ w3 20 2 0 ≤ w 20 1 0)) (fun (v : Int) (w3 : Wd) => (w1 20 2 0 + 3 - w3 20 2 0).toNat) 0 w1 ⟨(by exact Or.inl ⟨rfl, rfl⟩), (by intro _ _ _; rfl), (by first | omega | rfl | assumption)⟩ ?_
    intro v w3 hI_15 ih_15
    obtain ⟨g3, gfr, gr⟩ := hI_15
    try dsimp only at ih_15 ⊢
    have e1 : w3 20 1 0 = w 20 1 0 := by rw [gfr 20 1 (by decide)]; exact q1
    have e0 : w3 20 0 = w 20 0 := by rw [gfr 20 0 (by decide)]; exact q0
    have figr : ∀ p, figX t (w 20 1 0) p → 48 ≤ ltX t (w 20 1 0) p ∧ ltX t (w 20 1 0) p ≤ 57 := fun p h => h
    have ltn : ∀ p, w 20 1 0 ≤ p → ltX t (w 20 1 0) p = 32 := fun p h => by unfold ltX; rw [if_neg (by omega)]
    have lti : ∀ p, 0 ≤ p → p < w 20 1 0 → ltX t (w 20 1 0) p = w 20 0 p.toNat := fun p a b => by unfold ltX; rw [if_pos ⟨a, b⟩, ht _ (by omega)]
    refine g_aload_n X dX8_readNumbers_15 rfl 0 rfl ?_
    refine g_calli (st := []) X (c_X8_isFigure l G t w3 FM (by rw [e1, e0]; exact ht) (by rw [e1]; exact hL) (by first | assumption | omega | (unfold InR; omega)) (by rw [e1]; exact gr)) cm_X8_isFigure im_X8_isFigure se_X8_isFigure ml_X8_65 ck_X8 FM ⟨Nat.le_of_ble_eq_true rfl, Nat.le_of_ble_eq_true rfl⟩ rfl rfl (Nat.le_of_ble_eq_true rfl) dX8_readNumbers_16 (fn_i ?_)
    refine g_if_eq (tgt := 65) X dX8_readNumbers_19 (by decide) (by exact in01) (fun c_19 => ?_) (fun c_19 => ?_)
    · skip
      have hx : (w3 20 2 0 = w1 20 2 0 ∧ ¬ figX t (w 20 1 0) (w1 20 2 0)) ∨ (figX t (w 20 1 0) (w1 20 2 0) ∧ w3 20 2 0 = neX t (w 20 1 0) (w1 20 2 0) ∧ v = nvX t (w 20 1 0) (w1 20 2 0)) := by
        rw [e1] at c_19
        rcases g3 with q | q | q
        · first
          | (rw [q.1] at c_19; exact Or.inl ⟨q.1, of_zero c_19⟩)
          | omega
        · first
          | (have hz := of_zero c_19
             rw [q.1] at hz
             exact Or.inr ⟨q.2.1, by unfold neX; rw [if_neg hz]; exact q.1, by unfold nvX; rw [if_neg hz]; exact q.2.2⟩)
          | omega
        · exact Or.inr ⟨q.2.1, by unfold neX; rw [if_pos q.2.2.1]; exact q.1, by unfold nvX; rw [if_pos q.2.2.1]; exact q.2.2.2⟩
      have hneb : neX t (w 20 1 0) (w1 20 2 0) = w1 20 2 0 + 1 ∨ neX t (w 20 1 0) (w1 20 2 0) = w1 20 2 0 + 2 := by unfold neX; split <;> omega
      have hsep := sepX_in n.toNat k.toNat
      have hfr3 : ∀ o f, ¬ (o = 20 ∧ (f = 2 ∨ f = 9)) → w3 o f = w o f := fun o f h => by rw [gfr o f (fun z => h ⟨z.1, Or.inl z.2⟩)]; exact hfr o f h
      have h93 : w3 20 9 = w1 20 9 := gfr 20 9 (by decide)
      refine g_aload_n X dX8_readNumbers_65 rfl 0 rfl ?_
      refine g_geti X ck_X8 FM 2 (by decide) fl_X8_55 (Or.inl rfl) dX8_readNumbers_66 ?_
      refine g_iload_n X dX8_readNumbers_69 rfl 3 rfl ?_
      refine g_icmp_eq (tgt := 110) X dX8_readNumbers_70 (by decide) (by unfold InR; omega) (by unfold InR; omega) (fun c_70 => ?_) (fun c_70 => ?_)
      · skip
        refine g_iconst X dX8_readNumbers_110 ?_
        exact g_iret X rfl (by decide) dX8_readNumbers_111 (by
            have hdead : rqX t (w 20 1 0) n.toNat (fun _ => 0) (fun _ => 99) (w 20 2 0) (k.toNat + 1) = -4 := by
              rw [hstep]
              refine if_neg (fun h => ?_)
              rcases hx with q | q
              · exact q.2 h.1
              · have h2 := h.2.1
                rw [← q.2.1] at h2
                first
                | omega
                | (rw [c_81, e1, ltn _ (Int.le_refl _)] at h2; omega)
                | (rw [lti _ gr.1 (by omega), ← e0] at h2; exact c_107 (by rw [hsg]; exact h2))
            have hd := rqX_dead (k.toNat + 1) hdead (n.toNat - (k.toNat + 1))
            rw [show k.toNat + 1 + (n.toNat - (k.toNat + 1)) = n.toNat by omega] at hd
            exact ⟨hfr3, gr, by rw [h93]; exact h91, Or.inr ⟨rfl, hd⟩⟩)
      · skip
        refine g_aload_n X dX8_readNumbers_73 rfl 0 rfl ?_
        refine g_geti X ck_X8 FM 2 (by decide) fl_X8_55 (Or.inl rfl) dX8_readNumbers_74 ?_
        refine g_aload_n X dX8_readNumbers_77 rfl 0 rfl ?_
        refine g_geti X ck_X8 FM 1 (by decide) fl_X8_58 (Or.inl rfl) dX8_readNumbers_78 ?_
        refine g_icmp_eq (tgt := 110) X dX8_readNumbers_81 (by decide) (by unfold InR; omega) (by unfold InR; omega) (fun c_81 => ?_) (fun c_81 => ?_)
        · skip
          refine g_iconst X dX8_readNumbers_110 ?_
          exact g_iret X rfl (by decide) dX8_readNumbers_111 (by
              have hdead : rqX t (w 20 1 0) n.toNat (fun _ => 0) (fun _ => 99) (w 20 2 0) (k.toNat + 1) = -4 := by
                rw [hstep]
                refine if_neg (fun h => ?_)
                rcases hx with q | q
                · exact q.2 h.1
                · have h2 := h.2.1
                  rw [← q.2.1] at h2
                  first
                  | omega
                  | (rw [c_81, e1, ltn _ (Int.le_refl _)] at h2; omega)
                  | (rw [lti _ gr.1 (by omega), ← e0] at h2; exact c_107 (by rw [hsg]; exact h2))
              have hd := rqX_dead (k.toNat + 1) hdead (n.toNat - (k.toNat + 1))
              rw [show k.toNat + 1 + (n.toNat - (k.toNat + 1)) = n.toNat by omega] at hd
              exact ⟨hfr3, gr, by rw [h93]; exact h91, Or.inr ⟨rfl, hd⟩⟩)
        · skip
          refine g_aload_n X dX8_readNumbers_84 rfl 0 rfl ?_
          refine g_geta X ck_X8 FM 0 (by decide) fl_X8_7 rfl dX8_readNumbers_85 ?_
          refine g_aload_n X dX8_readNumbers_88 rfl 0 rfl ?_
          refine g_geti X ck_X8 FM 2 (by decide) fl_X8_55 (Or.inl rfl) dX8_readNumbers_89 ?_
          refine h_iald (a := w3 20 2 0) (j := (w3 20 2 0).toNat) X rfl FM (by decide) (show fkX 8 0 = (1, 200) from rfl) (by decide) (by omega) (by omega) dX8_readNumbers_92 ?_
          refine g_cut1 (pc' := 107) (fun (sg : Int) => [(0, .ref (gAd G 20)), (1, .int (iI n)), (2, .int (iI k)), (3, .int (iI (w1 20 2 0))), (4, .int (iI v))]) (fun (sg : Int) => [.int (iI sg), .int (iI (w3 20 0 (w3 20 2 0).toNat))]) (fun (sg : Int) => w3) (fun (sg : Int) => (sg = sepX n.toNat k.toNat)) ?_ ?_
          · intro sg hI_107
            have hsg := hI_107
            try dsimp only at hsg ⊢
            refine g_icmp_eq (tgt := 112) X dX8_readNumbers_107 (by decide) (by have := htr (w3 20 2 0).toNat (by omega); rw [e0, ht _ (by omega)]; unfold InR; omega) (by have := sepX_in n.toNat k.toNat; unfold InR; omega) (fun c_107 => ?_) (fun c_107 => ?_)
            · skip
              refine g_aload_n X dX8_readNumbers_112 rfl 0 rfl ?_
              refine g_geta X ck_X8 FM 9 (by decide) fl_X8_28 rfl dX8_readNumbers_113 ?_
              refine g_iload_n X dX8_readNumbers_116 rfl 2 rfl ?_
              refine g_iload X dX8_readNumbers_117 4 rfl ?_
              refine h_iast (a := k) (j := (k).toNat) X rfl FM (by decide) (show fkX 8 9 = (1, 6) from rfl) (by decide) (by omega) (by omega) dX8_readNumbers_119 ?_
              obtain ⟨w_1, ew_1⟩ : ∃ q_ : Wd, q_ = up w3 20 9 (k).toNat v := ⟨_, rfl⟩
              refine g_w (w' := w_1) ew_1 ?_
              refine g_aload_n X dX8_readNumbers_120 rfl 0 rfl ?_
              refine g_dup X dX8_readNumbers_121 rfl ?_
              refine g_geti X ck_X8 FM 2 (by decide) fl_X8_55 (Or.inl rfl) dX8_readNumbers_122 ?_
              refine g_iconst X dX8_readNumbers_125 ?_
              refine g_iadd X dX8_readNumbers_126 ?_
              refine g_puti X ck_X8 FM 2 (by decide) fl_X8_55 rfl rfl rfl dX8_readNumbers_127 ?_
              obtain ⟨w_2, ew_2⟩ : ∃ q_ : Wd, q_ = up w_1 20 2 0 ((w_1 20 2 0) + 1) := ⟨_, rfl⟩
              refine g_w (w' := w_2) ew_2 ?_
              refine g_iinc (j := 2) (lv' := [(2, .int (iI (k + 1))), (0, .ref (gAd G 20)), (1, .int (iI n)), (3, .int (iI (w1 20 2 0))), (4, .int (iI v))]) X dX8_readNumbers_130 rfl (by decide) rfl ?_
              refine g_goto (tgt := 2) X dX8_readNumbers_133 (by decide) ?_
              refine g_lv (lv' := [(0, .ref (gAd G 20)), (1, .int (iI n)), (2, .int (iI (k + 1)))]) [1, 2, 0] rfl ?_
              exact ih_2 (k + 1) w_2 ⟨(by first | omega | rfl | assumption), (by first | omega | rfl | assumption), (by
                  rw [show (k + 1).toNat = k.toNat + 1 by omega]
                  rcases hx with q | q
                  · exact absurd q.1 c_70
                  · rw [hstep, if_pos ⟨q.1, by rw [← q.2.1, lti _ gr.1 (by omega), ← e0, ← hsg]; exact c_107, (nvX_in q.1).1, (nvX_in q.1).2⟩]; omega), (by
                  rw [show (k + 1).toNat = k.toNat + 1 by omega]
                  rcases hx with q | q
                  · exact absurd q.1 c_70
                  · rw [hstep, if_pos ⟨q.1, by rw [← q.2.1, lti _ gr.1 (by omega), ← e0, ← hsg]; exact c_107, (nvX_in q.1).1, (nvX_in q.1).2⟩, ew_2, ew_1, up_at, up_ne (fun z => absurd z.2.1 (by decide)), q.2.1]), (by rw [ew_2, ew_1, up_at, up_ne (fun z => absurd z.2.1 (by decide))]; omega), (by intro o f h; rw [ew_2, ew_1, up_fn (fun z => h ⟨z.1, Or.inl z.2⟩), up_fn (fun z => h ⟨z.1, Or.inr z.2⟩)]; exact hfr3 o f h), (by
                  intro j hj
                  rcases hx with q | q
                  · exact absurd q.1 c_70
                  · rw [ew_2, ew_1, up_ne (fun z => absurd z.2.1 (by decide))]
                    rcases Int.lt_or_le (j : Int) k with e | e
                    · rw [up_ne (by omega), h93]; exact hv j e
                    · have e2 : j = k.toNat := by omega
                      subst e2
                      rw [up_at, q.2.2, h2]), (by
                  intro j hj
                  rcases hx with q | q
                  · exact absurd q.1 c_70
                  · rw [ew_2, ew_1, up_ne (fun z => absurd z.2.1 (by decide))]
                    by_cases e : j = k.toNat
                    · subst e; rw [up_at, q.2.2]; exact nvX_in q.1
                    · rw [up_ne (fun z => e z.2.2), h93]; exact h91 j hj)⟩ (by omega)
            · skip
              refine g_iconst X dX8_readNumbers_110 ?_
              exact g_iret X rfl (by decide) dX8_readNumbers_111 (by
                  have hdead : rqX t (w 20 1 0) n.toNat (fun _ => 0) (fun _ => 99) (w 20 2 0) (k.toNat + 1) = -4 := by
                    rw [hstep]
                    refine if_neg (fun h => ?_)
                    rcases hx with q | q
                    · exact q.2 h.1
                    · have h2 := h.2.1
                      rw [← q.2.1] at h2
                      first
                      | omega
                      | (rw [c_81, e1, ltn _ (Int.le_refl _)] at h2; omega)
                      | (rw [lti _ gr.1 (by omega), ← e0] at h2; exact c_107 (by rw [hsg]; exact h2))
                  have hd := rqX_dead (k.toNat + 1) hdead (n.toNat - (k.toNat + 1))
                  rw [show k.toNat + 1 + (n.toNat - (k.toNat + 1)) = n.toNat by omega] at hd
                  exact ⟨hfr3, gr, by rw [h93]; exact h91, Or.inr ⟨rfl, hd⟩⟩)
          · intro J_107
            try dsimp only at J_107
            refine g_iload_n X dX8_readNumbers_93 rfl 2 rfl ?_
            refine g_iconst X dX8_readNumbers_94 ?_
            refine g_iadd X dX8_readNumbers_95 ?_
            refine g_iload_n X dX8_readNumbers_96 rfl 1 rfl ?_
            refine g_icmp_ne (tgt := 105) X dX8_readNumbers_97 (by decide) (by unfold InR; omega) (by unfold InR; omega) (fun c_97 => ?_) (fun c_97 => ?_)
            · skip
              refine g_bipush X dX8_readNumbers_105 (by decide) ?_
              refine g_lv (lv' := [(0, .ref (gAd G 20)), (1, .int (iI n)), (2, .int (iI k)), (3, .int (iI (w1 20 2 0))), (4, .int (iI v))]) [0, 1, 2, 3, 4] rfl ?_
              exact J_107 44 (by unfold sepX; first | exact (if_neg (by omega)).symm | exact (if_pos (by omega)).symm)
            · skip
              refine g_bipush X dX8_readNumbers_100 (by decide) ?_
              refine g_goto (tgt := 107) X dX8_readNumbers_102 (by decide) ?_
              refine g_lv (lv' := [(0, .ref (gAd G 20)), (1, .int (iI n)), (2, .int (iI k)), (3, .int (iI (w1 20 2 0))), (4, .int (iI v))]) [0, 1, 2, 3, 4] rfl ?_
              exact J_107 59 (by unfold sepX; first | exact (if_neg (by omega)).symm | exact (if_pos (by omega)).symm)
    · skip
      refine g_aload_n X dX8_readNumbers_22 rfl 0 rfl ?_
      refine g_geti X ck_X8 FM 2 (by decide) fl_X8_55 (Or.inl rfl) dX8_readNumbers_23 ?_
      refine g_iload_n X dX8_readNumbers_26 rfl 3 rfl ?_
      refine g_iconst X dX8_readNumbers_27 ?_
      refine g_iadd X dX8_readNumbers_28 ?_
      refine g_icmp_ge (tgt := 65) X dX8_readNumbers_29 (by decide) (by unfold InR; omega) (by unfold InR; omega) (fun c_29 => ?_) (fun c_29 => ?_)
      · skip
        have hx : (w3 20 2 0 = w1 20 2 0 ∧ ¬ figX t (w 20 1 0) (w1 20 2 0)) ∨ (figX t (w 20 1 0) (w1 20 2 0) ∧ w3 20 2 0 = neX t (w 20 1 0) (w1 20 2 0) ∧ v = nvX t (w 20 1 0) (w1 20 2 0)) := by
          rw [e1] at c_19
          rcases g3 with q | q | q
          · first
            | (rw [q.1] at c_19; exact Or.inl ⟨q.1, of_zero c_19⟩)
            | omega
          · first
            | (have hz := of_zero c_19
               rw [q.1] at hz
               exact Or.inr ⟨q.2.1, by unfold neX; rw [if_neg hz]; exact q.1, by unfold nvX; rw [if_neg hz]; exact q.2.2⟩)
            | omega
          · exact Or.inr ⟨q.2.1, by unfold neX; rw [if_pos q.2.2.1]; exact q.1, by unfold nvX; rw [if_pos q.2.2.1]; exact q.2.2.2⟩
        have hneb : neX t (w 20 1 0) (w1 20 2 0) = w1 20 2 0 + 1 ∨ neX t (w 20 1 0) (w1 20 2 0) = w1 20 2 0 + 2 := by unfold neX; split <;> omega
        have hsep := sepX_in n.toNat k.toNat
        have hfr3 : ∀ o f, ¬ (o = 20 ∧ (f = 2 ∨ f = 9)) → w3 o f = w o f := fun o f h => by rw [gfr o f (fun z => h ⟨z.1, Or.inl z.2⟩)]; exact hfr o f h
        have h93 : w3 20 9 = w1 20 9 := gfr 20 9 (by decide)
        refine g_aload_n X dX8_readNumbers_65 rfl 0 rfl ?_
        refine g_geti X ck_X8 FM 2 (by decide) fl_X8_55 (Or.inl rfl) dX8_readNumbers_66 ?_
        refine g_iload_n X dX8_readNumbers_69 rfl 3 rfl ?_
        refine g_icmp_eq (tgt := 110) X dX8_readNumbers_70 (by decide) (by unfold InR; omega) (by unfold InR; omega) (fun c_70 => ?_) (fun c_70 => ?_)
        · skip
          refine g_iconst X dX8_readNumbers_110 ?_
          exact g_iret X rfl (by decide) dX8_readNumbers_111 (by
              have hdead : rqX t (w 20 1 0) n.toNat (fun _ => 0) (fun _ => 99) (w 20 2 0) (k.toNat + 1) = -4 := by
                rw [hstep]
                refine if_neg (fun h => ?_)
                rcases hx with q | q
                · exact q.2 h.1
                · have h2 := h.2.1
                  rw [← q.2.1] at h2
                  first
                  | omega
                  | (rw [c_81, e1, ltn _ (Int.le_refl _)] at h2; omega)
                  | (rw [lti _ gr.1 (by omega), ← e0] at h2; exact c_107 (by rw [hsg]; exact h2))
              have hd := rqX_dead (k.toNat + 1) hdead (n.toNat - (k.toNat + 1))
              rw [show k.toNat + 1 + (n.toNat - (k.toNat + 1)) = n.toNat by omega] at hd
              exact ⟨hfr3, gr, by rw [h93]; exact h91, Or.inr ⟨rfl, hd⟩⟩)
        · skip
          refine g_aload_n X dX8_readNumbers_73 rfl 0 rfl ?_
          refine g_geti X ck_X8 FM 2 (by decide) fl_X8_55 (Or.inl rfl) dX8_readNumbers_74 ?_
          refine g_aload_n X dX8_readNumbers_77 rfl 0 rfl ?_
          refine g_geti X ck_X8 FM 1 (by decide) fl_X8_58 (Or.inl rfl) dX8_readNumbers_78 ?_
          refine g_icmp_eq (tgt := 110) X dX8_readNumbers_81 (by decide) (by unfold InR; omega) (by unfold InR; omega) (fun c_81 => ?_) (fun c_81 => ?_)
          · skip
            refine g_iconst X dX8_readNumbers_110 ?_
            exact g_iret X rfl (by decide) dX8_readNumbers_111 (by
                have hdead : rqX t (w 20 1 0) n.toNat (fun _ => 0) (fun _ => 99) (w 20 2 0) (k.toNat + 1) = -4 := by
                  rw [hstep]
                  refine if_neg (fun h => ?_)
                  rcases hx with q | q
                  · exact q.2 h.1
                  · have h2 := h.2.1
                    rw [← q.2.1] at h2
                    first
                    | omega
                    | (rw [c_81, e1, ltn _ (Int.le_refl _)] at h2; omega)
                    | (rw [lti _ gr.1 (by omega), ← e0] at h2; exact c_107 (by rw [hsg]; exact h2))
                have hd := rqX_dead (k.toNat + 1) hdead (n.toNat - (k.toNat + 1))
                rw [show k.toNat + 1 + (n.toNat - (k.toNat + 1)) = n.toNat by omega] at hd
                exact ⟨hfr3, gr, by rw [h93]; exact h91, Or.inr ⟨rfl, hd⟩⟩)
          · skip
            refine g_aload_n X dX8_readNumbers_84 rfl 0 rfl ?_
            refine g_geta X ck_X8 FM 0 (by decide) fl_X8_7 rfl dX8_readNumbers_85 ?_
            refine g_aload_n X dX8_readNumbers_88 rfl 0 rfl ?_
            refine g_geti X ck_X8 FM 2 (by decide) fl_X8_55 (Or.inl rfl) dX8_readNumbers_89 ?_
            refine h_iald (a := w3 20 2 0) (j := (w3 20 2 0).toNat) X rfl FM (by decide) (show fkX 8 0 = (1, 200) from rfl) (by decide) (by omega) (by omega) dX8_readNumbers_92 ?_
            refine g_cut1 (pc' := 107) (fun (sg : Int) => [(0, .ref (gAd G 20)), (1, .int (iI n)), (2, .int (iI k)), (3, .int (iI (w1 20 2 0))), (4, .int (iI v))]) (fun (sg : Int) => [.int (iI sg), .int (iI (w3 20 0 (w3 20 2 0).toNat))]) (fun (sg : Int) => w3) (fun (sg : Int) => (sg = sepX n.toNat k.toNat)) ?_ ?_
            · intro sg hI_107
              have hsg := hI_107
              try dsimp only at hsg ⊢
              refine g_icmp_eq (tgt := 112) X dX8_readNumbers_107 (by decide) (by have := htr (w3 20 2 0).toNat (by omega); rw [e0, ht _ (by omega)]; unfold InR; omega) (by have := sepX_in n.toNat k.toNat; unfold InR; omega) (fun c_107 => ?_) (fun c_107 => ?_)
              · skip
                refine g_aload_n X dX8_readNumbers_112 rfl 0 rfl ?_
                refine g_geta X ck_X8 FM 9 (by decide) fl_X8_28 rfl dX8_readNumbers_113 ?_
                refine g_iload_n X dX8_readNumbers_116 rfl 2 rfl ?_
                refine g_iload X dX8_readNumbers_117 4 rfl ?_
                refine h_iast (a := k) (j := (k).toNat) X rfl FM (by decide) (show fkX 8 9 = (1, 6) from rfl) (by decide) (by omega) (by omega) dX8_readNumbers_119 ?_
                obtain ⟨w_3, ew_3⟩ : ∃ q_ : Wd, q_ = up w3 20 9 (k).toNat v := ⟨_, rfl⟩
                refine g_w (w' := w_3) ew_3 ?_
                refine g_aload_n X dX8_readNumbers_120 rfl 0 rfl ?_
                refine g_dup X dX8_readNumbers_121 rfl ?_
                refine g_geti X ck_X8 FM 2 (by decide) fl_X8_55 (Or.inl rfl) dX8_readNumbers_122 ?_
                refine g_iconst X dX8_readNumbers_125 ?_
                refine g_iadd X dX8_readNumbers_126 ?_
                refine g_puti X ck_X8 FM 2 (by decide) fl_X8_55 rfl rfl rfl dX8_readNumbers_127 ?_
                obtain ⟨w_4, ew_4⟩ : ∃ q_ : Wd, q_ = up w_3 20 2 0 ((w_3 20 2 0) + 1) := ⟨_, rfl⟩
                refine g_w (w' := w_4) ew_4 ?_
                refine g_iinc (j := 2) (lv' := [(2, .int (iI (k + 1))), (0, .ref (gAd G 20)), (1, .int (iI n)), (3, .int (iI (w1 20 2 0))), (4, .int (iI v))]) X dX8_readNumbers_130 rfl (by decide) rfl ?_
                refine g_goto (tgt := 2) X dX8_readNumbers_133 (by decide) ?_
                refine g_lv (lv' := [(0, .ref (gAd G 20)), (1, .int (iI n)), (2, .int (iI (k + 1)))]) [1, 2, 0] rfl ?_
                exact ih_2 (k + 1) w_4 ⟨(by first | omega | rfl | assumption), (by first | omega | rfl | assumption), (by
                    rw [show (k + 1).toNat = k.toNat + 1 by omega]
                    rcases hx with q | q
                    · exact absurd q.1 c_70
                    · rw [hstep, if_pos ⟨q.1, by rw [← q.2.1, lti _ gr.1 (by omega), ← e0, ← hsg]; exact c_107, (nvX_in q.1).1, (nvX_in q.1).2⟩]; omega), (by
                    rw [show (k + 1).toNat = k.toNat + 1 by omega]
                    rcases hx with q | q
                    · exact absurd q.1 c_70
                    · rw [hstep, if_pos ⟨q.1, by rw [← q.2.1, lti _ gr.1 (by omega), ← e0, ← hsg]; exact c_107, (nvX_in q.1).1, (nvX_in q.1).2⟩, ew_4, ew_3, up_at, up_ne (fun z => absurd z.2.1 (by decide)), q.2.1]), (by rw [ew_4, ew_3, up_at, up_ne (fun z => absurd z.2.1 (by decide))]; omega), (by intro o f h; rw [ew_4, ew_3, up_fn (fun z => h ⟨z.1, Or.inl z.2⟩), up_fn (fun z => h ⟨z.1, Or.inr z.2⟩)]; exact hfr3 o f h), (by
                    intro j hj
                    rcases hx with q | q
                    · exact absurd q.1 c_70
                    · rw [ew_4, ew_3, up_ne (fun z => absurd z.2.1 (by decide))]
                      rcases Int.lt_or_le (j : Int) k with e | e
                      · rw [up_ne (by omega), h93]; exact hv j e
                      · have e2 : j = k.toNat := by omega
                        subst e2
                        rw [up_at, q.2.2, h2]), (by
                    intro j hj
                    rcases hx with q | q
                    · exact absurd q.1 c_70
                    · rw [ew_4, ew_3, up_ne (fun z => absurd z.2.1 (by decide))]
                      by_cases e : j = k.toNat
                      · subst e; rw [up_at, q.2.2]; exact nvX_in q.1
                      · rw [up_ne (fun z => e z.2.2), h93]; exact h91 j hj)⟩ (by omega)
              · skip
                refine g_iconst X dX8_readNumbers_110 ?_
                exact g_iret X rfl (by decide) dX8_readNumbers_111 (by
                    have hdead : rqX t (w 20 1 0) n.toNat (fun _ => 0) (fun _ => 99) (w 20 2 0) (k.toNat + 1) = -4 := by
                      rw [hstep]
                      refine if_neg (fun h => ?_)
                      rcases hx with q | q
                      · exact q.2 h.1
                      · have h2 := h.2.1
                        rw [← q.2.1] at h2
                        first
                        | omega
                        | (rw [c_81, e1, ltn _ (Int.le_refl _)] at h2; omega)
                        | (rw [lti _ gr.1 (by omega), ← e0] at h2; exact c_107 (by rw [hsg]; exact h2))
                    have hd := rqX_dead (k.toNat + 1) hdead (n.toNat - (k.toNat + 1))
                    rw [show k.toNat + 1 + (n.toNat - (k.toNat + 1)) = n.toNat by omega] at hd
                    exact ⟨hfr3, gr, by rw [h93]; exact h91, Or.inr ⟨rfl, hd⟩⟩)
            · intro J_107
              try dsimp only at J_107
              refine g_iload_n X dX8_readNumbers_93 rfl 2 rfl ?_
              refine g_iconst X dX8_readNumbers_94 ?_
              refine g_iadd X dX8_readNumbers_95 ?_
              refine g_iload_n X dX8_readNumbers_96 rfl 1 rfl ?_
              refine g_icmp_ne (tgt := 105) X dX8_readNumbers_97 (by decide) (by unfold InR; omega) (by unfold InR; omega) (fun c_97 => ?_) (fun c_97 => ?_)
              · skip
                refine g_bipush X dX8_readNumbers_105 (by decide) ?_
                refine g_lv (lv' := [(0, .ref (gAd G 20)), (1, .int (iI n)), (2, .int (iI k)), (3, .int (iI (w1 20 2 0))), (4, .int (iI v))]) [0, 1, 2, 3, 4] rfl ?_
                exact J_107 44 (by unfold sepX; first | exact (if_neg (by omega)).symm | exact (if_pos (by omega)).symm)
              · skip
                refine g_bipush X dX8_readNumbers_100 (by decide) ?_
                refine g_goto (tgt := 107) X dX8_readNumbers_102 (by decide) ?_
                refine g_lv (lv' := [(0, .ref (gAd G 20)), (1, .int (iI n)), (2, .int (iI k)), (3, .int (iI (w1 20 2 0))), (4, .int (iI v))]) [0, 1, 2, 3, 4] rfl ?_
                exact J_107 59 (by unfold sepX; first | exact (if_neg (by omega)).symm | exact (if_pos (by omega)).symm)
      · skip
        refine g_bipush X dX8_readNumbers_32 (by decide) ?_
        refine g_iload X dX8_readNumbers_34 4 rfl ?_
        refine g_imul X dX8_readNumbers_36 ?_
        refine g_aload_n X dX8_readNumbers_37 rfl 0 rfl ?_
        refine g_geta X ck_X8 FM 0 (by decide) fl_X8_7 rfl dX8_readNumbers_38 ?_
        refine g_aload_n X dX8_readNumbers_41 rfl 0 rfl ?_
        refine g_geti X ck_X8 FM 2 (by decide) fl_X8_55 (Or.inl rfl) dX8_readNumbers_42 ?_
        refine h_iald (a := w3 20 2 0) (j := (w3 20 2 0).toNat) X rfl FM (by decide) (show fkX 8 0 = (1, 200) from rfl) (by decide) (by omega) (by rw [e1] at c_19; have hf := figr _ (of_one c_19); rcases Int.lt_or_le (w3 20 2 0) (w 20 1 0) with q | q; omega; (have := ltn _ q; omega)) dX8_readNumbers_45 ?_
        refine g_iadd X dX8_readNumbers_46 ?_
        refine g_bipush X dX8_readNumbers_47 (by decide) ?_
        refine g_isub X dX8_readNumbers_49 ?_
        refine g_istore (lv' := [(4, .int (iI (((10 * v) + (w3 20 0 (w3 20 2 0).toNat)) - 48))), (0, .ref (gAd G 20)), (1, .int (iI n)), (2, .int (iI k)), (3, .int (iI (w1 20 2 0)))]) X dX8_readNumbers_50 (by decide) rfl ?_
        refine g_aload_n X dX8_readNumbers_52 rfl 1 rfl ?_
        refine g_dup X dX8_readNumbers_53 rfl ?_
        refine g_geti X ck_X8 FM 2 (by decide) fl_X8_55 (Or.inl rfl) dX8_readNumbers_54 ?_
        refine g_iconst X dX8_readNumbers_57 ?_
        refine g_iadd X dX8_readNumbers_58 ?_
        refine g_puti X ck_X8 FM 2 (by decide) fl_X8_55 rfl rfl rfl dX8_readNumbers_59 ?_
        obtain ⟨w_5, ew_5⟩ : ∃ q_ : Wd, q_ = up w3 20 2 0 ((w3 20 2 0) + 1) := ⟨_, rfl⟩
        refine g_w (w' := w_5) ew_5 ?_
        have hat1 : w_5 20 2 0 = w3 20 2 0 + 1 := by rw [ew_5, up_at]
        refine g_goto (tgt := 15) X dX8_readNumbers_62 (by decide) ?_
        refine g_lv (lv' := [(0, .ref (gAd G 20)), (1, .int (iI n)), (2, .int (iI k)), (3, .int (iI (w1 20 2 0))), (4, .int (iI (((10 * v) + (w3 20 0 (w3 20 2 0).toNat)) - 48)))]) [1, 2, 3, 4, 0] rfl ?_
        exact ih_15 (((10 * v) + (w3 20 0 (w3 20 2 0).toNat)) - 48) w_5 ⟨(by
            rw [e1] at c_19
            have hf := of_one c_19
            have hfr_ := figr _ hf
            have hin : w3 20 2 0 < w 20 1 0 := by
              rcases Int.lt_or_le (w3 20 2 0) (w 20 1 0) with q | q
              · exact q
              · have := ltn _ q; omega
            have hlt := lti _ gr.1 hin
            rw [ew_5, up_at]
            rcases g3 with q | q | q
            · rw [q.1] at hf hlt
              exact Or.inr (Or.inl ⟨by omega, hf, by rw [hlt, e0, q.1]; omega⟩)
            · rw [q.1] at hf hlt
              exact Or.inr (Or.inr ⟨by omega, q.2.1, hf, by rw [hlt, e0, q.1]; omega⟩)
            · omega), (by intro o f h; rw [ew_5, up_fn h]; exact gfr o f h), (by rw [e1] at c_19; have hf := figr _ (of_one c_19); rw [ew_5, up_at]; rcases Int.lt_or_le (w3 20 2 0) (w 20 1 0) with q | q; omega; (have := ltn _ q; omega))⟩ (by omega)
