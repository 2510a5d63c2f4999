set_option maxHeartbeats 4000000 in
set_option maxRecDepth 100000 in
theorem c_X7_bitOf (l : Launch) (G : Ly) (set : Int) (m : Int) (w : Wd) (hset : 0 ≤ set ∧ set < 64) (hm : 0 ≤ m ∧ m < 6) : Mi l yX7_bitOf cX7_bitOf 2 (some .int) 0 0 G [.int (iI set), .int (iI m)] w (fun z w2 => z = (tb set m.toNat) ∧ w2 = w) := by
  refine mi_of (lv := [(0, .int (iI set)), (1, .int (iI m))]) (by decide) (Nat.le_of_ble_eq_true rfl) rfl ?_
  intro p_ e_ s_ m_ b_ h_ c_ X
  refine g_iload_n X dX7_bitOf_0 rfl 0 rfl ?_
  refine g_iload_n X dX7_bitOf_1 rfl 1 rfl ?_
  refine g_ishr X dX7_bitOf_2 ?_
  refine g_iconst X dX7_bitOf_3 ?_
  refine g_iand X dX7_bitOf_4 ?_
  exact g_iret X rfl rfl dX7_bitOf_5 (by exact ⟨bt_shr hset.1 hset.2 hm.1 hm.2, rfl⟩)
set_option maxHeartbeats 4000000 in
set_option maxRecDepth 100000 in
theorem c_X2_sumOver1 (l : Launch) (G : Ly) (o : Nat) (set : Int) (w : Wd) (ho : gOb G o = some 2) (hset : 0 ≤ set ∧ set < 64) (hn : 0 ≤ w o 0 0 ∧ w o 0 0 ≤ 6) : Mi l yX2_sumOver cX2_sumOver 5 (some .int) 0 0 G [.ref (gAd G o), .int (iI set), .ref (gAr G o 1)] w (fun z w2 => z = (sumB set (w o 1) (w o 0 0).toNat) ∧ w2 = w) := by
  refine mi_of (lv := [(0, .ref (gAd G o)), (1, .int (iI set)), (2, .ref (gAr G o 1))]) (by decide) (Nat.le_of_ble_eq_true rfl) rfl ?_
  intro p_ e_ s_ m_ b_ h_ c_ X
  refine g_iconst X dX2_sumOver_0 ?_
  refine g_istore_n (lv' := [(3, .int (iI 0)), (0, .ref (gAd G o)), (1, .int (iI set)), (2, .ref (gAr G o 1))]) X dX2_sumOver_1 rfl (by decide) rfl ?_
  refine g_iconst X dX2_sumOver_2 ?_
  refine g_istore (lv' := [(4, .int (iI 0)), (3, .int (iI 0)), (0, .ref (gAd G o)), (1, .int (iI set)), (2, .ref (gAr G o 1))]) X dX2_sumOver_3 (by decide) rfl ?_
  refine g_lv (lv' := [(0, .ref (gAd G o)), (1, .int (iI set)), (2, .ref (gAr G o 1)), (3, .int (iI 0)), (4, .int (iI 0))]) [2, 3, 4, 1, 0] rfl ?_
  refine g_loop2 (fun (sum : Int) (k : Int) => [(0, .ref (gAd G o)), (1, .int (iI set)), (2, .ref (gAr G o 1)), (3, .int (iI sum)), (4, .int (iI k))]) (fun (sum : Int) (k : Int) => w) (fun (sum : Int) (k : Int) => (0 ≤ k) ∧ (k ≤ w o 0 0) ∧ (sum = sumB set (w o 1) k.toNat)) (fun (sum : Int) (k : Int) => (w o 0 0 - k).toNat) 0 0 ⟨(by first | omega | rfl | assumption), (by first | omega | rfl | assumption), (by first | omega | rfl | assumption)⟩ ?_
  intro sum k hI_5 ih_5
  obtain ⟨h0, h1, hs⟩ := hI_5
  try dsimp only at ih_5 ⊢
  refine g_iload X dX2_sumOver_5 4 rfl ?_
  refine g_aload_n X dX2_sumOver_7 rfl 0 rfl ?_
  refine g_geti X ck_X2 ho 0 (by decide) fl_X2_30 (Or.inl rfl) dX2_sumOver_8 ?_
  refine g_icmp_ge (tgt := 43) X dX2_sumOver_11 (by decide) (by unfold InR; omega) (by unfold InR; omega) (fun c_11 => ?_) (fun c_11 => ?_)
  · skip
    refine g_iload_n X dX2_sumOver_43 rfl 3 rfl ?_
    exact g_iret X rfl rfl dX2_sumOver_44 (by exact ⟨by rw [hs, show k = w o 0 0 by omega], rfl⟩)
  · skip
    refine g_iload X dX2_sumOver_14 4 rfl ?_
    refine g_aload_n X dX2_sumOver_16 rfl 2 rfl ?_
    refine h_alen X 6 rfl ho (by decide) (show fkX 2 1 = (1, 6) from rfl) dX2_sumOver_17 ?_
    refine g_icmp_ge (tgt := 43) X dX2_sumOver_18 (by decide) (by unfold InR; omega) ⟨by decide, by decide⟩ (fun c_18 => ?_) (fun c_18 => ?_)
    · exact absurd c_18 (by omega) --dead
    · skip
      refine g_iload_n X dX2_sumOver_21 rfl 1 rfl ?_
      refine g_iconst X dX2_sumOver_22 ?_
      refine g_iload X dX2_sumOver_23 4 rfl ?_
      refine g_ishl X dX2_sumOver_25 ?_
      refine g_iand X dX2_sumOver_26 ?_
      refine g_if_eq (tgt := 37) X dX2_sumOver_27 (by decide) (by have hb := bt_and hset.1 hset.2 h0 (show k < 6 by omega); unfold InR; omega) (fun c_27 => ?_) (fun c_27 => ?_)
      · skip
        refine g_iinc (j := 4) (lv' := [(4, .int (iI (k + 1))), (0, .ref (gAd G o)), (1, .int (iI set)), (2, .ref (gAr G o 1)), (3, .int (iI sum))]) X dX2_sumOver_37 rfl (by decide) rfl ?_
        refine g_goto (tgt := 5) X dX2_sumOver_40 (by decide) ?_
        refine g_lv (lv' := [(0, .ref (gAd G o)), (1, .int (iI set)), (2, .ref (gAr G o 1)), (3, .int (iI sum)), (4, .int (iI (k + 1)))]) [1, 2, 3, 4, 0] rfl ?_
        exact ih_5 sum (k + 1) ⟨(by first | omega | rfl | assumption), (by first | omega | rfl | assumption), (by rw [sumB_suc h0, hs]; have hb := (bt_and hset.1 hset.2 h0 (by omega)).1; have ht := tb01 set k.toNat; first | rw [if_neg (by have := hb.mp c_27; omega)]; omega | rw [if_pos (by rcases ht with q | q; exact absurd (hb.mpr q) c_27; exact q)])⟩ (by omega)
      · skip
        refine g_iload_n X dX2_sumOver_30 rfl 3 rfl ?_
        refine g_aload_n X dX2_sumOver_31 rfl 2 rfl ?_
        refine g_iload X dX2_sumOver_32 4 rfl ?_
        refine h_iald (a := k) (j := (k).toNat) X rfl ho (by decide) (show fkX 2 1 = (1, 6) from rfl) (by decide) (by omega) (by omega) dX2_sumOver_34 ?_
        refine g_iadd X dX2_sumOver_35 ?_
        refine g_istore_n (lv' := [(3, .int (iI (sum + (w o 1 (k).toNat)))), (0, .ref (gAd G o)), (1, .int (iI set)), (2, .ref (gAr G o 1)), (4, .int (iI k))]) X dX2_sumOver_36 rfl (by decide) rfl ?_
        refine g_iinc (j := 4) (lv' := [(4, .int (iI (k + 1))), (3, .int (iI (sum + (w o 1 (k).toNat)))), (0, .ref (gAd G o)), (1, .int (iI set)), (2, .ref (gAr G o 1))]) X dX2_sumOver_37 rfl (by decide) rfl ?_
        refine g_goto (tgt := 5) X dX2_sumOver_40 (by decide) ?_
        refine g_lv (lv' := [(0, .ref (gAd G o)), (1, .int (iI set)), (2, .ref (gAr G o 1)), (3, .int (iI (sum + (w o 1 (k).toNat)))), (4, .int (iI (k + 1)))]) [2, 3, 4, 1, 0] rfl ?_
        exact ih_5 (sum + (w o 1 (k).toNat)) (k + 1) ⟨(by first | omega | rfl | assumption), (by first | omega | rfl | assumption), (by rw [sumB_suc h0, hs]; have hb := (bt_and hset.1 hset.2 h0 (by omega)).1; have ht := tb01 set k.toNat; first | rw [if_neg (by have := hb.mp c_27; omega)]; omega | rw [if_pos (by rcases ht with q | q; exact absurd (hb.mpr q) c_27; exact q)])⟩ (by omega)
set_option maxHeartbeats 4000000 in
set_option maxRecDepth 100000 in
theorem c_X2_leasts (l : Launch) (G : Ly) (o : Nat) (set : Int) (w : Wd) (ho : gOb G o = some 2) (hset : 0 ≤ set ∧ set < 64) (hn : 0 ≤ w o 0 0 ∧ w o 0 0 ≤ 6) : Mi l yX2_leasts cX2_leasts 2 (some .int) 1 24 G [.ref (gAd G o), .int (iI set)] w (fun z w2 => z = (sumB set (w o 1) (w o 0 0).toNat) ∧ w2 = w) := by
  refine mi_of (lv := [(0, .ref (gAd G o)), (1, .int (iI set))]) (by decide) (Nat.le_of_ble_eq_true rfl) rfl ?_
  intro p_ e_ s_ m_ b_ h_ c_ X
  refine g_aload_n X dX2_leasts_0 rfl 0 rfl ?_
  refine g_iload_n X dX2_leasts_1 rfl 1 rfl ?_
  refine g_aload_n X dX2_leasts_2 rfl 0 rfl ?_
  refine g_geta X ck_X2 ho 1 (by decide) fl_X2_9 rfl dX2_leasts_3 ?_
  refine g_calli (st := []) X (c_X2_sumOver1 l G o set w ho (by first | assumption | omega | (unfold InR; omega)) (by first | assumption | omega | (unfold InR; omega))) cm_X2_sumOver im_X2_sumOver se_X2_sumOver ml_X2_69 ck_X2 ho ⟨Nat.le_of_ble_eq_true rfl, Nat.le_of_ble_eq_true rfl⟩ rfl rfl (Nat.le_of_ble_eq_true rfl) dX2_leasts_6 (fn_i ?_)
  exact g_iret X rfl rfl dX2_leasts_9 (by first | exact ⟨rfl, rfl⟩ | rfl | omega)
set_option maxHeartbeats 4000000 in
set_option maxRecDepth 100000 in
theorem c_X2_sumOver2 (l : Launch) (G : Ly) (o : Nat) (set : Int) (w : Wd) (ho : gOb G o = some 2) (hset : 0 ≤ set ∧ set < 64) (hn : 0 ≤ w o 0 0 ∧ w o 0 0 ≤ 6) : Mi l yX2_sumOver cX2_sumOver 5 (some .int) 0 0 G [.ref (gAd G o), .int (iI set), .ref (gAr G o 2)] w (fun z w2 => z = (sumB set (w o 2) (w o 0 0).toNat) ∧ w2 = w) := by
  refine mi_of (lv := [(0, .ref (gAd G o)), (1, .int (iI set)), (2, .ref (gAr G o 2))]) (by decide) (Nat.le_of_ble_eq_true rfl) rfl ?_
  intro p_ e_ s_ m_ b_ h_ c_ X
  refine g_iconst X dX2_sumOver_0 ?_
  refine g_istore_n (lv' := [(3, .int (iI 0)), (0, .ref (gAd G o)), (1, .int (iI set)), (2, .ref (gAr G o 2))]) X dX2_sumOver_1 rfl (by decide) rfl ?_
  refine g_iconst X dX2_sumOver_2 ?_
  refine g_istore (lv' := [(4, .int (iI 0)), (3, .int (iI 0)), (0, .ref (gAd G o)), (1, .int (iI set)), (2, .ref (gAr G o 2))]) X dX2_sumOver_3 (by decide) rfl ?_
  refine g_lv (lv' := [(0, .ref (gAd G o)), (1, .int (iI set)), (2, .ref (gAr G o 2)), (3, .int (iI 0)), (4, .int (iI 0))]) [2, 3, 4, 1, 0] rfl ?_
  refine g_loop2 (fun (sum : Int) (k : Int) => [(0, .ref (gAd G o)), (1, .int (iI set)), (2, .ref (gAr G o 2)), (3, .int (iI sum)), (4, .int (iI k))]) (fun (sum : Int) (k : Int) => w) (fun (sum : Int) (k : Int) => (0 ≤ k) ∧ (k ≤ w o 0 0) ∧ (sum = sumB set (w o 2) k.toNat)) (fun (sum : Int) (k : Int) => (w o 0 0 - k).toNat) 0 0 ⟨(by first | omega | rfl | assumption), (by first | omega | rfl | assumption), (by first | omega | rfl | assumption)⟩ ?_
  intro sum k hI_5 ih_5
  obtain ⟨h0, h1, hs⟩ := hI_5
  try dsimp only at ih_5 ⊢
  refine g_iload X dX2_sumOver_5 4 rfl ?_
  refine g_aload_n X dX2_sumOver_7 rfl 0 rfl ?_
  refine g_geti X ck_X2 ho 0 (by decide) fl_X2_30 (Or.inl rfl) dX2_sumOver_8 ?_
  refine g_icmp_ge (tgt := 43) X dX2_sumOver_11 (by decide) (by unfold InR; omega) (by unfold InR; omega) (fun c_11 => ?_) (fun c_11 => ?_)
  · skip
    refine g_iload_n X dX2_sumOver_43 rfl 3 rfl ?_
    exact g_iret X rfl rfl dX2_sumOver_44 (by exact ⟨by rw [hs, show k = w o 0 0 by omega], rfl⟩)
  · skip
    refine g_iload X dX2_sumOver_14 4 rfl ?_
    refine g_aload_n X dX2_sumOver_16 rfl 2 rfl ?_
    refine h_alen X 6 rfl ho (by decide) (show fkX 2 2 = (1, 6) from rfl) dX2_sumOver_17 ?_
    refine g_icmp_ge (tgt := 43) X dX2_sumOver_18 (by decide) (by unfold InR; omega) ⟨by decide, by decide⟩ (fun c_18 => ?_) (fun c_18 => ?_)
    · exact absurd c_18 (by omega) --dead
    · skip
      refine g_iload_n X dX2_sumOver_21 rfl 1 rfl ?_
      refine g_iconst X dX2_sumOver_22 ?_
      refine g_iload X dX2_sumOver_23 4 rfl ?_
      refine g_ishl X dX2_sumOver_25 ?_
      refine g_iand X dX2_sumOver_26 ?_
      refine g_if_eq (tgt := 37) X dX2_sumOver_27 (by decide) (by have hb := bt_and hset.1 hset.2 h0 (show k < 6 by omega); unfold InR; omega) (fun c_27 => ?_) (fun c_27 => ?_)
      · skip
        refine g_iinc (j := 4) (lv' := [(4, .int (iI (k + 1))), (0, .ref (gAd G o)), (1, .int (iI set)), (2, .ref (gAr G o 2)), (3, .int (iI sum))]) X dX2_sumOver_37 rfl (by decide) rfl ?_
        refine g_goto (tgt := 5) X dX2_sumOver_40 (by decide) ?_
        refine g_lv (lv' := [(0, .ref (gAd G o)), (1, .int (iI set)), (2, .ref (gAr G o 2)), (3, .int (iI sum)), (4, .int (iI (k + 1)))]) [1, 2, 3, 4, 0] rfl ?_
        exact ih_5 sum (k + 1) ⟨(by first | omega | rfl | assumption), (by first | omega | rfl | assumption), (by rw [sumB_suc h0, hs]; have hb := (bt_and hset.1 hset.2 h0 (by omega)).1; have ht := tb01 set k.toNat; first | rw [if_neg (by have := hb.mp c_27; omega)]; omega | rw [if_pos (by rcases ht with q | q; exact absurd (hb.mpr q) c_27; exact q)])⟩ (by omega)
      · skip
        refine g_iload_n X dX2_sumOver_30 rfl 3 rfl ?_
        refine g_aload_n X dX2_sumOver_31 rfl 2 rfl ?_
        refine g_iload X dX2_sumOver_32 4 rfl ?_
        refine h_iald (a := k) (j := (k).toNat) X rfl ho (by decide) (show fkX 2 2 = (1, 6) from rfl) (by decide) (by omega) (by omega) dX2_sumOver_34 ?_
        refine g_iadd X dX2_sumOver_35 ?_
        refine g_istore_n (lv' := [(3, .int (iI (sum + (w o 2 (k).toNat)))), (0, .ref (gAd G o)), (1, .int (iI set)), (2, .ref (gAr G o 2)), (4, .int (iI k))]) X dX2_sumOver_36 rfl (by decide) rfl ?_
        refine g_iinc (j := 4) (lv' := [(4, .int (iI (k + 1))), (3, .int (iI (sum + (w o 2 (k).toNat)))), (0, .ref (gAd G o)), (1, .int (iI set)), (2, .ref (gAr G o 2))]) X dX2_sumOver_37 rfl (by decide) rfl ?_
        refine g_goto (tgt := 5) X dX2_sumOver_40 (by decide) ?_
        refine g_lv (lv' := [(0, .ref (gAd G o)), (1, .int (iI set)), (2, .ref (gAr G o 2)), (3, .int (iI (sum + (w o 2 (k).toNat)))), (4, .int (iI (k + 1)))]) [2, 3, 4, 1, 0] rfl ?_
        exact ih_5 (sum + (w o 2 (k).toNat)) (k + 1) ⟨(by first | omega | rfl | assumption), (by first | omega | rfl | assumption), (by rw [sumB_suc h0, hs]; have hb := (bt_and hset.1 hset.2 h0 (by omega)).1; have ht := tb01 set k.toNat; first | rw [if_neg (by have := hb.mp c_27; omega)]; omega | rw [if_pos (by rcases ht with q | q; exact absurd (hb.mpr q) c_27; exact q)])⟩ (by omega)
set_option maxHeartbeats 4000000 in
set_option maxRecDepth 100000 in
theorem c_X2_mosts (l : Launch) (G : Ly) (o : Nat) (set : Int) (w : Wd) (ho : gOb G o = some 2) (hset : 0 ≤ set ∧ set < 64) (hn : 0 ≤ w o 0 0 ∧ w o 0 0 ≤ 6) : Mi l yX2_mosts cX2_mosts 2 (some .int) 1 24 G [.ref (gAd G o), .int (iI set)] w (fun z w2 => z = (sumB set (w o 2) (w o 0 0).toNat) ∧ w2 = w) := by
  refine mi_of (lv := [(0, .ref (gAd G o)), (1, .int (iI set))]) (by decide) (Nat.le_of_ble_eq_true rfl) rfl ?_
  intro p_ e_ s_ m_ b_ h_ c_ X
  refine g_aload_n X dX2_mosts_0 rfl 0 rfl ?_
  refine g_iload_n X dX2_mosts_1 rfl 1 rfl ?_
  refine g_aload_n X dX2_mosts_2 rfl 0 rfl ?_
  refine g_geta X ck_X2 ho 2 (by decide) fl_X2_15 rfl dX2_mosts_3 ?_
  refine g_calli (st := []) X (c_X2_sumOver2 l G o set w ho (by first | assumption | omega | (unfold InR; omega)) (by first | assumption | omega | (unfold InR; omega))) cm_X2_sumOver im_X2_sumOver se_X2_sumOver ml_X2_69 ck_X2 ho ⟨Nat.le_of_ble_eq_true rfl, Nat.le_of_ble_eq_true rfl⟩ rfl rfl (Nat.le_of_ble_eq_true rfl) dX2_mosts_6 (fn_i ?_)
  exact g_iret X rfl rfl dX2_mosts_9 (by first | exact ⟨rfl, rfl⟩ | rfl | omega)
set_option maxHeartbeats 4000000 in
set_option maxRecDepth 100000 in
theorem c_X2_sumOver6 (l : Launch) (G : Ly) (o : Nat) (set : Int) (w : Wd) (ho : gOb G o = some 2) (hset : 0 ≤ set ∧ set < 64) (hn : 0 ≤ w o 0 0 ∧ w o 0 0 ≤ 6) : Mi l yX2_sumOver cX2_sumOver 5 (some .int) 0 0 G [.ref (gAd G o), .int (iI set), .ref (gAr G o 6)] w (fun z w2 => z = (sumB set (w o 6) (w o 0 0).toNat) ∧ w2 = w) := by
  refine mi_of (lv := [(0, .ref (gAd G o)), (1, .int (iI set)), (2, .ref (gAr G o 6))]) (by decide) (Nat.le_of_ble_eq_true rfl) rfl ?_
  intro p_ e_ s_ m_ b_ h_ c_ X
  refine g_iconst X dX2_sumOver_0 ?_
  refine g_istore_n (lv' := [(3, .int (iI 0)), (0, .ref (gAd G o)), (1, .int (iI set)), (2, .ref (gAr G o 6))]) X dX2_sumOver_1 rfl (by decide) rfl ?_
  refine g_iconst X dX2_sumOver_2 ?_
  refine g_istore (lv' := [(4, .int (iI 0)), (3, .int (iI 0)), (0, .ref (gAd G o)), (1, .int (iI set)), (2, .ref (gAr G o 6))]) X dX2_sumOver_3 (by decide) rfl ?_
  refine g_lv (lv' := [(0, .ref (gAd G o)), (1, .int (iI set)), (2, .ref (gAr G o 6)), (3, .int (iI 0)), (4, .int (iI 0))]) [2, 3, 4, 1, 0] rfl ?_
  refine g_loop2 (fun (sum : Int) (k : Int) => [(0, .ref (gAd G o)), (1, .int (iI set)), (2, .ref (gAr G o 6)), (3, .int (iI sum)), (4, .int (iI k))]) (fun (sum : Int) (k : Int) => w) (fun (sum : Int) (k : Int) => (0 ≤ k) ∧ (k ≤ w o 0 0) ∧ (sum = sumB set (w o 6) k.toNat)) (fun (sum : Int) (k : Int) => (w o 0 0 - k).toNat) 0 0 ⟨(by first | omega | rfl | assumption), (by first | omega | rfl | assumption), (by first | omega | rfl | assumption)⟩ ?_
  intro sum k hI_5 ih_5
  obtain ⟨h0, h1, hs⟩ := hI_5
  try dsimp only at ih_5 ⊢
  refine g_iload X dX2_sumOver_5 4 rfl ?_
  refine g_aload_n X dX2_sumOver_7 rfl 0 rfl ?_
  refine g_geti X ck_X2 ho 0 (by decide) fl_X2_30 (Or.inl rfl) dX2_sumOver_8 ?_
  refine g_icmp_ge (tgt := 43) X dX2_sumOver_11 (by decide) (by unfold InR; omega) (by unfold InR; omega) (fun c_11 => ?_) (fun c_11 => ?_)
  · skip
    refine g_iload_n X dX2_sumOver_43 rfl 3 rfl ?_
    exact g_iret X rfl rfl dX2_sumOver_44 (by exact ⟨by rw [hs, show k = w o 0 0 by omega], rfl⟩)
  · skip
    refine g_iload X dX2_sumOver_14 4 rfl ?_
    refine g_aload_n X dX2_sumOver_16 rfl 2 rfl ?_
    refine h_alen X 6 rfl ho (by decide) (show fkX 2 6 = (1, 6) from rfl) dX2_sumOver_17 ?_
    refine g_icmp_ge (tgt := 43) X dX2_sumOver_18 (by decide) (by unfold InR; omega) ⟨by decide, by decide⟩ (fun c_18 => ?_) (fun c_18 => ?_)
    · exact absurd c_18 (by omega) --dead
    · skip
      refine g_iload_n X dX2_sumOver_21 rfl 1 rfl ?_
      refine g_iconst X dX2_sumOver_22 ?_
      refine g_iload X dX2_sumOver_23 4 rfl ?_
      refine g_ishl X dX2_sumOver_25 ?_
      refine g_iand X dX2_sumOver_26 ?_
      refine g_if_eq (tgt := 37) X dX2_sumOver_27 (by decide) (by have hb := bt_and hset.1 hset.2 h0 (show k < 6 by omega); unfold InR; omega) (fun c_27 => ?_) (fun c_27 => ?_)
      · skip
        refine g_iinc (j := 4) (lv' := [(4, .int (iI (k + 1))), (0, .ref (gAd G o)), (1, .int (iI set)), (2, .ref (gAr G o 6)), (3, .int (iI sum))]) X dX2_sumOver_37 rfl (by decide) rfl ?_
        refine g_goto (tgt := 5) X dX2_sumOver_40 (by decide) ?_
        refine g_lv (lv' := [(0, .ref (gAd G o)), (1, .int (iI set)), (2, .ref (gAr G o 6)), (3, .int (iI sum)), (4, .int (iI (k + 1)))]) [1, 2, 3, 4, 0] rfl ?_
        exact ih_5 sum (k + 1) ⟨(by first | omega | rfl | assumption), (by first | omega | rfl | assumption), (by rw [sumB_suc h0, hs]; have hb := (bt_and hset.1 hset.2 h0 (by omega)).1; have ht := tb01 set k.toNat; first | rw [if_neg (by have := hb.mp c_27; omega)]; omega | rw [if_pos (by rcases ht with q | q; exact absurd (hb.mpr q) c_27; exact q)])⟩ (by omega)
      · skip
        refine g_iload_n X dX2_sumOver_30 rfl 3 rfl ?_
        refine g_aload_n X dX2_sumOver_31 rfl 2 rfl ?_
        refine g_iload X dX2_sumOver_32 4 rfl ?_
        refine h_iald (a := k) (j := (k).toNat) X rfl ho (by decide) (show fkX 2 6 = (1, 6) from rfl) (by decide) (by omega) (by omega) dX2_sumOver_34 ?_
        refine g_iadd X dX2_sumOver_35 ?_
        refine g_istore_n (lv' := [(3, .int (iI (sum + (w o 6 (k).toNat)))), (0, .ref (gAd G o)), (1, .int (iI set)), (2, .ref (gAr G o 6)), (4, .int (iI k))]) X dX2_sumOver_36 rfl (by decide) rfl ?_
        refine g_iinc (j := 4) (lv' := [(4, .int (iI (k + 1))), (3, .int (iI (sum + (w o 6 (k).toNat)))), (0, .ref (gAd G o)), (1, .int (iI set)), (2, .ref (gAr G o 6))]) X dX2_sumOver_37 rfl (by decide) rfl ?_
        refine g_goto (tgt := 5) X dX2_sumOver_40 (by decide) ?_
        refine g_lv (lv' := [(0, .ref (gAd G o)), (1, .int (iI set)), (2, .ref (gAr G o 6)), (3, .int (iI (sum + (w o 6 (k).toNat)))), (4, .int (iI (k + 1)))]) [2, 3, 4, 1, 0] rfl ?_
        exact ih_5 (sum + (w o 6 (k).toNat)) (k + 1) ⟨(by first | omega | rfl | assumption), (by first | omega | rfl | assumption), (by rw [sumB_suc h0, hs]; have hb := (bt_and hset.1 hset.2 h0 (by omega)).1; have ht := tb01 set k.toNat; first | rw [if_neg (by have := hb.mp c_27; omega)]; omega | rw [if_pos (by rcases ht with q | q; exact absurd (hb.mpr q) c_27; exact q)])⟩ (by omega)
set_option maxHeartbeats 4000000 in
set_option maxRecDepth 100000 in
theorem c_X2_flows (l : Launch) (G : Ly) (o : Nat) (set : Int) (w : Wd) (ho : gOb G o = some 2) (hset : 0 ≤ set ∧ set < 64) (hn : 0 ≤ w o 0 0 ∧ w o 0 0 ≤ 6) : Mi l yX2_flows cX2_flows 2 (some .int) 1 24 G [.ref (gAd G o), .int (iI set)] w (fun z w2 => z = (sumB set (w o 6) (w o 0 0).toNat) ∧ w2 = w) := by
  refine mi_of (lv := [(0, .ref (gAd G o)), (1, .int (iI set))]) (by decide) (Nat.le_of_ble_eq_true rfl) rfl ?_
  intro p_ e_ s_ m_ b_ h_ c_ X
  refine g_aload_n X dX2_flows_0 rfl 0 rfl ?_
  refine g_iload_n X dX2_flows_1 rfl 1 rfl ?_
  refine g_aload_n X dX2_flows_2 rfl 0 rfl ?_
  refine g_geta X ck_X2 ho 6 (by decide) fl_X2_27 rfl dX2_flows_3 ?_
  refine g_calli (st := []) X (c_X2_sumOver6 l G o set w ho (by first | assumption | omega | (unfold InR; omega)) (by first | assumption | omega | (unfold InR; omega))) cm_X2_sumOver im_X2_sumOver se_X2_sumOver ml_X2_69 ck_X2 ho ⟨Nat.le_of_ble_eq_true rfl, Nat.le_of_ble_eq_true rfl⟩ rfl rfl (Nat.le_of_ble_eq_true rfl) dX2_flows_6 (fn_i ?_)
  exact g_iret X rfl rfl dX2_flows_9 (by first | exact ⟨rfl, rfl⟩ | rfl | omega)
set_option maxHeartbeats 4000000 in
set_option maxRecDepth 100000 in
theorem c_X2_all (l : Launch) (G : Ly) (o : Nat) (w : Wd) (ho : gOb G o = some 2) : Mi l yX2_all cX2_all 1 (some .int) 0 0 G [.ref (gAd G o)] w (fun z w2 => z = (bshl 1 (w o 0 0) - 1) ∧ w2 = w) := by
  refine mi_of (lv := [(0, .ref (gAd G o))]) (by decide) (Nat.le_of_ble_eq_true rfl) rfl ?_
  intro p_ e_ s_ m_ b_ h_ c_ X
  refine g_iconst X dX2_all_0 ?_
  refine g_aload_n X dX2_all_1 rfl 0 rfl ?_
  refine g_geti X ck_X2 ho 0 (by decide) fl_X2_30 (Or.inl rfl) dX2_all_2 ?_
  refine g_ishl X dX2_all_5 ?_
  refine g_iconst X dX2_all_6 ?_
  refine g_isub X dX2_all_7 ?_
  exact g_iret X rfl rfl dX2_all_8 (by first | exact ⟨rfl, rfl⟩ | rfl | omega)
set_option maxHeartbeats 4000000 in
set_option maxRecDepth 100000 in
theorem c_X2_powerAt (l : Launch) (G : Ly) (o : Nat) (m : Int) (load : Int) (lift : Int) (w : Wd) (ho : gOb G o = some 2) (hm : 0 ≤ m ∧ m < 6) : Mi l yX2_powerAt cX2_powerAt 4 (some .int) 0 0 G [.ref (gAd G o), .int (iI m), .int (iI load), .int (iI lift)] w (fun z w2 => z = (w o 3 m.toNat + jdiv (((((100 * (w o 4 m.toNat)) + ((w o 5 m.toNat) * load)) * load) * (60 + lift))) 10000) ∧ w2 = w) := by
  refine mi_of (lv := [(0, .ref (gAd G o)), (1, .int (iI m)), (2, .int (iI load)), (3, .int (iI lift))]) (by decide) (Nat.le_of_ble_eq_true rfl) rfl ?_
  intro p_ e_ s_ m_ b_ h_ c_ X
  refine g_aload_n X dX2_powerAt_0 rfl 0 rfl ?_
  refine g_geta X ck_X2 ho 3 (by decide) fl_X2_18 rfl dX2_powerAt_1 ?_
  refine g_iload_n X dX2_powerAt_4 rfl 1 rfl ?_
  refine h_iald (a := m) (j := (m).toNat) X rfl ho (by decide) (show fkX 2 3 = (1, 6) from rfl) (by decide) (by first | omega | decide) (by first | omega | decide) dX2_powerAt_5 ?_
  refine g_bipush X dX2_powerAt_6 (by decide) ?_
  refine g_aload_n X dX2_powerAt_8 rfl 0 rfl ?_
  refine g_geta X ck_X2 ho 4 (by decide) fl_X2_21 rfl dX2_powerAt_9 ?_
  refine g_iload_n X dX2_powerAt_12 rfl 1 rfl ?_
  refine h_iald (a := m) (j := (m).toNat) X rfl ho (by decide) (show fkX 2 4 = (1, 6) from rfl) (by decide) (by first | omega | decide) (by first | omega | decide) dX2_powerAt_13 ?_
  refine g_imul X dX2_powerAt_14 ?_
  refine g_aload_n X dX2_powerAt_15 rfl 0 rfl ?_
  refine g_geta X ck_X2 ho 5 (by decide) fl_X2_24 rfl dX2_powerAt_16 ?_
  refine g_iload_n X dX2_powerAt_19 rfl 1 rfl ?_
  refine h_iald (a := m) (j := (m).toNat) X rfl ho (by decide) (show fkX 2 5 = (1, 6) from rfl) (by decide) (by first | omega | decide) (by first | omega | decide) dX2_powerAt_20 ?_
  refine g_iload_n X dX2_powerAt_21 rfl 2 rfl ?_
  refine g_imul X dX2_powerAt_22 ?_
  refine g_iadd X dX2_powerAt_23 ?_
  refine g_iload_n X dX2_powerAt_24 rfl 2 rfl ?_
  refine g_imul X dX2_powerAt_25 ?_
  refine g_bipush X dX2_powerAt_26 (by decide) ?_
  refine g_iload_n X dX2_powerAt_28 rfl 3 rfl ?_
  refine g_iadd X dX2_powerAt_29 ?_
  refine g_imul X dX2_powerAt_30 ?_
  refine g_sipush X dX2_powerAt_31 (by decide) ?_
  refine g_idiv X dX2_powerAt_34 ⟨by decide, by decide⟩ (by first | omega | decide) ?_
  refine g_iadd X dX2_powerAt_35 ?_
  exact g_iret X rfl rfl dX2_powerAt_36 (by first | exact ⟨rfl, rfl⟩ | rfl | first | omega | decide)
