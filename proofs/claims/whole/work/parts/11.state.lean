theorem tol_hi (f : Nat → Int) (m : Int) : ∀ k j, k ≤ j → (tol f m k).1 j = f j
  | 0, _, _ => rfl
  | k + 1, j, h => by
    unfold tol
    split
    · exact tol_hi f m k j (by omega)
    · show fup _ _ _ j = f j
      rw [fup_ne (by have := tol_le f m k; omega)]
      exact tol_hi f m k j (by omega)
set_option maxHeartbeats 4000000 in
set_option maxRecDepth 100000 in
theorem c_J9_floorMod_7cf53 (l : Launch) (G : Ly) (a : Int) (b : Int) (w : Wd) (ha : 0 ≤ a ∧ a ≤ 2147483647) (hb : 0 < b ∧ b ≤ 2147483647) : Mi l yJ9_floorMod_7cf53 cJ9_floorMod_7cf53 3 (some .int) 0 0 G [.int (iI a), .int (iI b)] w (fun z w2 => z = (a % b) ∧ w2 = w) := by
  refine mi_ofF (lv := [(0, .int (iI a)), (1, .int (iI b))]) (by decide +kernel) (Nat.le_of_ble_eq_true rfl) rfl ?_
  intro p_ e_ s_ m_ b_ h_ c_ X
  have hj := jrem_pos (a := a) (b := b) (by unfold InR; omega) ha.1 hb.1 hb.2
  have hq := bxor_nn ha.1 ha.2 (Int.le_of_lt hb.1) hb.2
  have hx : InR (bxor a b) := inR_to _
  have hz : InR (jrem a b) := inR_to _
  refine g_iload_n X dJ9_floorMod_7cf53_0 rfl 0 rfl ?_
  refine g_iload_n X dJ9_floorMod_7cf53_1 rfl 1 rfl ?_
  refine g_irem X dJ9_floorMod_7cf53_2 (by unfold InR; omega) (by omega) ?_
  refine g_istore_n (lv' := [(2, .int (iI (jrem a b))), (0, .int (iI a)), (1, .int (iI b))]) X dJ9_floorMod_7cf53_3 rfl (by decide) rfl ?_
  refine g_iload_n X dJ9_floorMod_7cf53_4 rfl 1 rfl ?_
  refine g_iload_n X dJ9_floorMod_7cf53_5 rfl 2 rfl ?_
  refine g_ixor X dJ9_floorMod_7cf53_6 ?_
  refine g_if_ge (tgt := 18) X dJ9_floorMod_7cf53_7 (by decide) (by exact hx) (fun c_7 => ?_) (fun c_7 => ?_)
  · skip
    refine g_iload_n X dJ9_floorMod_7cf53_18 rfl 0 rfl ?_
    exact g_iret X rfl rfl dJ9_floorMod_7cf53_19 (by exact ⟨hj, rfl⟩)
  · exact absurd hq c_7 --dead
set_option maxHeartbeats 4000000 in
set_option maxRecDepth 100000 in
theorem c_J6_bitCount_0f7a4 (l : Launch) (G : Ly) (x : Int) (w : Wd) (hx : 0 ≤ x ∧ x < 64) : Mi l yJ6_bitCount_0f7a4 cJ6_bitCount_0f7a4 1 (some .int) 0 0 G [.int (iI x)] w (fun z w2 => z = (cnt x) ∧ w2 = w) := by
  refine mi_of (lv := [(0, .int (iI x))]) (by decide) (Nat.le_of_ble_eq_true rfl) rfl ?_
  intro p_ e_ s_ m_ b_ h_ c_ X
  refine g_iload_n X dJ6_bitCount_0f7a4_0 rfl 0 rfl ?_
  refine g_iload_n X dJ6_bitCount_0f7a4_1 rfl 0 rfl ?_
  refine g_iconst X dJ6_bitCount_0f7a4_2 ?_
  refine g_iushr X dJ6_bitCount_0f7a4_3 ?_
  refine g_ldcw (n := 1431655765) X cst_J6_265 (by decide) dJ6_bitCount_0f7a4_4 ?_
  refine g_iand X dJ6_bitCount_0f7a4_7 ?_
  refine g_isub X dJ6_bitCount_0f7a4_8 ?_
  refine g_istore_n (lv' := [(0, .int (iI (x - (band (bushr x 1) 1431655765))))]) X dJ6_bitCount_0f7a4_9 rfl (by decide) rfl ?_
  refine g_iload_n X dJ6_bitCount_0f7a4_10 rfl 0 rfl ?_
  refine g_ldcw (n := 858993459) X cst_J6_266 (by decide) dJ6_bitCount_0f7a4_11 ?_
  refine g_iand X dJ6_bitCount_0f7a4_14 ?_
  refine g_iload_n X dJ6_bitCount_0f7a4_15 rfl 0 rfl ?_
  refine g_iconst X dJ6_bitCount_0f7a4_16 ?_
  refine g_iushr X dJ6_bitCount_0f7a4_17 ?_
  refine g_ldcw (n := 858993459) X cst_J6_266 (by decide) dJ6_bitCount_0f7a4_18 ?_
  refine g_iand X dJ6_bitCount_0f7a4_21 ?_
  refine g_iadd X dJ6_bitCount_0f7a4_22 ?_
  refine g_istore_n (lv' := [(0, .int (iI ((band (x - (band (bushr x 1) 1431655765)) 858993459) + (band (bushr (x - (band (bushr x 1) 1431655765)) 2) 858993459))))]) X dJ6_bitCount_0f7a4_23 rfl (by decide) rfl ?_
  refine g_iload_n X dJ6_bitCount_0f7a4_24 rfl 0 rfl ?_
  refine g_iload_n X dJ6_bitCount_0f7a4_25 rfl 0 rfl ?_
  refine g_iconst X dJ6_bitCount_0f7a4_26 ?_
  refine g_iushr X dJ6_bitCount_0f7a4_27 ?_
  refine g_iadd X dJ6_bitCount_0f7a4_28 ?_
  refine g_ldcw (n := 252645135) X cst_J6_267 (by decide) dJ6_bitCount_0f7a4_29 ?_
  refine g_iand X dJ6_bitCount_0f7a4_32 ?_
  refine g_istore_n (lv' := [(0, .int (iI (band (((band (x - (band (bushr x 1) 1431655765)) 858993459) + (band (bushr (x - (band (bushr x 1) 1431655765)) 2) 858993459)) + (bushr ((band (x - (band (bushr x 1) 1431655765)) 858993459) + (band (bushr (x - (band (bushr x 1) 1431655765)) 2) 858993459)) 4)) 252645135)))]) X dJ6_bitCount_0f7a4_33 rfl (by decide) rfl ?_
  refine g_iload_n X dJ6_bitCount_0f7a4_34 rfl 0 rfl ?_
  refine g_iload_n X dJ6_bitCount_0f7a4_35 rfl 0 rfl ?_
  refine g_bipush X dJ6_bitCount_0f7a4_36 (by decide) ?_
  refine g_iushr X dJ6_bitCount_0f7a4_38 ?_
  refine g_iadd X dJ6_bitCount_0f7a4_39 ?_
  refine g_istore_n (lv' := [(0, .int (iI ((band (((band (x - (band (bushr x 1) 1431655765)) 858993459) + (band (bushr (x - (band (bushr x 1) 1431655765)) 2) 858993459)) + (bushr ((band (x - (band (bushr x 1) 1431655765)) 858993459) + (band (bushr (x - (band (bushr x 1) 1431655765)) 2) 858993459)) 4)) 252645135) + (bushr (band (((band (x - (band (bushr x 1) 1431655765)) 858993459) + (band (bushr (x - (band (bushr x 1) 1431655765)) 2) 858993459)) + (bushr ((band (x - (band (bushr x 1) 1431655765)) 858993459) + (band (bushr (x - (band (bushr x 1) 1431655765)) 2) 858993459)) 4)) 252645135) 8))))]) X dJ6_bitCount_0f7a4_40 rfl (by decide) rfl ?_
  refine g_iload_n X dJ6_bitCount_0f7a4_41 rfl 0 rfl ?_
  refine g_iload_n X dJ6_bitCount_0f7a4_42 rfl 0 rfl ?_
  refine g_bipush X dJ6_bitCount_0f7a4_43 (by decide) ?_
  refine g_iushr X dJ6_bitCount_0f7a4_45 ?_
  refine g_iadd X dJ6_bitCount_0f7a4_46 ?_
  refine g_istore_n (lv' := [(0, .int (iI (((band (((band (x - (band (bushr x 1) 1431655765)) 858993459) + (band (bushr (x - (band (bushr x 1) 1431655765)) 2) 858993459)) + (bushr ((band (x - (band (bushr x 1) 1431655765)) 858993459) + (band (bushr (x - (band (bushr x 1) 1431655765)) 2) 858993459)) 4)) 252645135) + (bushr (band (((band (x - (band (bushr x 1) 1431655765)) 858993459) + (band (bushr (x - (band (bushr x 1) 1431655765)) 2) 858993459)) + (bushr ((band (x - (band (bushr x 1) 1431655765)) 858993459) + (band (bushr (x - (band (bushr x 1) 1431655765)) 2) 858993459)) 4)) 252645135) 8)) + (bushr ((band (((band (x - (band (bushr x 1) 1431655765)) 858993459) + (band (bushr (x - (band (bushr x 1) 1431655765)) 2) 858993459)) + (bushr ((band (x - (band (bushr x 1) 1431655765)) 858993459) + (band (bushr (x - (band (bushr x 1) 1431655765)) 2) 858993459)) 4)) 252645135) + (bushr (band (((band (x - (band (bushr x 1) 1431655765)) 858993459) + (band (bushr (x - (band (bushr x 1) 1431655765)) 2) 858993459)) + (bushr ((band (x - (band (bushr x 1) 1431655765)) 858993459) + (band (bushr (x - (band (bushr x 1) 1431655765)) 2) 858993459)) 4)) 252645135) 8)) 16))))]) X dJ6_bitCount_0f7a4_47 rfl (by decide) rfl ?_
  refine g_iload_n X dJ6_bitCount_0f7a4_48 rfl 0 rfl ?_
  refine g_bipush X dJ6_bitCount_0f7a4_49 (by decide) ?_
  refine g_iand X dJ6_bitCount_0f7a4_51 ?_
  exact g_iret X rfl rfl dJ6_bitCount_0f7a4_52 (by exact ⟨fin1 (P := fun x => (band (((band (((band (x - (band (bushr x 1) 1431655765)) 858993459) + (band (bushr (x - (band (bushr x 1) 1431655765)) 2) 858993459)) + (bushr ((band (x - (band (bushr x 1) 1431655765)) 858993459) + (band (bushr (x - (band (bushr x 1) 1431655765)) 2) 858993459)) 4)) 252645135) + (bushr (band (((band (x - (band (bushr x 1) 1431655765)) 858993459) + (band (bushr (x - (band (bushr x 1) 1431655765)) 2) 858993459)) + (bushr ((band (x - (band (bushr x 1) 1431655765)) 858993459) + (band (bushr (x - (band (bushr x 1) 1431655765)) 2) 858993459)) 4)) 252645135) 8)) + (bushr ((band (((band (x - (band (bushr x 1) 1431655765)) 858993459) + (band (bushr (x - (band (bushr x 1) 1431655765)) 2) 858993459)) + (bushr ((band (x - (band (bushr x 1) 1431655765)) 858993459) + (band (bushr (x - (band (bushr x 1) 1431655765)) 2) 858993459)) 4)) 252645135) + (bushr (band (((band (x - (band (bushr x 1) 1431655765)) 858993459) + (band (bushr (x - (band (bushr x 1) 1431655765)) 2) 858993459)) + (bushr ((band (x - (band (bushr x 1) 1431655765)) 858993459) + (band (bushr (x - (band (bushr x 1) 1431655765)) 2) 858993459)) 4)) 252645135) 8)) 16)) 63) = cnt x) (by decide +kernel) hx.1 hx.2, rfl⟩)
set_option maxHeartbeats 4000000 in
set_option maxRecDepth 100000 in
theorem c_J7_fill_53178_6_11 (l : Launch) (G : Ly) (o : Nat) (v : Int) (w : Wd) (ho : gOb G o = some 6) : Mv l yJ7_fill_53178 cJ7_fill_53178 4 none 0 0 G [.ref (gAr G o 11), .int (iI v)] w (fun w2 => w2 = upA w o 11 (fillN (w o 11) v 6)) := by
  refine mv_of (lv := [(0, .ref (gAr G o 11)), (1, .int (iI v))]) (by decide) (Nat.le_of_ble_eq_true rfl) rfl ?_
  intro p_ e_ s_ m_ b_ h_ c_ X
  refine g_iconst X dJ7_fill_53178_0 ?_
  refine g_istore_n (lv' := [(2, .int (iI 0)), (0, .ref (gAr G o 11)), (1, .int (iI v))]) X dJ7_fill_53178_1 rfl (by decide) rfl ?_
  refine g_aload_n X dJ7_fill_53178_2 rfl 1 rfl ?_
  refine h_alen X 6 rfl ho (by decide) (show fkX 6 11 = (1, 6) from rfl) dJ7_fill_53178_3 ?_
  refine g_istore_n (lv' := [(3, .int (iI 6)), (2, .int (iI 0)), (0, .ref (gAr G o 11)), (1, .int (iI v))]) X dJ7_fill_53178_4 rfl (by decide) rfl ?_
  refine g_lv (lv' := [(0, .ref (gAr G o 11)), (1, .int (iI v)), (2, .int (iI 0)), (3, .int (iI 6))]) [2, 3, 1, 0] rfl ?_
  refine g_loop2 (fun (k : Int) (w1 : Wd) => [(0, .ref (gAr G o 11)), (1, .int (iI v)), (2, .int (iI k)), (3, .int (iI 6))]) (fun (k : Int) (w1 : Wd) => w1) (fun (k : Int) (w1 : Wd) => (0 ≤ k) ∧ (k ≤ 6) ∧ (w1 = upA w o 11 (fillN (w o 11) v k.toNat))) (fun (k : Int) (w1 : Wd) => (6 - k).toNat) 0 w ⟨(by first | omega | rfl | assumption), (by first | omega | rfl | assumption), (by show w = upA w o 11 (fillN (w o 11) v 0); rw [fillN_0, upA_self])⟩ ?_
  intro k w1 hI_5 ih_5
  obtain ⟨h0, h1, hw⟩ := hI_5
  try dsimp only at ih_5 ⊢
  refine g_iload_n X dJ7_fill_53178_5 rfl 2 rfl ?_
  refine g_iload_n X dJ7_fill_53178_6 rfl 3 rfl ?_
  refine g_icmp_ge (tgt := 20) X dJ7_fill_53178_7 (by decide) (by unfold InR; omega) ⟨by decide, by decide⟩ (fun c_7 => ?_) (fun c_7 => ?_)
  · skip
    exact g_vret X rfl dJ7_fill_53178_20 (by rw [hw, show k.toNat = 6 by omega])
  · skip
    refine g_aload_n X dJ7_fill_53178_10 rfl 0 rfl ?_
    refine g_iload_n X dJ7_fill_53178_11 rfl 2 rfl ?_
    refine g_iload_n X dJ7_fill_53178_12 rfl 1 rfl ?_
    refine h_iast (a := k) (j := (k).toNat) X rfl ho (by decide) (show fkX 6 11 = (1, 6) from rfl) (by decide) (by omega) (by omega) dJ7_fill_53178_13 ?_
    obtain ⟨w_1, ew_1⟩ : ∃ q_ : Wd, q_ = up w1 o 11 (k).toNat v := ⟨_, rfl⟩
    refine g_w (w' := w_1) ew_1 ?_
    refine g_iinc (j := 2) (lv' := [(2, .int (iI (k + 1))), (0, .ref (gAr G o 11)), (1, .int (iI v)), (3, .int (iI 6))]) X dJ7_fill_53178_14 rfl (by decide) rfl ?_
    refine g_goto (tgt := 5) X dJ7_fill_53178_17 (by decide) ?_
    refine g_lv (lv' := [(0, .ref (gAr G o 11)), (1, .int (iI v)), (2, .int (iI (k + 1))), (3, .int (iI 6))]) [1, 2, 0, 3] rfl ?_
    exact ih_5 (k + 1) w_1 ⟨(by first | omega | rfl | assumption), (by first | omega | rfl | assumption), (by rw [ew_1, hw, up_upA, fillN_suc, show (k + 1).toNat = k.toNat + 1 by omega])⟩ (by omega)
set_option maxHeartbeats 4000000 in
set_option maxRecDepth 100000 in
theorem c_J7_fill_53178_6_12 (l : Launch) (G : Ly) (o : Nat) (v : Int) (w : Wd) (ho : gOb G o = some 6) : Mv l yJ7_fill_53178 cJ7_fill_53178 4 none 0 0 G [.ref (gAr G o 12), .int (iI v)] w (fun w2 => w2 = upA w o 12 (fillN (w o 12) v 6)) := by
  refine mv_of (lv := [(0, .ref (gAr G o 12)), (1, .int (iI v))]) (by decide) (Nat.le_of_ble_eq_true rfl) rfl ?_
  intro p_ e_ s_ m_ b_ h_ c_ X
  refine g_iconst X dJ7_fill_53178_0 ?_
  refine g_istore_n (lv' := [(2, .int (iI 0)), (0, .ref (gAr G o 12)), (1, .int (iI v))]) X dJ7_fill_53178_1 rfl (by decide) rfl ?_
  refine g_aload_n X dJ7_fill_53178_2 rfl 1 rfl ?_
  refine h_alen X 6 rfl ho (by decide) (show fkX 6 12 = (1, 6) from rfl) dJ7_fill_53178_3 ?_
  refine g_istore_n (lv' := [(3, .int (iI 6)), (2, .int (iI 0)), (0, .ref (gAr G o 12)), (1, .int (iI v))]) X dJ7_fill_53178_4 rfl (by decide) rfl ?_
  refine g_lv (lv' := [(0, .ref (gAr G o 12)), (1, .int (iI v)), (2, .int (iI 0)), (3, .int (iI 6))]) [2, 3, 1, 0] rfl ?_
  refine g_loop2 (fun (k : Int) (w1 : Wd) => [(0, .ref (gAr G o 12)), (1, .int (iI v)), (2, .int (iI k)), (3, .int (iI 6))]) (fun (k : Int) (w1 : Wd) => w1) (fun (k : Int) (w1 : Wd) => (0 ≤ k) ∧ (k ≤ 6) ∧ (w1 = upA w o 12 (fillN (w o 12) v k.toNat))) (fun (k : Int) (w1 : Wd) => (6 - k).toNat) 0 w ⟨(by first | omega | rfl | assumption), (by first | omega | rfl | assumption), (by show w = upA w o 12 (fillN (w o 12) v 0); rw [fillN_0, upA_self])⟩ ?_
  intro k w1 hI_5 ih_5
  obtain ⟨h0, h1, hw⟩ := hI_5
  try dsimp only at ih_5 ⊢
  refine g_iload_n X dJ7_fill_53178_5 rfl 2 rfl ?_
  refine g_iload_n X dJ7_fill_53178_6 rfl 3 rfl ?_
  refine g_icmp_ge (tgt := 20) X dJ7_fill_53178_7 (by decide) (by unfold InR; omega) ⟨by decide, by decide⟩ (fun c_7 => ?_) (fun c_7 => ?_)
  · skip
    exact g_vret X rfl dJ7_fill_53178_20 (by rw [hw, show k.toNat = 6 by omega])
  · skip
    refine g_aload_n X dJ7_fill_53178_10 rfl 0 rfl ?_
    refine g_iload_n X dJ7_fill_53178_11 rfl 2 rfl ?_
    refine g_iload_n X dJ7_fill_53178_12 rfl 1 rfl ?_
    refine h_iast (a := k) (j := (k).toNat) X rfl ho (by decide) (show fkX 6 12 = (1, 6) from rfl) (by decide) (by omega) (by omega) dJ7_fill_53178_13 ?_
    obtain ⟨w_1, ew_1⟩ : ∃ q_ : Wd, q_ = up w1 o 12 (k).toNat v := ⟨_, rfl⟩
    refine g_w (w' := w_1) ew_1 ?_
    refine g_iinc (j := 2) (lv' := [(2, .int (iI (k + 1))), (0, .ref (gAr G o 12)), (1, .int (iI v)), (3, .int (iI 6))]) X dJ7_fill_53178_14 rfl (by decide) rfl ?_
    refine g_goto (tgt := 5) X dJ7_fill_53178_17 (by decide) ?_
    refine g_lv (lv' := [(0, .ref (gAr G o 12)), (1, .int (iI v)), (2, .int (iI (k + 1))), (3, .int (iI 6))]) [1, 2, 0, 3] rfl ?_
    exact ih_5 (k + 1) w_1 ⟨(by first | omega | rfl | assumption), (by first | omega | rfl | assumption), (by rw [ew_1, hw, up_upA, fillN_suc, show (k + 1).toNat = k.toNat + 1 by omega])⟩ (by omega)
set_option maxHeartbeats 4000000 in
set_option maxRecDepth 100000 in
theorem c_J7_fill_53178_6_14 (l : Launch) (G : Ly) (o : Nat) (v : Int) (w : Wd) (ho : gOb G o = some 6) : Mv l yJ7_fill_53178 cJ7_fill_53178 4 none 0 0 G [.ref (gAr G o 14), .int (iI v)] w (fun w2 => w2 = upA w o 14 (fillN (w o 14) v 6)) := by
  refine mv_of (lv := [(0, .ref (gAr G o 14)), (1, .int (iI v))]) (by decide) (Nat.le_of_ble_eq_true rfl) rfl ?_
  intro p_ e_ s_ m_ b_ h_ c_ X
  refine g_iconst X dJ7_fill_53178_0 ?_
  refine g_istore_n (lv' := [(2, .int (iI 0)), (0, .ref (gAr G o 14)), (1, .int (iI v))]) X dJ7_fill_53178_1 rfl (by decide) rfl ?_
  refine g_aload_n X dJ7_fill_53178_2 rfl 1 rfl ?_
  refine h_alen X 6 rfl ho (by decide) (show fkX 6 14 = (1, 6) from rfl) dJ7_fill_53178_3 ?_
  refine g_istore_n (lv' := [(3, .int (iI 6)), (2, .int (iI 0)), (0, .ref (gAr G o 14)), (1, .int (iI v))]) X dJ7_fill_53178_4 rfl (by decide) rfl ?_
  refine g_lv (lv' := [(0, .ref (gAr G o 14)), (1, .int (iI v)), (2, .int (iI 0)), (3, .int (iI 6))]) [2, 3, 1, 0] rfl ?_
  refine g_loop2 (fun (k : Int) (w1 : Wd) => [(0, .ref (gAr G o 14)), (1, .int (iI v)), (2, .int (iI k)), (3, .int (iI 6))]) (fun (k : Int) (w1 : Wd) => w1) (fun (k : Int) (w1 : Wd) => (0 ≤ k) ∧ (k ≤ 6) ∧ (w1 = upA w o 14 (fillN (w o 14) v k.toNat))) (fun (k : Int) (w1 : Wd) => (6 - k).toNat) 0 w ⟨(by first | omega | rfl | assumption), (by first | omega | rfl | assumption), (by show w = upA w o 14 (fillN (w o 14) v 0); rw [fillN_0, upA_self])⟩ ?_
  intro k w1 hI_5 ih_5
  obtain ⟨h0, h1, hw⟩ := hI_5
  try dsimp only at ih_5 ⊢
  refine g_iload_n X dJ7_fill_53178_5 rfl 2 rfl ?_
  refine g_iload_n X dJ7_fill_53178_6 rfl 3 rfl ?_
  refine g_icmp_ge (tgt := 20) X dJ7_fill_53178_7 (by decide) (by unfold InR; omega) ⟨by decide, by decide⟩ (fun c_7 => ?_) (fun c_7 => ?_)
  · skip
    exact g_vret X rfl dJ7_fill_53178_20 (by rw [hw, show k.toNat = 6 by omega])
  · skip
    refine g_aload_n X dJ7_fill_53178_10 rfl 0 rfl ?_
    refine g_iload_n X dJ7_fill_53178_11 rfl 2 rfl ?_
    refine g_iload_n X dJ7_fill_53178_12 rfl 1 rfl ?_
    refine h_iast (a := k) (j := (k).toNat) X rfl ho (by decide) (show fkX 6 14 = (1, 6) from rfl) (by decide) (by omega) (by omega) dJ7_fill_53178_13 ?_
    obtain ⟨w_1, ew_1⟩ : ∃ q_ : Wd, q_ = up w1 o 14 (k).toNat v := ⟨_, rfl⟩
    refine g_w (w' := w_1) ew_1 ?_
    refine g_iinc (j := 2) (lv' := [(2, .int (iI (k + 1))), (0, .ref (gAr G o 14)), (1, .int (iI v)), (3, .int (iI 6))]) X dJ7_fill_53178_14 rfl (by decide) rfl ?_
    refine g_goto (tgt := 5) X dJ7_fill_53178_17 (by decide) ?_
    refine g_lv (lv' := [(0, .ref (gAr G o 14)), (1, .int (iI v)), (2, .int (iI (k + 1))), (3, .int (iI 6))]) [1, 2, 0, 3] rfl ?_
    exact ih_5 (k + 1) w_1 ⟨(by first | omega | rfl | assumption), (by first | omega | rfl | assumption), (by rw [ew_1, hw, up_upA, fillN_suc, show (k + 1).toNat = k.toNat + 1 by omega])⟩ (by omega)
set_option maxHeartbeats 4000000 in
set_option maxRecDepth 100000 in
theorem c_J7_fill_53178_0_1 (l : Launch) (G : Ly) (o : Nat) (v : Int) (w : Wd) (ho : gOb G o = some 0) : Mv l yJ7_fill_53178 cJ7_fill_53178 4 none 0 0 G [.ref (gAr G o 1), .int (iI v)] w (fun w2 => w2 = upA w o 1 (fillN (w o 1) v 481)) := by
  refine mv_of (lv := [(0, .ref (gAr G o 1)), (1, .int (iI v))]) (by decide) (Nat.le_of_ble_eq_true rfl) rfl ?_
  intro p_ e_ s_ m_ b_ h_ c_ X
  refine g_iconst X dJ7_fill_53178_0 ?_
  refine g_istore_n (lv' := [(2, .int (iI 0)), (0, .ref (gAr G o 1)), (1, .int (iI v))]) X dJ7_fill_53178_1 rfl (by decide) rfl ?_
  refine g_aload_n X dJ7_fill_53178_2 rfl 1 rfl ?_
  refine h_alen X 481 rfl ho (by decide) (show fkX 0 1 = (1, 481) from rfl) dJ7_fill_53178_3 ?_
  refine g_istore_n (lv' := [(3, .int (iI 481)), (2, .int (iI 0)), (0, .ref (gAr G o 1)), (1, .int (iI v))]) X dJ7_fill_53178_4 rfl (by decide) rfl ?_
  refine g_lv (lv' := [(0, .ref (gAr G o 1)), (1, .int (iI v)), (2, .int (iI 0)), (3, .int (iI 481))]) [2, 3, 1, 0] rfl ?_
  refine g_loop2 (fun (k : Int) (w1 : Wd) => [(0, .ref (gAr G o 1)), (1, .int (iI v)), (2, .int (iI k)), (3, .int (iI 481))]) (fun (k : Int) (w1 : Wd) => w1) (fun (k : Int) (w1 : Wd) => (0 ≤ k) ∧ (k ≤ 481) ∧ (w1 = upA w o 1 (fillN (w o 1) v k.toNat))) (fun (k : Int) (w1 : Wd) => (481 - k).toNat) 0 w ⟨(by first | omega | rfl | assumption), (by first | omega | rfl | assumption), (by show w = upA w o 1 (fillN (w o 1) v 0); rw [fillN_0, upA_self])⟩ ?_
  intro k w1 hI_5 ih_5
  obtain ⟨h0, h1, hw⟩ := hI_5
  try dsimp only at ih_5 ⊢
  refine g_iload_n X dJ7_fill_53178_5 rfl 2 rfl ?_
  refine g_iload_n X dJ7_fill_53178_6 rfl 3 rfl ?_
  refine g_icmp_ge (tgt := 20) X dJ7_fill_53178_7 (by decide) (by unfold InR; omega) ⟨by decide, by decide⟩ (fun c_7 => ?_) (fun c_7 => ?_)
  · skip
    exact g_vret X rfl dJ7_fill_53178_20 (by rw [hw, show k.toNat = 481 by omega])
  · skip
    refine g_aload_n X dJ7_fill_53178_10 rfl 0 rfl ?_
    refine g_iload_n X dJ7_fill_53178_11 rfl 2 rfl ?_
    refine g_iload_n X dJ7_fill_53178_12 rfl 1 rfl ?_
    refine h_iast (a := k) (j := (k).toNat) X rfl ho (by decide) (show fkX 0 1 = (1, 481) from rfl) (by decide) (by omega) (by omega) dJ7_fill_53178_13 ?_
    obtain ⟨w_1, ew_1⟩ : ∃ q_ : Wd, q_ = up w1 o 1 (k).toNat v := ⟨_, rfl⟩
    refine g_w (w' := w_1) ew_1 ?_
    refine g_iinc (j := 2) (lv' := [(2, .int (iI (k + 1))), (0, .ref (gAr G o 1)), (1, .int (iI v)), (3, .int (iI 481))]) X dJ7_fill_53178_14 rfl (by decide) rfl ?_
    refine g_goto (tgt := 5) X dJ7_fill_53178_17 (by decide) ?_
    refine g_lv (lv' := [(0, .ref (gAr G o 1)), (1, .int (iI v)), (2, .int (iI (k + 1))), (3, .int (iI 481))]) [1, 2, 0, 3] rfl ?_
    exact ih_5 (k + 1) w_1 ⟨(by first | omega | rfl | assumption), (by first | omega | rfl | assumption), (by rw [ew_1, hw, up_upA, fillN_suc, show (k + 1).toNat = k.toNat + 1 by omega])⟩ (by omega)
set_option maxHeartbeats 4000000 in
set_option maxRecDepth 100000 in
theorem c_X6_running (l : Launch) (G : Ly) (o : Nat) (w : Wd) (ho : gOb G o = some 6) : Mi l yX6_running cX6_running 1 (some .int) 0 0 G [.ref (gAd G o)] w (fun z w2 => z = (bor (w o 6 0) (w o 7 0)) ∧ w2 = w) := by
  refine mi_of (lv := [(0, .ref (gAd G o))]) (by decide) (Nat.le_of_ble_eq_true rfl) rfl ?_
  intro p_ e_ s_ m_ b_ h_ c_ X
  refine g_aload_n X dX6_running_0 rfl 0 rfl ?_
  refine g_geti X ck_X6 ho 6 (by decide) fl_X6_58 (Or.inl rfl) dX6_running_1 ?_
  refine g_aload_n X dX6_running_4 rfl 0 rfl ?_
  refine g_geti X ck_X6 ho 7 (by decide) fl_X6_61 (Or.inl rfl) dX6_running_5 ?_
  refine g_ior X dX6_running_8 ?_
  exact g_iret X rfl rfl dX6_running_9 (by first | exact ⟨rfl, rfl⟩ | rfl | omega)
set_option maxHeartbeats 4000000 in
set_option maxRecDepth 100000 in
theorem c_X6_lift (l : Launch) (G : Ly) (o : Nat) (w : Wd) (ho : gOb G o = some 6) (hr : InR (w o 0 2 - w o 0 3)) : Mi l yX6_lift cX6_lift 1 (some .int) 1 21 G [.ref (gAd G o)] w (fun z w2 => z = (max 0 (w o 0 2 - w o 0 3)) ∧ w2 = w) := by
  refine mi_of (lv := [(0, .ref (gAd G o))]) (by decide) (Nat.le_of_ble_eq_true rfl) rfl ?_
  intro p_ e_ s_ m_ b_ h_ c_ X
  refine g_iconst X dX6_lift_0 ?_
  refine g_aload_n X dX6_lift_1 rfl 0 rfl ?_
  refine g_geta X ck_X6 ho 0 (by decide) fl_X6_9 rfl dX6_lift_2 ?_
  refine g_iconst X dX6_lift_5 ?_
  refine h_iald (a := 2) (j := 2) X rfl ho (by decide) (show fkX 6 0 = (1, 4) from rfl) (by decide) (by omega) (by omega) dX6_lift_6 ?_
  refine g_aload_n X dX6_lift_7 rfl 0 rfl ?_
  refine g_geta X ck_X6 ho 0 (by decide) fl_X6_9 rfl dX6_lift_8 ?_
  refine g_iconst X dX6_lift_11 ?_
  refine h_iald (a := 3) (j := 3) X rfl ho (by decide) (show fkX 6 0 = (1, 4) from rfl) (by decide) (by omega) (by omega) dX6_lift_12 ?_
  refine g_isub X dX6_lift_13 ?_
  refine g_max X ml_X6_77 ⟨by decide, by decide⟩ (by exact hr) ⟨Nat.le_of_ble_eq_true rfl, Nat.le_of_ble_eq_true rfl⟩ (Nat.le_of_ble_eq_true rfl) dX6_lift_14 ?_
  exact g_iret X rfl rfl dX6_lift_17 (by first | exact ⟨rfl, rfl⟩ | rfl | omega)
set_option maxHeartbeats 4000000 in
set_option maxRecDepth 100000 in
theorem c_X6_startedSoFar (l : Launch) (G : Ly) (o : Nat) (w : Wd) (ho : gOb G o = some 6) : Mi l yX6_startedSoFar cX6_startedSoFar 3 (some .int) 0 0 G [.ref (gAd G o)] w (fun z w2 => z = (sumN (w o 12) 6) ∧ w2 = w) := by
  refine mi_of (lv := [(0, .ref (gAd G o))]) (by decide) (Nat.le_of_ble_eq_true rfl) rfl ?_
  intro p_ e_ s_ m_ b_ h_ c_ X
  refine g_iconst X dX6_startedSoFar_0 ?_
  refine g_istore_n (lv' := [(1, .int (iI 0)), (0, .ref (gAd G o))]) X dX6_startedSoFar_1 rfl (by decide) rfl ?_
  refine g_iconst X dX6_startedSoFar_2 ?_
  refine g_istore_n (lv' := [(2, .int (iI 0)), (1, .int (iI 0)), (0, .ref (gAd G o))]) X dX6_startedSoFar_3 rfl (by decide) rfl ?_
  refine g_lv (lv' := [(0, .ref (gAd G o)), (1, .int (iI 0)), (2, .int (iI 0))]) [2, 1, 0] rfl ?_
  refine g_loop2 (fun (sum : Int) (k : Int) => [(0, .ref (gAd G o)), (1, .int (iI sum)), (2, .int (iI k))]) (fun (sum : Int) (k : Int) => w) (fun (sum : Int) (k : Int) => (0 ≤ k) ∧ (k ≤ 6) ∧ (sum = sumN (w o 12) k.toNat)) (fun (sum : Int) (k : Int) => (6 - k).toNat) 0 0 ⟨(by first | omega | rfl | assumption), (by first | omega | rfl | assumption), (by first | omega | rfl | assumption)⟩ ?_
  intro sum k hI_4 ih_4
  obtain ⟨h0, h1, hs⟩ := hI_4
  try dsimp only at ih_4 ⊢
  refine g_iload_n X dX6_startedSoFar_4 rfl 2 rfl ?_
  refine g_bipush X dX6_startedSoFar_5 (by decide) ?_
  refine g_icmp_ge (tgt := 25) X dX6_startedSoFar_7 (by decide) (by unfold InR; omega) ⟨by decide, by decide⟩ (fun c_7 => ?_) (fun c_7 => ?_)
  · skip
    refine g_iload_n X dX6_startedSoFar_25 rfl 1 rfl ?_
    exact g_iret X rfl rfl dX6_startedSoFar_26 (by exact ⟨by rw [hs, show k.toNat = 6 by omega], rfl⟩)
  · skip
    refine g_iload_n X dX6_startedSoFar_10 rfl 1 rfl ?_
    refine g_aload_n X dX6_startedSoFar_11 rfl 0 rfl ?_
    refine g_geta X ck_X6 ho 12 (by decide) fl_X6_21 rfl dX6_startedSoFar_12 ?_
    refine g_iload_n X dX6_startedSoFar_15 rfl 2 rfl ?_
    refine h_iald (a := k) (j := (k).toNat) X rfl ho (by decide) (show fkX 6 12 = (1, 6) from rfl) (by decide) (by omega) (by omega) dX6_startedSoFar_16 ?_
    refine g_iadd X dX6_startedSoFar_17 ?_
    refine g_istore_n (lv' := [(1, .int (iI (sum + (w o 12 (k).toNat)))), (0, .ref (gAd G o)), (2, .int (iI k))]) X dX6_startedSoFar_18 rfl (by decide) rfl ?_
    refine g_iinc (j := 2) (lv' := [(2, .int (iI (k + 1))), (1, .int (iI (sum + (w o 12 (k).toNat)))), (0, .ref (gAd G o))]) X dX6_startedSoFar_19 rfl (by decide) rfl ?_
    refine g_goto (tgt := 4) X dX6_startedSoFar_22 (by decide) ?_
    refine g_lv (lv' := [(0, .ref (gAd G o)), (1, .int (iI (sum + (w o 12 (k).toNat)))), (2, .int (iI (k + 1)))]) [2, 1, 0] rfl ?_
    exact ih_4 (sum + (w o 12 (k).toNat)) (k + 1) ⟨(by first | omega | rfl | assumption), (by first | omega | rfl | assumption), (by rw [sumN_suc h0, hs])⟩ (by omega)
set_option maxHeartbeats 4000000 in
set_option maxRecDepth 100000 in
theorem c_X6_ringPlace (l : Launch) (G : Ly) (m : Int) (start : Int) (w : Wd) (hm : 0 ≤ m ∧ m < 6) (hs : 0 ≤ start ∧ start ≤ 2147483647) : Mi l yX6_ringPlace cX6_ringPlace 2 (some .int) 1 22 G [.int (iI m), .int (iI start)] w (fun z w2 => z = (m * 9 + start % 9) ∧ w2 = w) := by
  refine mi_of (lv := [(0, .int (iI m)), (1, .int (iI start))]) (by decide) (Nat.le_of_ble_eq_true rfl) rfl ?_
  intro p_ e_ s_ m_ b_ h_ c_ X
  refine g_iload_n X dX6_ringPlace_0 rfl 0 rfl ?_
  refine g_bipush X dX6_ringPlace_1 (by decide) ?_
  refine g_imul X dX6_ringPlace_3 ?_
  refine g_iload_n X dX6_ringPlace_4 rfl 1 rfl ?_
  refine g_bipush X dX6_ringPlace_5 (by decide) ?_
  refine g_callsi (st := [.int (iI (m * 9))]) X (c_J9_floorMod_7cf53 l G start 9 w (by first | assumption | omega | (unfold InR; omega)) (by first | assumption | omega | (unfold InR; omega))) cm_J9_floorMod_7cf53 sm_J9_floorMod_7cf53 ml_X6_96 ⟨Nat.le_of_ble_eq_true rfl, Nat.le_of_ble_eq_true rfl⟩ rfl rfl (Nat.le_of_ble_eq_true rfl) dX6_ringPlace_7 (fn_i ?_)
  refine g_iadd X dX6_ringPlace_10 ?_
  exact g_iret X rfl rfl dX6_ringPlace_11 (by first | exact ⟨rfl, rfl⟩ | rfl | omega)
set_option maxHeartbeats 4000000 in
set_option maxRecDepth 100000 in
theorem c_X6_start (l : Launch) (G : Ly) (o : Nat) (m : Int) (w : Wd) (ho : gOb G o = some 6) (hm : 0 ≤ m ∧ m < 6) (hs : 0 ≤ w o 12 m.toNat ∧ w o 12 m.toNat ≤ 1000000) : Mv l yX6_start cX6_start 2 none 2 43 G [.ref (gAd G o), .int (iI m)] w (fun w2 => w2 = up (up (up (up w o 6 0 (bor (w o 6 0) (bshl 1 m))) o 13 (m * 9 + w o 12 m.toNat % 9).toNat (w o 1 0)) o 12 m.toNat (w o 12 m.toNat + 1)) o 8 0 (w o 1 0)) := by
  refine mv_of (lv := [(0, .ref (gAd G o)), (1, .int (iI m))]) (by decide) (Nat.le_of_ble_eq_true rfl) rfl ?_
  intro p_ e_ s_ m_ b_ h_ c_ X
  refine g_aload_n X dX6_start_0 rfl 0 rfl ?_
  refine g_dup X dX6_start_1 rfl ?_
  refine g_geti X ck_X6 ho 6 (by decide) fl_X6_58 (Or.inl rfl) dX6_start_2 ?_
  refine g_iconst X dX6_start_5 ?_
  refine g_iload_n X dX6_start_6 rfl 1 rfl ?_
  refine g_ishl X dX6_start_7 ?_
  refine g_ior X dX6_start_8 ?_
  refine g_puti X ck_X6 ho 6 (by decide) fl_X6_58 rfl rfl rfl dX6_start_9 ?_
  obtain ⟨w_1, ew_1⟩ : ∃ q_ : Wd, q_ = up w o 6 0 (bor (w o 6 0) (bshl 1 m)) := ⟨_, rfl⟩
  refine g_w (w' := w_1) ew_1 ?_
  refine g_aload_n X dX6_start_12 rfl 0 rfl ?_
  refine g_geta X ck_X6 ho 13 (by decide) fl_X6_24 rfl dX6_start_13 ?_
  refine g_iload_n X dX6_start_16 rfl 1 rfl ?_
  refine g_aload_n X dX6_start_17 rfl 0 rfl ?_
  refine g_geta X ck_X6 ho 12 (by decide) fl_X6_21 rfl dX6_start_18 ?_
  refine g_iload_n X dX6_start_21 rfl 1 rfl ?_
  refine h_iald (a := m) (j := (m).toNat) X rfl ho (by decide) (show fkX 6 12 = (1, 6) from rfl) (by decide) (by omega) (by omega) dX6_start_22 ?_
  refine g_callsi (st := [.ref (gAr G o 13)]) X (c_X6_ringPlace l G m (w_1 o 12 (m).toNat) w_1 (by first | assumption | omega | (unfold InR; omega)) (by rw [ew_1]; simp [up]; omega)) cm_X6_ringPlace sm_X6_ringPlace ml_X6_83 ⟨Nat.le_of_ble_eq_true rfl, Nat.le_of_ble_eq_true rfl⟩ rfl rfl (Nat.le_of_ble_eq_true rfl) dX6_start_23 (fn_i ?_)
  refine g_aload_n X dX6_start_26 rfl 0 rfl ?_
  refine g_geti X ck_X6 ho 1 (by decide) fl_X6_42 (Or.inl rfl) dX6_start_27 ?_
  refine h_iast (a := m * 9 + (w_1 o 12 (m).toNat) % 9) (j := (m * 9 + (w_1 o 12 (m).toNat) % 9).toNat) X rfl ho (by decide) (show fkX 6 13 = (1, 54) from rfl) (by decide) (by rw [ew_1]; simp [up]; omega) (by rw [ew_1]; simp [up]; omega) dX6_start_30 ?_
  obtain ⟨w_2, ew_2⟩ : ∃ q_ : Wd, q_ = up w_1 o 13 (m * 9 + (w_1 o 12 (m).toNat) % 9).toNat (w_1 o 1 0) := ⟨_, rfl⟩
  refine g_w (w' := w_2) ew_2 ?_
  refine g_aload_n X dX6_start_31 rfl 0 rfl ?_
  refine g_geta X ck_X6 ho 12 (by decide) fl_X6_21 rfl dX6_start_32 ?_
  refine g_iload_n X dX6_start_35 rfl 1 rfl ?_
  refine g_dup2 X dX6_start_36 rfl rfl ?_
  refine h_iald (a := m) (j := (m).toNat) X rfl ho (by decide) (show fkX 6 12 = (1, 6) from rfl) (by decide) (by omega) (by omega) dX6_start_37 ?_
  refine g_iconst X dX6_start_38 ?_
  refine g_iadd X dX6_start_39 ?_
  refine h_iast (a := m) (j := (m).toNat) X rfl ho (by decide) (show fkX 6 12 = (1, 6) from rfl) (by decide) (by omega) (by omega) dX6_start_40 ?_
  obtain ⟨w_3, ew_3⟩ : ∃ q_ : Wd, q_ = up w_2 o 12 (m).toNat ((w_2 o 12 (m).toNat) + 1) := ⟨_, rfl⟩
  refine g_w (w' := w_3) ew_3 ?_
  refine g_aload_n X dX6_start_41 rfl 0 rfl ?_
  refine g_aload_n X dX6_start_42 rfl 0 rfl ?_
  refine g_geti X ck_X6 ho 1 (by decide) fl_X6_42 (Or.inl rfl) dX6_start_43 ?_
  refine g_puti X ck_X6 ho 8 (by decide) fl_X6_65 rfl rfl rfl dX6_start_46 ?_
  obtain ⟨w_4, ew_4⟩ : ∃ q_ : Wd, q_ = up w_3 o 8 0 (w_3 o 1 0) := ⟨_, rfl⟩
  refine g_w (w' := w_4) ew_4 ?_
  exact g_vret X rfl dX6_start_49 (by rw [ew_4, ew_3, ew_2, ew_1]; simp [up])
set_option maxHeartbeats 4000000 in
set_option maxRecDepth 100000 in
theorem c_X6_stop (l : Launch) (G : Ly) (o : Nat) (m : Int) (w : Wd) (ho : gOb G o = some 6) (hm : 0 ≤ m ∧ m < 6) (h6 : 0 ≤ w o 6 0 ∧ w o 6 0 < 64) (h7 : 0 ≤ w o 7 0 ∧ w o 7 0 < 64) : Mv l yX6_stop cX6_stop 2 none 1 21 G [.ref (gAd G o), .int (iI m)] w (fun w2 => (tb (bor (w o 6 0) (w o 7 0)) m.toNat = 1 ∧ w2 = up (up (up w o 6 0 (band (w o 6 0) (bxor (bshl 1 m) (-1)))) o 7 0 (band (w o 7 0) (bxor (bshl 1 m) (-1)))) o 14 m.toNat (w o 1 0)) ∨ (tb (bor (w o 6 0) (w o 7 0)) m.toNat = 0 ∧ w2 = w)) := by
  refine mv_of (lv := [(0, .ref (gAd G o)), (1, .int (iI m))]) (by decide) (Nat.le_of_ble_eq_true rfl) rfl ?_
  intro p_ e_ s_ m_ b_ h_ c_ X
  have hb := bt_or h6.1 h6.2 h7.1 h7.2
  have ht := tb01 (bor (w o 6 0) (w o 7 0)) m.toNat
  refine g_aload_n X dX6_stop_0 rfl 0 rfl ?_
  refine g_calli (st := []) X (c_X6_running l G o w ho) cm_X6_running im_X6_running se_X6_running ml_X6_86 ck_X6 ho ⟨Nat.le_of_ble_eq_true rfl, Nat.le_of_ble_eq_true rfl⟩ rfl rfl (Nat.le_of_ble_eq_true rfl) dX6_stop_1 (fn_i ?_)
  refine g_iload_n X dX6_stop_4 rfl 1 rfl ?_
  refine g_callni (st := []) X (c_X7_bitOf l G (bor (w o 6 0) (w o 7 0)) m w (by first | assumption | omega | (unfold InR; omega)) (by first | assumption | omega | (unfold InR; omega))) cm_X7_bitOf sm_X7_bitOf mn_X6_90 ⟨Nat.le_of_ble_eq_true rfl, Nat.le_of_ble_eq_true rfl⟩ rfl rfl (Nat.le_of_ble_eq_true rfl) dX6_stop_5 (fn_i ?_)
  refine g_iconst X dX6_stop_8 ?_
  refine g_icmp_ne (tgt := 50) X dX6_stop_9 (by decide) (by unfold InR; omega) ⟨by decide, by decide⟩ (fun c_9 => ?_) (fun c_9 => ?_)
  · skip
    exact g_vret X rfl dX6_stop_50 (by first | exact Or.inr ⟨by omega, rfl⟩ | exact Or.inl ⟨by omega, by rw []; simp [up]⟩)
  · skip
    refine g_aload_n X dX6_stop_12 rfl 0 rfl ?_
    refine g_dup X dX6_stop_13 rfl ?_
    refine g_geti X ck_X6 ho 6 (by decide) fl_X6_58 (Or.inl rfl) dX6_stop_14 ?_
    refine g_iconst X dX6_stop_17 ?_
    refine g_iload_n X dX6_stop_18 rfl 1 rfl ?_
    refine g_ishl X dX6_stop_19 ?_
    refine g_iconst X dX6_stop_20 ?_
    refine g_ixor X dX6_stop_21 ?_
    refine g_iand X dX6_stop_22 ?_
    refine g_puti X ck_X6 ho 6 (by decide) fl_X6_58 rfl rfl rfl dX6_stop_23 ?_
    obtain ⟨w_1, ew_1⟩ : ∃ q_ : Wd, q_ = up w o 6 0 (band (w o 6 0) (bxor (bshl 1 m) (-1))) := ⟨_, rfl⟩
    refine g_w (w' := w_1) ew_1 ?_
    refine g_aload_n X dX6_stop_26 rfl 0 rfl ?_
    refine g_dup X dX6_stop_27 rfl ?_
    refine g_geti X ck_X6 ho 7 (by decide) fl_X6_61 (Or.inl rfl) dX6_stop_28 ?_
    refine g_iconst X dX6_stop_31 ?_
    refine g_iload_n X dX6_stop_32 rfl 1 rfl ?_
    refine g_ishl X dX6_stop_33 ?_
    refine g_iconst X dX6_stop_34 ?_
    refine g_ixor X dX6_stop_35 ?_
    refine g_iand X dX6_stop_36 ?_
    refine g_puti X ck_X6 ho 7 (by decide) fl_X6_61 rfl rfl rfl dX6_stop_37 ?_
    obtain ⟨w_2, ew_2⟩ : ∃ q_ : Wd, q_ = up w_1 o 7 0 (band (w_1 o 7 0) (bxor (bshl 1 m) (-1))) := ⟨_, rfl⟩
    refine g_w (w' := w_2) ew_2 ?_
    refine g_aload_n X dX6_stop_40 rfl 0 rfl ?_
    refine g_geta X ck_X6 ho 14 (by decide) fl_X6_27 rfl dX6_stop_41 ?_
    refine g_iload_n X dX6_stop_44 rfl 1 rfl ?_
    refine g_aload_n X dX6_stop_45 rfl 0 rfl ?_
    refine g_geti X ck_X6 ho 1 (by decide) fl_X6_42 (Or.inl rfl) dX6_stop_46 ?_
    refine h_iast (a := m) (j := (m).toNat) X rfl ho (by decide) (show fkX 6 14 = (1, 6) from rfl) (by decide) (by omega) (by omega) dX6_stop_49 ?_
    obtain ⟨w_3, ew_3⟩ : ∃ q_ : Wd, q_ = up w_2 o 14 (m).toNat (w_2 o 1 0) := ⟨_, rfl⟩
    refine g_w (w' := w_3) ew_3 ?_
    exact g_vret X rfl dX6_stop_50 (by first | exact Or.inr ⟨by omega, rfl⟩ | exact Or.inl ⟨by omega, by rw [ew_3, ew_2, ew_1]; simp [up]⟩)
set_option maxHeartbeats 4000000 in
set_option maxRecDepth 100000 in
theorem c_X6_ticksSinceStop (l : Launch) (G : Ly) (o : Nat) (m : Int) (tick : Int) (w : Wd) (ho : gOb G o = some 6) (hm : 0 ≤ m ∧ m < 6) : Mi l yX6_ticksSinceStop cX6_ticksSinceStop 3 (some .int) 0 0 G [.ref (gAd G o), .int (iI m), .int (iI tick)] w (fun z w2 => z = (tick - w o 14 m.toNat) ∧ w2 = w) := by
  refine mi_of (lv := [(0, .ref (gAd G o)), (1, .int (iI m)), (2, .int (iI tick))]) (by decide) (Nat.le_of_ble_eq_true rfl) rfl ?_
  intro p_ e_ s_ m_ b_ h_ c_ X
  refine g_iload_n X dX6_ticksSinceStop_0 rfl 2 rfl ?_
  refine g_aload_n X dX6_ticksSinceStop_1 rfl 0 rfl ?_
  refine g_geta X ck_X6 ho 14 (by decide) fl_X6_27 rfl dX6_ticksSinceStop_2 ?_
  refine g_iload_n X dX6_ticksSinceStop_5 rfl 1 rfl ?_
  refine h_iald (a := m) (j := (m).toNat) X rfl ho (by decide) (show fkX 6 14 = (1, 6) from rfl) (by decide) (by omega) (by omega) dX6_ticksSinceStop_6 ?_
  refine g_isub X dX6_ticksSinceStop_7 ?_
  exact g_iret X rfl rfl dX6_ticksSinceStop_8 (by first | exact ⟨rfl, rfl⟩ | rfl | omega)
set_option maxHeartbeats 4000000 in
set_option maxRecDepth 100000 in
theorem c_X6_startBack (l : Launch) (G : Ly) (o : Nat) (m : Int) (back : Int) (w : Wd) (ho : gOb G o = some 6) (hm : 0 ≤ m ∧ m < 6) (hs : 0 ≤ w o 12 m.toNat ∧ w o 12 m.toNat ≤ 1000000) (hb : 0 ≤ back ∧ back ≤ 9) : Mi l yX6_startBack cX6_startBack 3 (some .int) 2 43 G [.ref (gAd G o), .int (iI m), .int (iI back)] w (fun z w2 => z = (if w o 12 m.toNat < back then -100000 else w o 13 (m * 9 + (w o 12 m.toNat - back) % 9).toNat) ∧ w2 = w) := by
  refine mi_of (lv := [(0, .ref (gAd G o)), (1, .int (iI m)), (2, .int (iI back))]) (by decide) (Nat.le_of_ble_eq_true rfl) rfl ?_
  intro p_ e_ s_ m_ b_ h_ c_ X
  refine g_aload_n X dX6_startBack_0 rfl 0 rfl ?_
  refine g_geta X ck_X6 ho 12 (by decide) fl_X6_21 rfl dX6_startBack_1 ?_
  refine g_iload_n X dX6_startBack_4 rfl 1 rfl ?_
  refine h_iald (a := m) (j := (m).toNat) X rfl ho (by decide) (show fkX 6 12 = (1, 6) from rfl) (by decide) (by omega) (by omega) dX6_startBack_5 ?_
  refine g_iload_n X dX6_startBack_6 rfl 2 rfl ?_
  refine g_icmp_ge (tgt := 15) X dX6_startBack_7 (by decide) (by unfold InR; omega) (by unfold InR; omega) (fun c_7 => ?_) (fun c_7 => ?_)
  · skip
    refine g_aload_n X dX6_startBack_15 rfl 0 rfl ?_
    refine g_geta X ck_X6 ho 13 (by decide) fl_X6_24 rfl dX6_startBack_16 ?_
    refine g_iload_n X dX6_startBack_19 rfl 1 rfl ?_
    refine g_aload_n X dX6_startBack_20 rfl 0 rfl ?_
    refine g_geta X ck_X6 ho 12 (by decide) fl_X6_21 rfl dX6_startBack_21 ?_
    refine g_iload_n X dX6_startBack_24 rfl 1 rfl ?_
    refine h_iald (a := m) (j := (m).toNat) X rfl ho (by decide) (show fkX 6 12 = (1, 6) from rfl) (by decide) (by omega) (by omega) dX6_startBack_25 ?_
    refine g_iload_n X dX6_startBack_26 rfl 2 rfl ?_
    refine g_isub X dX6_startBack_27 ?_
    refine g_callsi (st := [.ref (gAr G o 13)]) X (c_X6_ringPlace l G m ((w o 12 (m).toNat) - back) w (by first | assumption | omega | (unfold InR; omega)) (by first | assumption | omega | (unfold InR; omega))) cm_X6_ringPlace sm_X6_ringPlace ml_X6_83 ⟨Nat.le_of_ble_eq_true rfl, Nat.le_of_ble_eq_true rfl⟩ rfl rfl (Nat.le_of_ble_eq_true rfl) dX6_startBack_28 (fn_i ?_)
    refine h_iald (a := m * 9 + ((w o 12 (m).toNat) - back) % 9) (j := (m * 9 + ((w o 12 (m).toNat) - back) % 9).toNat) X rfl ho (by decide) (show fkX 6 13 = (1, 54) from rfl) (by decide) (by omega) (by omega) dX6_startBack_31 ?_
    exact g_iret X rfl rfl dX6_startBack_32 (by first | exact ⟨by rw [if_pos (by omega)], rfl⟩ | exact ⟨by rw [if_neg (by omega)], rfl⟩)
  · skip
    refine g_ldc (n := (-100000)) X cst_X6_64 (by decide) dX6_startBack_10 ?_
    refine g_goto (tgt := 32) X dX6_startBack_12 (by decide) ?_
    exact g_iret X rfl rfl dX6_startBack_32 (by first | exact ⟨by rw [if_pos (by omega)], rfl⟩ | exact ⟨by rw [if_neg (by omega)], rfl⟩)
set_option maxHeartbeats 4000000 in
set_option maxRecDepth 100000 in
theorem c_X6_ticksSinceStart (l : Launch) (G : Ly) (o : Nat) (m : Int) (tick : Int) (w : Wd) (ho : gOb G o = some 6) (hm : 0 ≤ m ∧ m < 6) (hs : 0 ≤ w o 12 m.toNat ∧ w o 12 m.toNat ≤ 1000000) : Mi l yX6_ticksSinceStart cX6_ticksSinceStart 3 (some .int) 3 65 G [.ref (gAd G o), .int (iI m), .int (iI tick)] w (fun z w2 => z = (tick - (if w o 12 m.toNat < 1 then -100000 else w o 13 (m * 9 + (w o 12 m.toNat - 1) % 9).toNat)) ∧ w2 = w) := by
  refine mi_of (lv := [(0, .ref (gAd G o)), (1, .int (iI m)), (2, .int (iI tick))]) (by decide) (Nat.le_of_ble_eq_true rfl) rfl ?_
  intro p_ e_ s_ m_ b_ h_ c_ X
  refine g_iload_n X dX6_ticksSinceStart_0 rfl 2 rfl ?_
  refine g_aload_n X dX6_ticksSinceStart_1 rfl 0 rfl ?_
  refine g_iload_n X dX6_ticksSinceStart_2 rfl 1 rfl ?_
  refine g_iconst X dX6_ticksSinceStart_3 ?_
  refine g_calli (st := [.int (iI tick)]) X (c_X6_startBack l G o m 1 w ho (by first | assumption | omega | (unfold InR; omega)) (by first | assumption | omega | (unfold InR; omega)) (by first | assumption | omega | (unfold InR; omega))) cm_X6_startBack im_X6_startBack se_X6_startBack ml_X6_93 ck_X6 ho ⟨Nat.le_of_ble_eq_true rfl, Nat.le_of_ble_eq_true rfl⟩ rfl rfl (Nat.le_of_ble_eq_true rfl) dX6_ticksSinceStart_4 (fn_i ?_)
  refine g_isub X dX6_ticksSinceStart_7 ?_
  exact g_iret X rfl rfl dX6_ticksSinceStart_8 (by first | exact ⟨rfl, rfl⟩ | rfl | omega)
set_option maxHeartbeats 4000000 in
set_option maxRecDepth 100000 in
theorem c_X6_putOnList (l : Launch) (G : Ly) (o : Nat) (m : Int) (w : Wd) (ho : gOb G o = some 6) (hl : 0 ≤ w o 9 0 ∧ w o 9 0 < 6) : Mv l yX6_putOnList cX6_putOnList 2 none 0 0 G [.ref (gAd G o), .int (iI m)] w (fun w2 => w2 = up (up w o 10 (w o 9 0).toNat m) o 9 0 (w o 9 0 + 1)) := by
  refine mv_of (lv := [(0, .ref (gAd G o)), (1, .int (iI m))]) (by decide) (Nat.le_of_ble_eq_true rfl) rfl ?_
  intro p_ e_ s_ m_ b_ h_ c_ X
  refine g_aload_n X dX6_putOnList_0 rfl 0 rfl ?_
  refine g_geti X ck_X6 ho 9 (by decide) fl_X6_68 (Or.inl rfl) dX6_putOnList_1 ?_
  refine g_bipush X dX6_putOnList_4 (by decide) ?_
  refine g_icmp_ge (tgt := 29) X dX6_putOnList_6 (by decide) (by unfold InR; omega) ⟨by decide, by decide⟩ (fun c_6 => ?_) (fun c_6 => ?_)
  · exact absurd c_6 (by omega) --dead
  · skip
    refine g_aload_n X dX6_putOnList_9 rfl 0 rfl ?_
    refine g_geta X ck_X6 ho 10 (by decide) fl_X6_15 rfl dX6_putOnList_10 ?_
    refine g_aload_n X dX6_putOnList_13 rfl 0 rfl ?_
    refine g_geti X ck_X6 ho 9 (by decide) fl_X6_68 (Or.inl rfl) dX6_putOnList_14 ?_
    refine g_iload_n X dX6_putOnList_17 rfl 1 rfl ?_
    refine h_iast (a := w o 9 0) (j := (w o 9 0).toNat) X rfl ho (by decide) (show fkX 6 10 = (1, 6) from rfl) (by decide) (by omega) (by omega) dX6_putOnList_18 ?_
    obtain ⟨w_1, ew_1⟩ : ∃ q_ : Wd, q_ = up w o 10 (w o 9 0).toNat m := ⟨_, rfl⟩
    refine g_w (w' := w_1) ew_1 ?_
    refine g_aload_n X dX6_putOnList_19 rfl 0 rfl ?_
    refine g_dup X dX6_putOnList_20 rfl ?_
    refine g_geti X ck_X6 ho 9 (by decide) fl_X6_68 (Or.inl rfl) dX6_putOnList_21 ?_
    refine g_iconst X dX6_putOnList_24 ?_
    refine g_iadd X dX6_putOnList_25 ?_
    refine g_puti X ck_X6 ho 9 (by decide) fl_X6_68 rfl rfl rfl dX6_putOnList_26 ?_
    obtain ⟨w_2, ew_2⟩ : ∃ q_ : Wd, q_ = up w_1 o 9 0 ((w_1 o 9 0) + 1) := ⟨_, rfl⟩
    refine g_w (w' := w_2) ew_2 ?_
    exact g_vret X rfl dX6_putOnList_29 (by rw [ew_2, ew_1]; simp [up])
set_option maxHeartbeats 4000000 in
set_option maxRecDepth 100000 in
theorem c_X6_firstOfList (l : Launch) (G : Ly) (o : Nat) (w : Wd) (ho : gOb G o = some 6) : Mi l yX6_firstOfList cX6_firstOfList 1 (some .int) 0 0 G [.ref (gAd G o)] w (fun z w2 => z = (w o 10 0) ∧ w2 = w) := by
  refine mi_of (lv := [(0, .ref (gAd G o))]) (by decide) (Nat.le_of_ble_eq_true rfl) rfl ?_
  intro p_ e_ s_ m_ b_ h_ c_ X
  refine g_aload_n X dX6_firstOfList_0 rfl 0 rfl ?_
  refine g_geta X ck_X6 ho 10 (by decide) fl_X6_15 rfl dX6_firstOfList_1 ?_
  refine g_iconst X dX6_firstOfList_4 ?_
  refine h_iald (a := 0) (j := 0) X rfl ho (by decide) (show fkX 6 10 = (1, 6) from rfl) (by decide) (by omega) (by omega) dX6_firstOfList_5 ?_
  exact g_iret X rfl rfl dX6_firstOfList_6 (by first | exact ⟨rfl, rfl⟩ | rfl | omega)
set_option maxHeartbeats 4000000 in
set_option maxRecDepth 100000 in
theorem c_X6_takeOffList (l : Launch) (G : Ly) (o : Nat) (m : Int) (w : Wd) (ho : gOb G o = some 6) (hl : 0 ≤ w o 9 0 ∧ w o 9 0 ≤ 6) (hm : InR m) (hv : ∀ j : Nat, (j : Int) < w o 9 0 → InR (w o 10 j)) : Mv l yX6_takeOffList cX6_takeOffList 4 none 0 0 G [.ref (gAd G o), .int (iI m)] w (fun w2 => w2 = up (upA w o 10 (tol (w o 10) m (w o 9 0).toNat).1) o 9 0 ((tol (w o 10) m (w o 9 0).toNat).2 : Int)) := by
  refine mv_of (lv := [(0, .ref (gAd G o)), (1, .int (iI m))]) (by decide) (Nat.le_of_ble_eq_true rfl) rfl ?_
  intro p_ e_ s_ m_ b_ h_ c_ X
  refine g_iconst X dX6_takeOffList_0 ?_
  refine g_istore_n (lv' := [(2, .int (iI 0)), (0, .ref (gAd G o)), (1, .int (iI m))]) X dX6_takeOffList_1 rfl (by decide) rfl ?_
  refine g_iconst X dX6_takeOffList_2 ?_
  refine g_istore_n (lv' := [(3, .int (iI 0)), (2, .int (iI 0)), (0, .ref (gAd G o)), (1, .int (iI m))]) X dX6_takeOffList_3 rfl (by decide) rfl ?_
  refine g_lv (lv' := [(0, .ref (gAd G o)), (1, .int (iI m)), (2, .int (iI 0)), (3, .int (iI 0))]) [2, 3, 1, 0] rfl ?_
  refine g_loop3 (fun (kept : Int) (k : Int) (w1 : Wd) => [(0, .ref (gAd G o)), (1, .int (iI m)), (2, .int (iI kept)), (3, .int (iI k))]) (fun (kept : Int) (k : Int) (w1 : Wd) => w1) (fun (kept : Int) (k : Int) (w1 : Wd) => (0 ≤ k) ∧ (k ≤ w o 9 0) ∧ (kept = ((tol (w o 10) m k.toNat).2 : Int)) ∧ (w1 = upA w o 10 (tol (w o 10) m k.toNat).1)) (fun (kept : Int) (k : Int) (w1 : Wd) => (w o 9 0 - k).toNat) 0 0 w ⟨(by first | omega | rfl | assumption), (by first | omega | rfl | assumption), (by rfl), (by show w = upA w o 10 (w o 10); rw [upA_self])⟩ ?_
  intro kept k w1 hI_4 ih_4
  obtain ⟨h0, h1, hk, hw⟩ := hI_4
  try dsimp only at ih_4 ⊢
  have q9 : w1 o 9 0 = w o 9 0 := by rw [hw]; exact upA_nej (fun z => absurd z.2 (by decide))
  have q10 : w1 o 10 = (tol (w o 10) m k.toNat).1 := by rw [hw, upA_at]
  refine g_iload_n X dX6_takeOffList_4 rfl 3 rfl ?_
  refine g_aload_n X dX6_takeOffList_5 rfl 0 rfl ?_
  refine g_geti X ck_X6 ho 9 (by decide) fl_X6_68 (Or.inl rfl) dX6_takeOffList_6 ?_
  refine g_icmp_ge (tgt := 49) X dX6_takeOffList_9 (by decide) (by unfold InR; omega) (by rw [q9]; unfold InR; omega) (fun c_9 => ?_) (fun c_9 => ?_)
  · skip
    refine g_aload_n X dX6_takeOffList_49 rfl 0 rfl ?_
    refine g_iload_n X dX6_takeOffList_50 rfl 2 rfl ?_
    refine g_puti X ck_X6 ho 9 (by decide) fl_X6_68 rfl rfl rfl dX6_takeOffList_51 ?_
    obtain ⟨w_1, ew_1⟩ : ∃ q_ : Wd, q_ = up w1 o 9 0 kept := ⟨_, rfl⟩
    refine g_w (w' := w_1) ew_1 ?_
    exact g_vret X rfl dX6_takeOffList_54 (by rw [q9] at c_9; rw [ew_1, hw, hk, show k = w o 9 0 by omega])
  · rw [q9] at c_9
    refine g_iload_n X dX6_takeOffList_12 rfl 3 rfl ?_
    refine g_bipush X dX6_takeOffList_13 (by decide) ?_
    refine g_icmp_ge (tgt := 49) X dX6_takeOffList_15 (by decide) (by unfold InR; omega) ⟨by decide, by decide⟩ (fun c_15 => ?_) (fun c_15 => ?_)
    · exact absurd c_15 (by omega) --dead
    · skip
      refine g_aload_n X dX6_takeOffList_18 rfl 0 rfl ?_
      refine g_geta X ck_X6 ho 10 (by decide) fl_X6_15 rfl dX6_takeOffList_19 ?_
      refine g_iload_n X dX6_takeOffList_22 rfl 3 rfl ?_
      refine h_iald (a := k) (j := (k).toNat) X rfl ho (by decide) (show fkX 6 10 = (1, 6) from rfl) (by decide) (by omega) (by omega) dX6_takeOffList_23 ?_
      refine g_iload_n X dX6_takeOffList_24 rfl 1 rfl ?_
      refine g_icmp_eq (tgt := 43) X dX6_takeOffList_25 (by decide) (by rw [q10, tol_hi _ _ _ _ (Nat.le_refl _)]; exact hv _ (by omega)) (by exact hm) (fun c_25 => ?_) (fun c_25 => ?_)
      · skip
        refine g_iinc (j := 3) (lv' := [(3, .int (iI (k + 1))), (0, .ref (gAd G o)), (1, .int (iI m)), (2, .int (iI kept))]) X dX6_takeOffList_43 rfl (by decide) rfl ?_
        refine g_goto (tgt := 4) X dX6_takeOffList_46 (by decide) ?_
        refine g_lv (lv' := [(0, .ref (gAd G o)), (1, .int (iI m)), (2, .int (iI kept)), (3, .int (iI (k + 1)))]) [1, 2, 3, 0] rfl ?_
        exact ih_4 kept (k + 1) w1 ⟨(by first | omega | rfl | assumption), (by first | omega | rfl | assumption), (by rw [show (k + 1).toNat = k.toNat + 1 by omega]; unfold tol; first | (rw [if_pos (by rw [q10] at c_25; exact c_25)]; exact hk) | (rw [if_neg (by rw [q10] at c_25; exact c_25)]; omega)), (by rw [show (k + 1).toNat = k.toNat + 1 by omega]; unfold tol; first | (rw [if_pos (by rw [q10] at c_25; exact c_25)]; exact hw) | (rw [if_neg (by rw [q10] at c_25; exact c_25)]; show _ = upA w o 10 (fup _ _ _); rw [q10, hw, up_upA, show kept.toNat = (tol (w o 10) m k.toNat).2 by omega]))⟩ (by omega)
      · skip
        refine g_aload_n X dX6_takeOffList_28 rfl 0 rfl ?_
        refine g_geta X ck_X6 ho 10 (by decide) fl_X6_15 rfl dX6_takeOffList_29 ?_
        refine g_iload_n X dX6_takeOffList_32 rfl 2 rfl ?_
        refine g_aload_n X dX6_takeOffList_33 rfl 0 rfl ?_
        refine g_geta X ck_X6 ho 10 (by decide) fl_X6_15 rfl dX6_takeOffList_34 ?_
        refine g_iload_n X dX6_takeOffList_37 rfl 3 rfl ?_
        refine h_iald (a := k) (j := (k).toNat) X rfl ho (by decide) (show fkX 6 10 = (1, 6) from rfl) (by decide) (by omega) (by omega) dX6_takeOffList_38 ?_
        refine h_iast (a := kept) (j := (kept).toNat) X rfl ho (by decide) (show fkX 6 10 = (1, 6) from rfl) (by decide) (by omega) (by have := tol_le (w o 10) m k.toNat; omega) dX6_takeOffList_39 ?_
        obtain ⟨w_2, ew_2⟩ : ∃ q_ : Wd, q_ = up w1 o 10 (kept).toNat (w1 o 10 (k).toNat) := ⟨_, rfl⟩
        refine g_w (w' := w_2) ew_2 ?_
        refine g_iinc (j := 2) (lv' := [(2, .int (iI (kept + 1))), (0, .ref (gAd G o)), (1, .int (iI m)), (3, .int (iI k))]) X dX6_takeOffList_40 rfl (by decide) rfl ?_
        refine g_iinc (j := 3) (lv' := [(3, .int (iI (k + 1))), (2, .int (iI (kept + 1))), (0, .ref (gAd G o)), (1, .int (iI m))]) X dX6_takeOffList_43 rfl (by decide) rfl ?_
        refine g_goto (tgt := 4) X dX6_takeOffList_46 (by decide) ?_
        refine g_lv (lv' := [(0, .ref (gAd G o)), (1, .int (iI m)), (2, .int (iI (kept + 1))), (3, .int (iI (k + 1)))]) [2, 3, 1, 0] rfl ?_
        exact ih_4 (kept + 1) (k + 1) w_2 ⟨(by first | omega | rfl | assumption), (by first | omega | rfl | assumption), (by rw [show (k + 1).toNat = k.toNat + 1 by omega]; unfold tol; first | (rw [if_pos (by rw [q10] at c_25; exact c_25)]; exact hk) | (rw [if_neg (by rw [q10] at c_25; exact c_25)]; omega)), (by rw [show (k + 1).toNat = k.toNat + 1 by omega]; unfold tol; first | (rw [if_pos (by rw [q10] at c_25; exact c_25)]; exact hw) | (rw [if_neg (by rw [q10] at c_25; exact c_25)]; show _ = upA w o 10 (fup _ _ _); rw [ew_2, q10, hw, up_upA, show kept.toNat = (tol (w o 10) m k.toNat).2 by omega]))⟩ (by omega)
set_option maxHeartbeats 4000000 in
set_option maxRecDepth 100000 in
theorem c_X6_placeInList (l : Launch) (G : Ly) (o : Nat) (m : Int) (w : Wd) (ho : gOb G o = some 6) (hl : 0 ≤ w o 9 0 ∧ w o 9 0 ≤ 6) (hm : InR m) (hv : ∀ j : Nat, (j : Int) < w o 9 0 → InR (w o 10 j)) : Mi l yX6_placeInList cX6_placeInList 3 (some .int) 0 0 G [.ref (gAd G o), .int (iI m)] w (fun z w2 => z = (pil (w o 10) m (w o 9 0).toNat (w o 9 0).toNat) ∧ w2 = w) := by
  refine mi_of (lv := [(0, .ref (gAd G o)), (1, .int (iI m))]) (by decide) (Nat.le_of_ble_eq_true rfl) rfl ?_
  intro p_ e_ s_ m_ b_ h_ c_ X
  refine g_iconst X dX6_placeInList_0 ?_
  refine g_istore_n (lv' := [(2, .int (iI 0)), (0, .ref (gAd G o)), (1, .int (iI m))]) X dX6_placeInList_1 rfl (by decide) rfl ?_
  refine g_lv (lv' := [(0, .ref (gAd G o)), (1, .int (iI m)), (2, .int (iI 0))]) [1, 2, 0] rfl ?_
  refine g_loop1 (fun (k : Int) => [(0, .ref (gAd G o)), (1, .int (iI m)), (2, .int (iI k))]) (fun (k : Int) => w) (fun (k : Int) => (0 ≤ k) ∧ (k ≤ w o 9 0) ∧ (pil (w o 10) m (w o 9 0).toNat (w o 9 0).toNat = pil (w o 10) m (w o 9 0).toNat (w o 9 0 - k).toNat)) (fun (k : Int) => (w o 9 0 - k).toNat) 0 ⟨(by first | omega | rfl | assumption), (by first | omega | rfl | assumption), (by rw [Int.sub_zero])⟩ ?_
  intro k hI_2 ih_2
  obtain ⟨h0, h1, hp⟩ := hI_2
  try dsimp only at ih_2 ⊢
  refine g_iload_n X dX6_placeInList_2 rfl 2 rfl ?_
  refine g_aload_n X dX6_placeInList_3 rfl 0 rfl ?_
  refine g_geti X ck_X6 ho 9 (by decide) fl_X6_68 (Or.inl rfl) dX6_placeInList_4 ?_
  refine g_icmp_ge (tgt := 34) X dX6_placeInList_7 (by decide) (by unfold InR; omega) (by unfold InR; omega) (fun c_7 => ?_) (fun c_7 => ?_)
  · skip
    refine g_bipush X dX6_placeInList_34 (by decide) ?_
    exact g_iret X rfl rfl dX6_placeInList_36 (by refine ⟨?_, rfl⟩; rw [hp, show (w o 9 0 - k).toNat = 0 by omega]; rfl)
  · skip
    refine g_iload_n X dX6_placeInList_10 rfl 2 rfl ?_
    refine g_bipush X dX6_placeInList_11 (by decide) ?_
    refine g_icmp_ge (tgt := 34) X dX6_placeInList_13 (by decide) (by unfold InR; omega) ⟨by decide, by decide⟩ (fun c_13 => ?_) (fun c_13 => ?_)
    · exact absurd c_13 (by omega) --dead
    · skip
      refine g_aload_n X dX6_placeInList_16 rfl 0 rfl ?_
      refine g_geta X ck_X6 ho 10 (by decide) fl_X6_15 rfl dX6_placeInList_17 ?_
      refine g_iload_n X dX6_placeInList_20 rfl 2 rfl ?_
      refine h_iald (a := k) (j := (k).toNat) X rfl ho (by decide) (show fkX 6 10 = (1, 6) from rfl) (by decide) (by omega) (by omega) dX6_placeInList_21 ?_
      refine g_iload_n X dX6_placeInList_22 rfl 1 rfl ?_
      refine g_icmp_ne (tgt := 28) X dX6_placeInList_23 (by decide) (by exact hv _ (by omega)) (by exact hm) (fun c_23 => ?_) (fun c_23 => ?_)
      · skip
        refine g_iinc (j := 2) (lv' := [(2, .int (iI (k + 1))), (0, .ref (gAd G o)), (1, .int (iI m))]) X dX6_placeInList_28 rfl (by decide) rfl ?_
        refine g_goto (tgt := 2) X dX6_placeInList_31 (by decide) ?_
        refine g_lv (lv' := [(0, .ref (gAd G o)), (1, .int (iI m)), (2, .int (iI (k + 1)))]) [1, 2, 0] rfl ?_
        exact ih_2 (k + 1) ⟨(by first | omega | rfl | assumption), (by first | omega | rfl | assumption), (by rw [hp, show (w o 9 0 - k).toNat = (w o 9 0 - (k + 1)).toNat + 1 by omega, pil, if_neg]; rw [show (w o 9 0).toNat - ((w o 9 0 - (k + 1)).toNat + 1) = k.toNat by omega]; exact c_23)⟩ (by omega)
      · have c_23 := Classical.not_not.mp c_23
        refine g_iload_n X dX6_placeInList_26 rfl 2 rfl ?_
        exact g_iret X rfl rfl dX6_placeInList_27 (by refine ⟨?_, rfl⟩; rw [hp, show (w o 9 0 - k).toNat = (w o 9 0 - (k + 1)).toNat + 1 by omega, pil, show (w o 9 0).toNat - ((w o 9 0 - (k + 1)).toNat + 1) = k.toNat by omega, if_pos (by omega)]; omega)
