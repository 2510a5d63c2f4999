set_option maxHeartbeats 4000000 in
set_option maxRecDepth 100000 in
theorem c_X0_forget (l : Launch) (G : Ly) (o : Nat) (w : Wd) (ho : gOb G o = some 0) : Mv l yX0_forget cX0_forget 1 none 0 0 G [.ref (gAd G o)] w (fun w2 => w2 = up w o 3 0 0) := by
  refine mv_of (lv := [(0, .ref (gAd G o))]) (by decide) (Nat.le_of_ble_eq_true rfl) rfl ?_
  intro p_ e_ s_ m_ b_ h_ c_ X
  refine g_aload_n X dX0_forget_0 rfl 0 rfl ?_
  refine g_iconst X dX0_forget_1 ?_
  refine g_putf X ck_X0 ho 3 (by decide) fl_X0_22 (Or.inr rfl) rfl (by decide) (by decide) dX0_forget_2 ?_
  obtain ⟨w_1, ew_1⟩ : ∃ q_ : Wd, q_ = up w o 3 0 0 := ⟨_, rfl⟩
  refine g_w (w' := w_1) ew_1 ?_
  exact g_vret X rfl dX0_forget_5 (by exact ew_1)
set_option maxHeartbeats 4000000 in
set_option maxRecDepth 100000 in
theorem c_X0_fillRow (l : Launch) (G : Ly) (o : Nat) (m : Int) (w : Wd) (ho : gOb G o = some 0) (h2 : gOb G 2 = some 2) (hlk : gLk G o 0 = 2) (hne : o ≠ 2) (hp : PV (w 2)) (hm : 0 ≤ m ∧ m < w 2 0 0) (hlift : 0 ≤ w o 5 0 ∧ w o 5 0 ≤ 45) : Mv l yX0_fillRow cX0_fillRow 3 none 1 23 G [.ref (gAd G o), .int (iI m)] w (fun w2 => w2 = upA w o 2 (rowU (w o 2) (w 2 1 m.toNat) (w 2 2 m.toNat + 1) (fun j => bkX (w 2) (w o 5 0) m.toNat j))) := by
  refine mv_of (lv := [(0, .ref (gAd G o)), (1, .int (iI m))]) (by decide) (Nat.le_of_ble_eq_true rfl) rfl ?_
  intro p_ e_ s_ m_ b_ h_ c_ X
  have hpm := hp.2.1 m.toNat (by omega)
  have hp0 := hp.1
  have hone := bt_one (m := m) (by omega) (by omega)
  refine g_aload_n X dX0_fillRow_0 rfl 0 rfl ?_
  refine g_geto (o' := 2) X ck_X0 ho 0 (by decide) fl_X0_18 rfl hlk dX0_fillRow_1 ?_
  refine g_geta X ck_X2 h2 1 (by decide) fl_X0_65 rfl dX0_fillRow_4 ?_
  refine g_iload_n X dX0_fillRow_7 rfl 1 rfl ?_
  refine h_iald (a := m) (j := (m).toNat) X rfl h2 (by decide) (show fkX 2 1 = (1, 6) from rfl) (by decide) (by omega) (by omega) dX0_fillRow_8 ?_
  refine g_istore_n (lv' := [(2, .int (iI (w 2 1 (m).toNat))), (0, .ref (gAd G o)), (1, .int (iI m))]) X dX0_fillRow_9 rfl (by decide) rfl ?_
  refine g_lv (lv' := [(0, .ref (gAd G o)), (1, .int (iI m)), (2, .int (iI (w 2 1 (m).toNat)))]) [1, 2, 0] rfl ?_
  refine g_loop2 (fun (x : Int) (w1 : Wd) => [(0, .ref (gAd G o)), (1, .int (iI m)), (2, .int (iI x))]) (fun (x : Int) (w1 : Wd) => w1) (fun (x : Int) (w1 : Wd) => (w 2 1 m.toNat ≤ x) ∧ (x ≤ w 2 2 m.toNat + 1) ∧ (w1 = upA w o 2 (rowU (w o 2) (w 2 1 m.toNat) (x) (fun j => bkX (w 2) (w o 5 0) m.toNat j)))) (fun (x : Int) (w1 : Wd) => (w 2 2 m.toNat + 1 - x).toNat) (w 2 1 (m).toNat) w ⟨(by first | omega | rfl | assumption), (by first | omega | rfl | assumption), (by rw [rowU_0, upA_self])⟩ ?_
  intro x w1 hI_10 ih_10
  obtain ⟨h0, h1, hw⟩ := hI_10
  try dsimp only at ih_10 ⊢
  have q2 : w1 2 = w 2 := by rw [hw]; funext f; exact upA_ne (fun z => hne z.1.symm)
  have q6 : w1 o 5 0 = w o 5 0 := by rw [hw]; exact upA_nej (fun z => absurd z.2 (by decide))
  have qm : w1 2 2 m.toNat = w 2 2 m.toNat := by rw [q2]
  have qr := pw_rng hp (m := m.toNat) (by omega) (x := x) (lift := w o 5 0)
  refine g_iload_n X dX0_fillRow_10 rfl 2 rfl ?_
  refine g_aload_n X dX0_fillRow_11 rfl 0 rfl ?_
  refine g_geto (o' := 2) X ck_X0 ho 0 (by decide) fl_X0_18 rfl hlk dX0_fillRow_12 ?_
  refine g_geta X ck_X2 h2 2 (by decide) fl_X0_71 rfl dX0_fillRow_15 ?_
  refine g_iload_n X dX0_fillRow_18 rfl 1 rfl ?_
  refine h_iald (a := m) (j := (m).toNat) X rfl h2 (by decide) (show fkX 2 2 = (1, 6) from rfl) (by decide) (by omega) (by omega) dX0_fillRow_19 ?_
  refine g_icmp_gt (tgt := 58) X dX0_fillRow_20 (by decide) (by unfold InR; omega) (by unfold InR; omega) (fun c_20 => ?_) (fun c_20 => ?_)
  · skip
    exact g_vret X rfl dX0_fillRow_58 (by rw [hw, show x = w 2 2 m.toNat + 1 by omega])
  · skip
    refine g_aload_n X dX0_fillRow_23 rfl 0 rfl ?_
    refine g_geta X ck_X0 ho 2 (by decide) fl_X0_15 rfl dX0_fillRow_24 ?_
    refine g_iload_n X dX0_fillRow_27 rfl 2 rfl ?_
    refine g_aload_n X dX0_fillRow_28 rfl 0 rfl ?_
    refine g_geto (o' := 2) X ck_X0 ho 0 (by decide) fl_X0_18 rfl hlk dX0_fillRow_29 ?_
    refine g_iload_n X dX0_fillRow_32 rfl 1 rfl ?_
    refine g_iload_n X dX0_fillRow_33 rfl 2 rfl ?_
    refine g_aload_n X dX0_fillRow_34 rfl 0 rfl ?_
    refine g_geti X ck_X0 ho 5 (by decide) fl_X0_30 (Or.inl rfl) dX0_fillRow_35 ?_
    refine g_calli (st := [.int (iI x), .ref (gAr G o 2)]) X (c_X2_powerAt l G 2 m x (w1 o 5 0) w1 h2 (by first | assumption | omega | (unfold InR; omega))) cm_X2_powerAt im_X2_powerAt se_X2_powerAt ml_X0_74 ck_X2 h2 ⟨Nat.le_of_ble_eq_true rfl, Nat.le_of_ble_eq_true rfl⟩ rfl rfl (Nat.le_of_ble_eq_true rfl) dX0_fillRow_38 (fn_i ?_)
    rw [show (w1 2 3 m.toNat + jdiv (((((100 * (w1 2 4 m.toNat)) + ((w1 2 5 m.toNat) * x)) * x) * (60 + (w1 o 5 0)))) 10000 : Int) = pwX (w 2) (w o 5 0) m.toNat x from (by rw [q6, q2]; exact pw_jdiv hp (by omega) ⟨by omega, by omega⟩ hlift)]
    refine g_bipush X dX0_fillRow_41 (by decide) ?_
    refine g_ishl X dX0_fillRow_43 ?_
    rw [show (bshl (pwX (w 2) (w o 5 0) m.toNat x) 9 : Int) = pwX (w 2) (w o 5 0) m.toNat x * 512 from (by have := qr ⟨by omega, by omega⟩ hlift; rw [bshl_eq (by omega) (by decide) (by decide) (by omega) (by show _ * (512 : Int) < _; omega)]; rfl)]
    refine g_bipush X dX0_fillRow_44 (by decide) ?_
    refine g_iadd X dX0_fillRow_46 ?_
    refine g_iconst X dX0_fillRow_47 ?_
    refine g_iload_n X dX0_fillRow_48 rfl 1 rfl ?_
    refine g_ishl X dX0_fillRow_49 ?_
    rw [show (bshl 1 m : Int) = 2 ^ m.toNat from hone.1]
    refine g_iadd X dX0_fillRow_50 ?_
    refine h_iast (a := x) (j := (x).toNat) X rfl ho (by decide) (show fkX 0 2 = (1, 81) from rfl) (by decide) (by omega) (by omega) dX0_fillRow_51 ?_
    obtain ⟨w_1, ew_1⟩ : ∃ q_ : Wd, q_ = up w1 o 2 (x).toNat (((pwX (w 2) (w o 5 0) m.toNat x * 512) + 64) + (2 ^ m.toNat)) := ⟨_, rfl⟩
    refine g_w (w' := w_1) ew_1 ?_
    refine g_iinc (j := 2) (lv' := [(2, .int (iI (x + 1))), (0, .ref (gAd G o)), (1, .int (iI m))]) X dX0_fillRow_52 rfl (by decide) rfl ?_
    refine g_goto (tgt := 10) X dX0_fillRow_55 (by decide) ?_
    refine g_lv (lv' := [(0, .ref (gAd G o)), (1, .int (iI m)), (2, .int (iI (x + 1)))]) [1, 2, 0] rfl ?_
    exact ih_10 (x + 1) w_1 ⟨(by first | omega | rfl | assumption), (by first | omega | rfl | assumption), (by rw [ew_1, hw, up_upA, ← rowU_suc _ _ h0 (by omega)]; show _ = upA w o 2 (fup _ _ (bkX _ _ _ ((x.toNat : Nat) : Int))); rw [show ((x.toNat : Nat) : Int) = x by omega]; rfl)⟩ (by omega)
set_option maxHeartbeats 4000000 in
set_option maxRecDepth 100000 in
theorem c_X0_leastWith (l : Launch) (G : Ly) (o : Nat) (m : Int) (sum : Int) (w : Wd) (ho : gOb G o = some 0) (h2 : gOb G 2 = some 2) (hlk : gLk G o 0 = 2) (hp : PV (w 2)) (hm : 0 ≤ m ∧ m < w 2 0 0) (hsum : 0 ≤ sum ∧ sum ≤ 480) (hA : ∀ x, w 2 1 m.toNat ≤ x → x ≤ min (w 2 2 m.toNat) sum → (0 ≤ w o 1 (sum - x).toNat ∧ w o 1 (sum - x).toNat ≤ 1073741824) ∧ 0 ≤ w o 2 x.toNat ∧ w o 2 x.toNat ≤ 10536032) : Mi l yX0_leastWith cX0_leastWith 7 (some .int) 1 21 G [.ref (gAd G o), .int (iI m), .int (iI sum)] w (fun z w2 => w2 = w ∧ ((∀ x, w 2 1 m.toNat ≤ x → x ≤ min (w 2 2 m.toNat) sum → z ≤ w o 1 (sum - x).toNat + w o 2 x.toNat) ∧ ((∃ x, w 2 1 m.toNat ≤ x ∧ x ≤ min (w 2 2 m.toNat) sum ∧ z = w o 1 (sum - x).toNat + w o 2 x.toNat) ∨ z = 1073741824) ∧ 0 ≤ z ∧ z ≤ 1073741824)) := by
  refine mi_of (lv := [(0, .ref (gAd G o)), (1, .int (iI m)), (2, .int (iI sum))]) (by decide) (Nat.le_of_ble_eq_true rfl) rfl ?_
  intro p_ e_ s_ m_ b_ h_ c_ X
  have hpm := hp.2.1 m.toNat (by omega)
  have hp0 := hp.1
  refine g_aload_n X dX0_leastWith_0 rfl 0 rfl ?_
  refine g_geto (o' := 2) X ck_X0 ho 0 (by decide) fl_X0_18 rfl hlk dX0_leastWith_1 ?_
  refine g_geta X ck_X2 h2 2 (by decide) fl_X0_71 rfl dX0_leastWith_4 ?_
  refine g_iload_n X dX0_leastWith_7 rfl 1 rfl ?_
  refine h_iald (a := m) (j := (m).toNat) X rfl h2 (by decide) (show fkX 2 2 = (1, 6) from rfl) (by decide) (by omega) (by omega) dX0_leastWith_8 ?_
  refine g_iload_n X dX0_leastWith_9 rfl 2 rfl ?_
  refine g_min X ml_X0_60 (by unfold InR; omega) (by unfold InR; omega) ⟨Nat.le_of_ble_eq_true rfl, Nat.le_of_ble_eq_true rfl⟩ (Nat.le_of_ble_eq_true rfl) dX0_leastWith_10 ?_
  refine g_istore_n (lv' := [(3, .int (iI (min (w 2 2 (m).toNat) sum))), (0, .ref (gAd G o)), (1, .int (iI m)), (2, .int (iI sum))]) X dX0_leastWith_13 rfl (by decide) rfl ?_
  refine g_ldc (n := 1073741824) X cst_X0_33 (by decide) dX0_leastWith_14 ?_
  refine g_istore (lv' := [(4, .int (iI 1073741824)), (3, .int (iI (min (w 2 2 (m).toNat) sum))), (0, .ref (gAd G o)), (1, .int (iI m)), (2, .int (iI sum))]) X dX0_leastWith_16 (by decide) rfl ?_
  refine g_aload_n X dX0_leastWith_18 rfl 2 rfl ?_
  refine g_geto (o' := 2) X ck_X0 ho 0 (by decide) fl_X0_18 rfl hlk dX0_leastWith_19 ?_
  refine g_geta X ck_X2 h2 1 (by decide) fl_X0_65 rfl dX0_leastWith_22 ?_
  refine g_iload_n X dX0_leastWith_25 rfl 3 rfl ?_
  refine h_iald (a := m) (j := (m).toNat) X rfl h2 (by decide) (show fkX 2 1 = (1, 6) from rfl) (by decide) (by omega) (by omega) dX0_leastWith_26 ?_
  refine g_istore (lv' := [(5, .int (iI (w 2 1 (m).toNat))), (4, .int (iI 1073741824)), (3, .int (iI (min (w 2 2 (m).toNat) sum))), (0, .ref (gAd G o)), (1, .int (iI m)), (2, .int (iI sum))]) X dX0_leastWith_27 (by decide) rfl ?_
  refine g_lv (lv' := [(0, .ref (gAd G o)), (1, .int (iI m)), (2, .int (iI sum)), (3, .int (iI (min (w 2 2 m.toNat) sum))), (4, .int (iI 1073741824)), (5, .int (iI (w 2 1 (m).toNat)))]) [3, 4, 5, 2, 1, 0] rfl ?_
  refine g_loop2 (fun (found : Int) (x : Int) => [(0, .ref (gAd G o)), (1, .int (iI m)), (2, .int (iI sum)), (3, .int (iI (min (w 2 2 m.toNat) sum))), (4, .int (iI found)), (5, .int (iI x))]) (fun (found : Int) (x : Int) => w) (fun (found : Int) (x : Int) => (w 2 1 m.toNat ≤ x) ∧ (x ≤ 1000) ∧ (0 ≤ found ∧ found ≤ 1073741824) ∧ (∀ y, w 2 1 m.toNat ≤ y → y < x → y ≤ min (w 2 2 m.toNat) sum → found ≤ w o 1 (sum - y).toNat + w o 2 y.toNat) ∧ (Hid ((∃ y, w 2 1 m.toNat ≤ y ∧ y ≤ min (w 2 2 m.toNat) sum ∧ found = w o 1 (sum - y).toNat + w o 2 y.toNat) ∨ found = 1073741824))) (fun (found : Int) (x : Int) => (min (w 2 2 m.toNat) sum + 1 - x).toNat) 1073741824 (w 2 1 (m).toNat) ⟨(by omega), (by first | omega | rfl | assumption), (by decide), (by intro y a b; omega), (by exact Or.inr rfl)⟩ ?_
  intro found x hI_29 ih_29
  obtain ⟨h0, h1, hr, hmin, hex⟩ := hI_29
  try dsimp only at ih_29 ⊢
  refine g_iload X dX0_leastWith_29 5 rfl ?_
  refine g_iload_n X dX0_leastWith_31 rfl 3 rfl ?_
  refine g_icmp_gt (tgt := 71) X dX0_leastWith_32 (by decide) (by unfold InR; omega) (by unfold InR; omega) (fun c_32 => ?_) (fun c_32 => ?_)
  · skip
    refine g_iload X dX0_leastWith_71 4 rfl ?_
    exact g_iret X rfl rfl dX0_leastWith_73 (by refine ⟨rfl, fun y a b => hmin y a (by omega) b, hex, hr⟩)
  · skip
    refine g_aload_n X dX0_leastWith_35 rfl 0 rfl ?_
    refine g_geta X ck_X0 ho 1 (by decide) fl_X0_11 rfl dX0_leastWith_36 ?_
    refine g_iload_n X dX0_leastWith_39 rfl 2 rfl ?_
    refine g_iload X dX0_leastWith_40 5 rfl ?_
    refine g_isub X dX0_leastWith_42 ?_
    refine h_iald (a := sum - x) (j := (sum - x).toNat) X rfl ho (by decide) (show fkX 0 1 = (1, 481) from rfl) (by decide) (by omega) (by omega) dX0_leastWith_43 ?_
    refine g_aload_n X dX0_leastWith_44 rfl 0 rfl ?_
    refine g_geta X ck_X0 ho 2 (by decide) fl_X0_15 rfl dX0_leastWith_45 ?_
    refine g_iload X dX0_leastWith_48 5 rfl ?_
    refine h_iald (a := x) (j := (x).toNat) X rfl ho (by decide) (show fkX 0 2 = (1, 81) from rfl) (by decide) (by omega) (by omega) dX0_leastWith_50 ?_
    refine g_iadd X dX0_leastWith_51 ?_
    refine g_istore (lv' := [(6, .int (iI ((w o 1 (sum - x).toNat) + (w o 2 (x).toNat)))), (0, .ref (gAd G o)), (1, .int (iI m)), (2, .int (iI sum)), (3, .int (iI (min (w 2 2 m.toNat) sum))), (4, .int (iI found)), (5, .int (iI x))]) X dX0_leastWith_52 (by decide) rfl ?_
    refine g_iload X dX0_leastWith_54 0 rfl ?_
    refine g_iload X dX0_leastWith_56 5 rfl ?_
    refine g_icmp_ge (tgt := 65) X dX0_leastWith_58 (by decide) (by have := hA x h0 (by omega); unfold InR; omega) (by unfold InR; omega) (fun c_58 => ?_) (fun c_58 => ?_)
    · skip
      refine g_iinc (j := 6) (lv' := [(5, .int (iI (x + 1))), (6, .int (iI ((w o 1 (sum - x).toNat) + (w o 2 (x).toNat)))), (0, .ref (gAd G o)), (1, .int (iI m)), (2, .int (iI sum)), (3, .int (iI (min (w 2 2 m.toNat) sum))), (4, .int (iI found))]) X dX0_leastWith_65 rfl (by decide) rfl ?_
      refine g_goto (tgt := 29) X dX0_leastWith_68 (by decide) ?_
      refine g_lv (lv' := [(0, .ref (gAd G o)), (1, .int (iI m)), (2, .int (iI sum)), (3, .int (iI (min (w 2 2 m.toNat) sum))), (4, .int (iI found)), (5, .int (iI (x + 1)))]) [2, 3, 4, 5, 6, 0] rfl ?_
      exact ih_29 found (x + 1) ⟨(by first | omega | rfl | assumption), (by first | omega | rfl | assumption), (by have := hA x h0 (by omega); omega), (by intro y a b d; rcases Int.lt_or_le y x with e | e; (have := hmin y a e d; omega); (have e2 : y = x := (by omega)); subst e2; omega), (by first | exact hex | exact Or.inl ⟨x, h0, by omega, rfl⟩)⟩ (by omega)
    · skip
      refine g_iload X dX0_leastWith_61 0 rfl ?_
      refine g_istore (lv' := [(4, .int (iI ((w o 1 (sum - x).toNat) + (w o 2 (x).toNat)))), (6, .int (iI ((w o 1 (sum - x).toNat) + (w o 2 (x).toNat)))), (0, .ref (gAd G o)), (1, .int (iI m)), (2, .int (iI sum)), (3, .int (iI (min (w 2 2 m.toNat) sum))), (5, .int (iI x))]) X dX0_leastWith_63 (by decide) rfl ?_
      refine g_iinc (j := 6) (lv' := [(5, .int (iI (x + 1))), (4, .int (iI ((w o 1 (sum - x).toNat) + (w o 2 (x).toNat)))), (6, .int (iI ((w o 1 (sum - x).toNat) + (w o 2 (x).toNat)))), (0, .ref (gAd G o)), (1, .int (iI m)), (2, .int (iI sum)), (3, .int (iI (min (w 2 2 m.toNat) sum)))]) X dX0_leastWith_65 rfl (by decide) rfl ?_
      refine g_goto (tgt := 29) X dX0_leastWith_68 (by decide) ?_
      refine g_lv (lv' := [(0, .ref (gAd G o)), (1, .int (iI m)), (2, .int (iI sum)), (3, .int (iI (min (w 2 2 m.toNat) sum))), (4, .int (iI ((w o 1 (sum - x).toNat) + (w o 2 (x).toNat)))), (5, .int (iI (x + 1)))]) [3, 4, 5, 6, 1, 0] rfl ?_
      exact ih_29 ((w o 1 (sum - x).toNat) + (w o 2 (x).toNat)) (x + 1) ⟨(by first | omega | rfl | assumption), (by first | omega | rfl | assumption), (by have := hA x h0 (by omega); omega), (by intro y a b d; rcases Int.lt_or_le y x with e | e; (have := hmin y a e d; omega); (have e2 : y = x := (by omega)); subst e2; omega), (by first | exact hex | exact Or.inl ⟨x, h0, by omega, rfl⟩)⟩ (by omega)
set_option maxHeartbeats 4000000 in
set_option maxRecDepth 100000 in
theorem c_X0_addMachine (l : Launch) (G : Ly) (o : Nat) (m : Int) (w : Wd) (ho : gOb G o = some 0) (h2 : gOb G 2 = some 2) (hlk : gLk G o 0 = 2) (hne : o ≠ 2) (hp : PV (w 2)) (hm : 0 ≤ m ∧ m < w 2 0 0) (hlift : 0 ≤ w o 5 0 ∧ w o 5 0 ≤ 45) (hset : 0 ≤ w o 4 0 ∧ w o 4 0 < 64) (hb : tb (w o 4 0) m.toNat = 1) (hI : ∀ t : Int, 0 ≤ t → t ≤ 480 → BestS (w 2) (bkX (w 2) (w o 5 0)) (w o 4 0) m.toNat t (w o 1 t.toNat)) : Mv l yX0_addMachine cX0_addMachine 4 none 2 47 G [.ref (gAd G o), .int (iI m)] w (fun w2 => (∀ t : Int, 0 ≤ t → t ≤ 480 → BestS (w 2) (bkX (w 2) (w o 5 0)) (w o 4 0) (m.toNat + 1) t (w2 o 1 t.toNat)) ∧ ∀ o2 f j, ¬ (o2 = o ∧ (f = 1 ∨ f = 2)) → w2 o2 f j = w o2 f j) := by
  refine mv_of (lv := [(0, .ref (gAd G o)), (1, .int (iI m))]) (by decide) (Nat.le_of_ble_eq_true rfl) rfl ?_
  intro p_ e_ s_ m_ b_ h_ c_ X
  have hpm := hp.2.1 m.toNat (by omega)
  have hp0 := hp.1
  have hse := bt_seen hset.1 hset.2 hm.1 (by omega)
  have hsm := sumB_le (s := w o 4 0) (f := w 2 2) (B := 80) (m.toNat + 1) (fun j hj => by have := hp.2.1 j (by omega); omega)
  refine g_aload_n X dX0_addMachine_0 rfl 0 rfl ?_
  refine g_iload_n X dX0_addMachine_1 rfl 1 rfl ?_
  refine g_callv (st := []) X (c_X0_fillRow l G o m w ho h2 hlk (by first | assumption | omega | (unfold InR; omega)) (by first | assumption | omega | (unfold InR; omega)) (by first | assumption | omega | (unfold InR; omega)) (by first | assumption | omega | (unfold InR; omega))) cm_X0_fillRow im_X0_fillRow se_X0_fillRow ml_X0_53 ck_X0 ho ⟨Nat.le_of_ble_eq_true rfl, Nat.le_of_ble_eq_true rfl⟩ rfl rfl (Nat.le_of_ble_eq_true rfl) dX0_addMachine_2 (fn_v ?_)
  obtain ⟨w_1, ew_1⟩ : ∃ q_ : Wd, q_ = upA w o 2 (rowU (w o 2) (w 2 1 m.toNat) (w 2 2 m.toNat + 1) (fun j => bkX (w 2) (w o 5 0) m.toNat j)) := ⟨_, rfl⟩
  refine g_w (w' := w_1) ew_1 ?_
  have q2 : w_1 2 = w 2 := by rw [ew_1]; funext f; exact upA_ne (fun z => hne z.1.symm)
  have qf : ∀ f j, f ≠ 2 → w_1 o f j = w o f j := by intro f j h; rw [ew_1]; exact upA_nej (fun z => h z.2)
  have q4 := qf 4 0 (by decide)
  have q20 : w_1 2 0 0 = w 2 0 0 := by rw [q2]
  refine g_aload_n X dX0_addMachine_5 rfl 0 rfl ?_
  refine g_geti X ck_X0 ho 4 (by decide) fl_X0_26 (Or.inl rfl) dX0_addMachine_6 ?_
  refine g_iconst X dX0_addMachine_9 ?_
  refine g_iload_n X dX0_addMachine_10 rfl 1 rfl ?_
  refine g_ishl X dX0_addMachine_11 ?_
  refine g_iconst X dX0_addMachine_12 ?_
  refine g_isub X dX0_addMachine_13 ?_
  refine g_iand X dX0_addMachine_14 ?_
  refine g_istore_n (lv' := [(2, .int (iI (band (w_1 o 4 0) ((bshl 2 m) - 1)))), (0, .ref (gAd G o)), (1, .int (iI m))]) X dX0_addMachine_15 rfl (by decide) rfl ?_
  refine g_sipush X dX0_addMachine_16 (by decide) ?_
  refine g_aload_n X dX0_addMachine_19 rfl 1 rfl ?_
  refine g_geto (o' := 2) X ck_X0 ho 0 (by decide) fl_X0_18 rfl hlk dX0_addMachine_20 ?_
  refine g_iload_n X dX0_addMachine_23 rfl 0 rfl ?_
  refine g_calli (st := [.int (iI 480)]) X (c_X2_mosts l G 2 (band (w_1 o 4 0) ((bshl 2 m) - 1)) w_1 h2 (by rw [q4]; omega) (by first | assumption | omega | (unfold InR; omega))) cm_X2_mosts im_X2_mosts se_X2_mosts ml_X0_56 ck_X2 h2 ⟨Nat.le_of_ble_eq_true rfl, Nat.le_of_ble_eq_true rfl⟩ rfl rfl (Nat.le_of_ble_eq_true rfl) dX0_addMachine_24 (fn_i ?_)
  rw [show (sumB (band (w_1 o 4 0) ((bshl 2 m) - 1)) (w_1 2 2) (w_1 2 0 0).toNat : Int) = sumB (w o 4 0) (w 2 2) (m.toNat + 1) from (by rw [q4, q2]; exact sumB_seen hse.2.2 _ _ (by omega) (by omega))]
  refine g_min X ml_X0_60 ⟨by decide, by decide⟩ (by unfold InR; omega) ⟨Nat.le_of_ble_eq_true rfl, Nat.le_of_ble_eq_true rfl⟩ (Nat.le_of_ble_eq_true rfl) dX0_addMachine_27 ?_
  refine g_istore_n (lv' := [(3, .int (iI (min 480 (sumB (w o 4 0) (w 2 2) (m.toNat + 1))))), (2, .int (iI (band (w_1 o 4 0) ((bshl 2 m) - 1)))), (0, .ref (gAd G o)), (1, .int (iI m))]) X dX0_addMachine_30 rfl (by decide) rfl ?_
  refine g_lv (lv' := [(0, .ref (gAd G o)), (1, .int (iI m)), (3, .int (iI (min 480 (sumB (w o 4 0) (w 2 2) (m.toNat + 1)))))]) [2, 3, 0] rfl ?_
  refine g_loop2 (fun (sum : Int) (w1 : Wd) => [(0, .ref (gAd G o)), (1, .int (iI m)), (3, .int (iI sum))]) (fun (sum : Int) (w1 : Wd) => w1) (fun (sum : Int) (w1 : Wd) => (0 ≤ sum) ∧ (sum ≤ 480) ∧ (∀ o2 f j, ¬ (o2 = o ∧ f = 1) → w1 o2 f j = w_1 o2 f j) ∧ (∀ j : Nat, (j : Int) ≤ sum → w1 o 1 j = w o 1 j) ∧ (∀ t, sum < t → t ≤ 480 → BestS (w 2) (bkX (w 2) (w o 5 0)) (w o 4 0) (m.toNat + 1) t (w1 o 1 t.toNat))) (fun (sum : Int) (w1 : Wd) => (sum + 1).toNat) (min 480 (sumB (w o 4 0) (w 2 2) (m.toNat + 1))) w_1 ⟨(by first | omega | rfl | assumption), (by first | omega | rfl | assumption), (by intro _ _ _ _; rfl), (by intro j _; exact qf 1 j (by decide)), (by
      intro t a b
      rw [qf 1 _ (by decide)]
      exact bs_same (hI t (by omega) b) (fun x hx ht => by
        have := feS_tot hp (k := m.toNat + 1) (by omega) hx
        omega))⟩ ?_
  intro sum w1 hI_31 ih_31
  obtain ⟨ha, hh, hfr, hold, hnew⟩ := hI_31
  try dsimp only at ih_31 ⊢
  have p2 : w1 2 = w 2 := by funext f j; rw [hfr 2 f j (fun z => hne z.1.symm), q2]
  have p20 : w1 2 0 0 = w 2 0 0 := by rw [p2]
  have p21 : w1 2 1 m.toNat = w 2 1 m.toNat := by rw [p2]
  have pE : ∀ x, w 2 1 m.toNat ≤ x → x ≤ min (w 2 2 m.toNat) sum → w1 o 1 (sum - x).toNat = w o 1 (sum - x).toNat ∧ w1 o 2 x.toNat = bkX (w 2) (w o 5 0) m.toNat x := by
    intro x a b
    refine ⟨hold _ (by omega), ?_⟩
    rw [hfr o 2 _ (fun z => absurd z.2 (by decide)), ew_1, upA_atj, rowU_in (by omega) (by omega) (by omega)]
    show bkX _ _ _ ((x.toNat : Nat) : Int) = _
    rw [show ((x.toNat : Nat) : Int) = x by omega]
  refine g_iload_n X dX0_addMachine_31 rfl 2 rfl ?_
  refine g_aload_n X dX0_addMachine_32 rfl 0 rfl ?_
  refine g_geto (o' := 2) X ck_X0 ho 0 (by decide) fl_X0_18 rfl hlk dX0_addMachine_33 ?_
  refine g_geta X ck_X2 h2 1 (by decide) fl_X0_65 rfl dX0_addMachine_36 ?_
  refine g_iload_n X dX0_addMachine_39 rfl 1 rfl ?_
  refine h_iald (a := m) (j := (m).toNat) X rfl h2 (by decide) (show fkX 2 1 = (1, 6) from rfl) (by decide) (by omega) (by omega) dX0_addMachine_40 ?_
  refine g_icmp_lt (tgt := 71) X dX0_addMachine_41 (by decide) (by unfold InR; omega) (by unfold InR; omega) (fun c_41 => ?_) (fun c_41 => ?_)
  · skip
    exact g_vret X rfl dX0_addMachine_71 (by
        refine ⟨fun t a b => ?_, fun o2 f j h => ?_⟩
        · rcases Int.lt_or_le sum t with e | e
          · exact hnew t e b
          · rw [hold _ (by omega)]
            refine bs_same (hI t a b) (fun x hx ht => ?_)
            have h1 := feS_tot hp (k := m.toNat) (by omega) (fun j hj => hx j (by omega))
            rcases hx m.toNat (by omega) with q | q
            · exact q
            · rw [sumN_s] at ht
              omega
        · rw [hfr o2 f j (fun z => h ⟨z.1, by omega⟩), ew_1]
          exact upA_nej (fun z => h ⟨z.1, by omega⟩))
  · skip
    have hAs := bsv hp hlift (by omega) (hI sum (by omega) (by omega))
    have hos : w1 o 1 sum.toNat = w o 1 sum.toNat := hold _ (by omega)
    refine g_aload_n X dX0_addMachine_44 rfl 0 rfl ?_
    refine g_geta X ck_X0 ho 1 (by decide) fl_X0_11 rfl dX0_addMachine_45 ?_
    refine g_iload_n X dX0_addMachine_48 rfl 2 rfl ?_
    refine g_aload_n X dX0_addMachine_49 rfl 0 rfl ?_
    refine g_geta X ck_X0 ho 1 (by decide) fl_X0_11 rfl dX0_addMachine_50 ?_
    refine g_iload_n X dX0_addMachine_53 rfl 2 rfl ?_
    refine h_iald (a := sum) (j := (sum).toNat) X rfl ho (by decide) (show fkX 0 1 = (1, 481) from rfl) (by decide) (by omega) (by omega) dX0_addMachine_54 ?_
    refine g_aload_n X dX0_addMachine_55 rfl 0 rfl ?_
    refine g_iload_n X dX0_addMachine_56 rfl 1 rfl ?_
    refine g_iload_n X dX0_addMachine_57 rfl 2 rfl ?_
    refine g_calli (st := [.int (iI (w1 o 1 (sum).toNat)), .int (iI sum), .ref (gAr G o 1)]) X (c_X0_leastWith l G o m sum w1 ho h2 hlk (by rw [p2]; exact hp) (by first | assumption | omega | (unfold InR; omega)) (by first | assumption | omega | (unfold InR; omega)) (by rw [p2]; intro x a b; obtain ⟨e1, e2⟩ := pE x a b; rw [e1, e2]; have r1 := bsv hp hlift (by omega) (hI (sum - x) (by omega) (by omega)); have r2 := bk_rng hp (m := m.toNat) (by omega) (x := x) (lift := w o 5 0) (by omega) hlift; omega)) cm_X0_leastWith im_X0_leastWith se_X0_leastWith ml_X0_68 ck_X0 ho ⟨Nat.le_of_ble_eq_true rfl, Nat.le_of_ble_eq_true rfl⟩ rfl rfl (Nat.le_of_ble_eq_true rfl) dX0_addMachine_58 (fn_p ?_)
    rintro z_58 ⟨z1, z2, z3⟩
    rw [p2] at z1 z2
    have hz : BestS (w 2) (bkX (w 2) (w o 5 0)) (w o 4 0) (m.toNat + 1) sum (min (w1 o 1 sum.toNat) z_58) := by
      rw [hos]
      refine bs_add (A := fun t => w o 1 t.toNat) hb (by omega) (by omega) (fun x hx => (feS_tot hp (by omega) hx).1) (fun x hx => by have := feS_rng hp hlift (by omega) hx; omega) (fun x a b => (bk_rng hp (by omega) (by omega) hlift).1) (hI sum (by omega) (by omega)) (fun x a b => hI (sum - x) (by omega) (by omega)) (fun x a b => ?_) ?_ z3.2
      · have h := z1 x a b
        obtain ⟨e1, e2⟩ := pE x a b
        rw [e1, e2] at h
        exact h
      · rcases z2 with ⟨x, a, b, h⟩ | h
        · obtain ⟨e1, e2⟩ := pE x a b
          rw [e1, e2] at h
          exact Or.inl ⟨x, a, b, h⟩
        · exact Or.inr h
    clear z1 z2
    refine g_min X ml_X0_60 (by rw [hos]; unfold InR; omega) (by unfold InR; omega) ⟨Nat.le_of_ble_eq_true rfl, Nat.le_of_ble_eq_true rfl⟩ (Nat.le_of_ble_eq_true rfl) dX0_addMachine_61 ?_
    refine h_iast (a := sum) (j := (sum).toNat) X rfl ho (by decide) (show fkX 0 1 = (1, 481) from rfl) (by decide) (by omega) (by omega) dX0_addMachine_64 ?_
    obtain ⟨w_2, ew_2⟩ : ∃ q_ : Wd, q_ = up w1 o 1 (sum).toNat (min (w1 o 1 (sum).toNat) z_58) := ⟨_, rfl⟩
    refine g_w (w' := w_2) ew_2 ?_
    refine g_iinc (j := 2) (lv' := [(3, .int (iI (sum + (-1)))), (0, .ref (gAd G o)), (1, .int (iI m))]) X dX0_addMachine_65 rfl (by decide) rfl ?_
    refine g_goto (tgt := 31) X dX0_addMachine_68 (by decide) ?_
    refine g_lv (lv' := [(0, .ref (gAd G o)), (1, .int (iI m)), (3, .int (iI (sum + (-1))))]) [1, 2, 0] rfl ?_
    exact ih_31 (sum + (-1)) w_2 ⟨(by first | omega | rfl | assumption), (by first | omega | rfl | assumption), (by intro o2 f j h; rw [ew_2, up_ne (fun z => h ⟨z.1, z.2.1⟩)]; exact hfr o2 f j h), (by intro j hj; rw [ew_2, up_ne (by omega)]; exact hold j (by omega)), (by intro t a b; rw [ew_2]; rcases Int.lt_or_le sum t with e | e; (rw [up_ne (by omega)]; exact hnew t e b); (have e2 : t = sum := (by omega)); subst e2; rw [up_at]; exact hz)⟩ (by omega)
set_option maxHeartbeats 4000000 in
set_option maxRecDepth 100000 in
theorem c_X0_reckon (l : Launch) (G : Ly) (o : Nat) (set : Int) (lift : Int) (w : Wd) (ho : gOb G o = some 0) (h2 : gOb G 2 = some 2) (hlk : gLk G o 0 = 2) (hne : o ≠ 2) (hp : PV (w 2)) (hset : 0 ≤ set ∧ set < 64) (hlf : 0 ≤ lift ∧ lift ≤ 45) (hC : BsC (w 2) (w o)) : Mv l yX0_reckon cX0_reckon 4 none 3 70 G [.ref (gAd G o), .int (iI set), .int (iI lift)] w (fun w2 => (∀ o2 f j, o2 ≠ o → w2 o2 f j = w o2 f j) ∧ BsC (w 2) (w2 o) ∧ ∀ t : Int, 0 ≤ t → t ≤ 480 → BestS (w 2) (bkX (w 2) lift) set (w 2 0 0).toNat t (w2 o 1 t.toNat)) := by
  refine mv_of (lv := [(0, .ref (gAd G o)), (1, .int (iI set)), (2, .int (iI lift))]) (by decide) (Nat.le_of_ble_eq_true rfl) rfl ?_
  intro p_ e_ s_ m_ b_ h_ c_ X
  have hp0 := hp.1
  have k3 : w o 3 0 = 0 ∨ (w o 3 0 = 1 ∧ (0 ≤ w o 4 0 ∧ w o 4 0 < 64) ∧ (0 ≤ w o 5 0 ∧ w o 5 0 ≤ 45)) := by
    rcases hC with h | h
    · exact Or.inl h
    · exact Or.inr ⟨h.1, h.2.1, h.2.2.1⟩
  refine g_cut1 (pc' := 24) (fun (d_ : Int) => [(0, .ref (gAd G o)), (1, .int (iI set)), (2, .int (iI lift))]) (fun (d_ : Int) => []) (fun (d_ : Int) => w) (fun (d_ : Int) => True) ?_ ?_
  · intro d_ hI_24
    try dsimp only
    refine g_aload_n X dX0_reckon_24 rfl 0 rfl ?_
    refine g_iconst X dX0_reckon_25 ?_
    refine g_putf X ck_X0 ho 3 (by decide) fl_X0_22 (Or.inr rfl) rfl (by decide) (by decide) dX0_reckon_26 ?_
    obtain ⟨w_1, ew_1⟩ : ∃ q_ : Wd, q_ = up w o 3 0 1 := ⟨_, rfl⟩
    refine g_w (w' := w_1) ew_1 ?_
    refine g_aload_n X dX0_reckon_29 rfl 0 rfl ?_
    refine g_iload_n X dX0_reckon_30 rfl 1 rfl ?_
    refine g_puti X ck_X0 ho 4 (by decide) fl_X0_26 rfl rfl rfl dX0_reckon_31 ?_
    obtain ⟨w_2, ew_2⟩ : ∃ q_ : Wd, q_ = up w_1 o 4 0 set := ⟨_, rfl⟩
    refine g_w (w' := w_2) ew_2 ?_
    refine g_aload_n X dX0_reckon_34 rfl 0 rfl ?_
    refine g_iload_n X dX0_reckon_35 rfl 2 rfl ?_
    refine g_puti X ck_X0 ho 5 (by decide) fl_X0_30 rfl rfl rfl dX0_reckon_36 ?_
    obtain ⟨w_3, ew_3⟩ : ∃ q_ : Wd, q_ = up w_2 o 5 0 lift := ⟨_, rfl⟩
    refine g_w (w' := w_3) ew_3 ?_
    refine g_aload_n X dX0_reckon_39 rfl 0 rfl ?_
    refine g_geta X ck_X0 ho 1 (by decide) fl_X0_11 rfl dX0_reckon_40 ?_
    refine g_ldc (n := 1073741824) X cst_X0_33 (by decide) dX0_reckon_43 ?_
    refine g_callsv (st := []) X (c_J7_fill_53178_0_1 l G o 1073741824 w_3 ho) cm_J7_fill_53178 sm_J7_fill_53178 ml_X0_34 ⟨Nat.le_of_ble_eq_true rfl, Nat.le_of_ble_eq_true rfl⟩ rfl rfl (Nat.le_of_ble_eq_true rfl) dX0_reckon_45 (fn_v ?_)
    obtain ⟨w_4, ew_4⟩ : ∃ q_ : Wd, q_ = upA w_3 o 1 (fillN (w_3 o 1) 1073741824 481) := ⟨_, rfl⟩
    refine g_w (w' := w_4) ew_4 ?_
    refine g_aload_n X dX0_reckon_48 rfl 0 rfl ?_
    refine g_geta X ck_X0 ho 1 (by decide) fl_X0_11 rfl dX0_reckon_49 ?_
    refine g_iconst X dX0_reckon_52 ?_
    refine g_iconst X dX0_reckon_53 ?_
    refine h_iast (a := 0) (j := 0) X rfl ho (by decide) (show fkX 0 1 = (1, 481) from rfl) (by decide) (by omega) (by omega) dX0_reckon_54 ?_
    obtain ⟨w_5, ew_5⟩ : ∃ q_ : Wd, q_ = up w_4 o 1 0 0 := ⟨_, rfl⟩
    refine g_w (w' := w_5) ew_5 ?_
    refine g_iconst X dX0_reckon_55 ?_
    refine g_istore_n (lv' := [(3, .int (iI 0)), (0, .ref (gAd G o)), (1, .int (iI set)), (2, .int (iI lift))]) X dX0_reckon_56 rfl (by decide) rfl ?_
    refine g_lv (lv' := [(0, .ref (gAd G o)), (1, .int (iI set)), (2, .int (iI lift)), (3, .int (iI 0))]) [1, 2, 3, 0] rfl ?_
    refine g_loop2 (fun (k : Int) (w1 : Wd) => [(0, .ref (gAd G o)), (1, .int (iI set)), (2, .int (iI lift)), (3, .int (iI k))]) (fun (k : Int) (w1 : Wd) => w1) (fun (k : Int) (w1 : Wd) => (0 ≤ k) ∧ (k ≤ w 2 0 0) ∧ (∀ o2 f j, o2 ≠ o → w1 o2 f j = w o2 f j) ∧ (∀ t : Int, 0 ≤ t → t ≤ 480 → BestS (w 2) (bkX (w 2) lift) set k.toNat t (w1 o 1 t.toNat)) ∧ (w1 o 3 0 = 1) ∧ (w1 o 4 0 = set) ∧ (w1 o 5 0 = lift)) (fun (k : Int) (w1 : Wd) => (w 2 0 0 - k).toNat) 0 w_5 ⟨(by first | omega | rfl | assumption), (by first | omega | rfl | assumption), (by intro o2 f j h; rw [ew_5, ew_4, ew_3, ew_2, ew_1]; simp [up, upA, h]), (by
        intro t a b
        refine bs_0 ?_
        by_cases e : t = 0
        · left; refine ⟨e, ?_⟩; rw [ew_5, ew_4, ew_3, ew_2, ew_1, e]; simp [up, upA]
        · right; refine ⟨e, ?_⟩; rw [ew_5, ew_4, ew_3, ew_2, ew_1, up_ne (by omega), upA_atj]; exact if_pos (by omega)), (by rw [ew_5, ew_4, ew_3, ew_2, ew_1]; simp [up, upA]), (by rw [ew_5, ew_4, ew_3, ew_2, ew_1]; simp [up, upA]), (by rw [ew_5, ew_4, ew_3, ew_2, ew_1]; simp [up, upA])⟩ ?_
    intro k w1 hI_57 ih_57
    obtain ⟨h0, h1, hfr, hI, g3, g4, g5⟩ := hI_57
    try dsimp only at ih_57 ⊢
    have p2 : w1 2 = w 2 := by funext f j; exact hfr 2 f j (fun z => hne z.symm)
    have p20 : w1 2 0 0 = w 2 0 0 := by rw [p2]
    refine g_iload_n X dX0_reckon_57 rfl 3 rfl ?_
    refine g_aload_n X dX0_reckon_58 rfl 0 rfl ?_
    refine g_geto (o' := 2) X ck_X0 ho 0 (by decide) fl_X0_18 rfl hlk dX0_reckon_59 ?_
    refine g_geti X ck_X2 h2 0 (by decide) fl_X0_40 (Or.inl rfl) dX0_reckon_62 ?_
    refine g_icmp_ge (tgt := 91) X dX0_reckon_65 (by decide) (by unfold InR; omega) (by unfold InR; omega) (fun c_65 => ?_) (fun c_65 => ?_)
    · skip
      exact g_vret X rfl dX0_reckon_91 (by
          have hk : k = w 2 0 0 := by omega
          rw [hk] at hI
          exact ⟨hfr, Or.inr ⟨g3, by omega, by omega, by rw [g4, g5]; exact hI⟩, hI⟩)
    · skip
      refine g_aload_n X dX0_reckon_68 rfl 0 rfl ?_
      refine g_geti X ck_X0 ho 4 (by decide) fl_X0_26 (Or.inl rfl) dX0_reckon_69 ?_
      refine g_iload_n X dX0_reckon_72 rfl 3 rfl ?_
      refine g_callni (st := []) X (c_X7_bitOf l G (w1 o 4 0) k w1 (by first | assumption | omega | (unfold InR; omega)) (by first | assumption | omega | (unfold InR; omega))) cm_X7_bitOf sm_X7_bitOf mn_X0_45 ⟨Nat.le_of_ble_eq_true rfl, Nat.le_of_ble_eq_true rfl⟩ rfl rfl (Nat.le_of_ble_eq_true rfl) dX0_reckon_73 (fn_i ?_)
      refine g_iconst X dX0_reckon_76 ?_
      refine g_icmp_ne (tgt := 85) X dX0_reckon_77 (by decide) (by have := tb01 (w1 o 4 0) k.toNat; unfold InR; omega) ⟨by decide, by decide⟩ (fun c_77 => ?_) (fun c_77 => ?_)
      · skip
        refine g_iinc (j := 3) (lv' := [(3, .int (iI (k + 1))), (0, .ref (gAd G o)), (1, .int (iI set)), (2, .int (iI lift))]) X dX0_reckon_85 rfl (by decide) rfl ?_
        refine g_goto (tgt := 57) X dX0_reckon_88 (by decide) ?_
        refine g_lv (lv' := [(0, .ref (gAd G o)), (1, .int (iI set)), (2, .int (iI lift)), (3, .int (iI (k + 1)))]) [1, 2, 3, 0] rfl ?_
        exact ih_57 (k + 1) w1 ⟨(by first | omega | rfl | assumption), (by first | omega | rfl | assumption), (by first | exact hfr | (intro o2 f j h; rw [hfs o2 f j (fun z => h z.1)]; exact hfr o2 f j h)), (by
            first
            | (rw [show (k + 1).toNat = k.toNat + 1 by omega]; rw [p2, g4, g5] at hsi; exact hsi)
            | (rw [show (k + 1).toNat = k.toNat + 1 by omega]; have hb0 : tb set k.toNat = 0 := by (rw [g4] at c_77; have := tb01 set k.toNat; omega)
               exact fun t a b => bs_same (hI t a b) (fun x hx _ => by
                 rcases hx k.toNat (by omega) with q | q
                 · exact q
                 · omega))), (by first | exact g3 | (rw [hfs o 3 0 (by simp)]; exact g3)), (by first | exact g4 | (rw [hfs o 4 0 (by simp)]; exact g4)), (by first | exact g5 | (rw [hfs o 5 0 (by simp)]; exact g5))⟩ (by omega)
      · skip
        refine g_aload_n X dX0_reckon_80 rfl 0 rfl ?_
        refine g_iload_n X dX0_reckon_81 rfl 3 rfl ?_
        refine g_callv (st := []) X (c_X0_addMachine l G o k w1 ho h2 hlk (by first | assumption | omega | (unfold InR; omega)) (by rw [p2]; exact hp) (by first | assumption | omega | (unfold InR; omega)) (by first | assumption | omega | (unfold InR; omega)) (by first | assumption | omega | (unfold InR; omega)) (by first | assumption | omega | (unfold InR; omega)) (by rw [p2, g4, g5]; exact hI)) cm_X0_addMachine im_X0_addMachine se_X0_addMachine ml_X0_49 ck_X0 ho ⟨Nat.le_of_ble_eq_true rfl, Nat.le_of_ble_eq_true rfl⟩ rfl rfl (Nat.le_of_ble_eq_true rfl) dX0_reckon_82 ?_
        rintro u_82 ⟨hsi, hfs⟩
        refine g_iinc (j := 3) (lv' := [(3, .int (iI (k + 1))), (0, .ref (gAd G o)), (1, .int (iI set)), (2, .int (iI lift))]) X dX0_reckon_85 rfl (by decide) rfl ?_
        refine g_goto (tgt := 57) X dX0_reckon_88 (by decide) ?_
        refine g_lv (lv' := [(0, .ref (gAd G o)), (1, .int (iI set)), (2, .int (iI lift)), (3, .int (iI (k + 1)))]) [1, 2, 3, 0] rfl ?_
        exact ih_57 (k + 1) u_82 ⟨(by first | omega | rfl | assumption), (by first | omega | rfl | assumption), (by first | exact hfr | (intro o2 f j h; rw [hfs o2 f j (fun z => h z.1)]; exact hfr o2 f j h)), (by
            first
            | (rw [show (k + 1).toNat = k.toNat + 1 by omega]; rw [p2, g4, g5] at hsi; exact hsi)
            | (rw [show (k + 1).toNat = k.toNat + 1 by omega]; have hb0 : tb set k.toNat = 0 := by (rw [g4] at c_77; have := tb01 set k.toNat; omega)
               exact fun t a b => bs_same (hI t a b) (fun x hx _ => by
                 rcases hx k.toNat (by omega) with q | q
                 · exact q
                 · omega))), (by first | exact g3 | (rw [hfs o 3 0 (by simp)]; exact g3)), (by first | exact g4 | (rw [hfs o 4 0 (by simp)]; exact g4)), (by first | exact g5 | (rw [hfs o 5 0 (by simp)]; exact g5))⟩ (by omega)
  · intro J_24
    try dsimp only at J_24
    refine g_aload_n X dX0_reckon_0 rfl 0 rfl ?_
    refine g_geti X ck_X0 ho 3 (by decide) fl_X0_22 (Or.inr rfl) dX0_reckon_1 ?_
    refine g_if_eq (tgt := 24) X dX0_reckon_4 (by decide) (by unfold InR; omega) (fun c_4 => ?_) (fun c_4 => ?_)
    · skip
      refine g_lv (lv' := [(0, .ref (gAd G o)), (1, .int (iI set)), (2, .int (iI lift))]) [0, 1, 2] rfl ?_
      exact J_24 0 trivial
    · skip
      refine g_aload_n X dX0_reckon_7 rfl 0 rfl ?_
      refine g_geti X ck_X0 ho 4 (by decide) fl_X0_26 (Or.inl rfl) dX0_reckon_8 ?_
      refine g_iload_n X dX0_reckon_11 rfl 1 rfl ?_
      refine g_icmp_ne (tgt := 24) X dX0_reckon_12 (by decide) (by unfold InR; omega) (by unfold InR; omega) (fun c_12 => ?_) (fun c_12 => ?_)
      · skip
        refine g_lv (lv' := [(0, .ref (gAd G o)), (1, .int (iI set)), (2, .int (iI lift))]) [0, 1, 2] rfl ?_
        exact J_24 0 trivial
      · skip
        refine g_aload_n X dX0_reckon_15 rfl 0 rfl ?_
        refine g_geti X ck_X0 ho 5 (by decide) fl_X0_30 (Or.inl rfl) dX0_reckon_16 ?_
        refine g_iload_n X dX0_reckon_19 rfl 2 rfl ?_
        refine g_icmp_ne (tgt := 24) X dX0_reckon_20 (by decide) (by unfold InR; omega) (by unfold InR; omega) (fun c_20 => ?_) (fun c_20 => ?_)
        · skip
          refine g_lv (lv' := [(0, .ref (gAd G o)), (1, .int (iI set)), (2, .int (iI lift))]) [0, 1, 2] rfl ?_
          exact J_24 0 trivial
        · skip
          exact g_vret X rfl dX0_reckon_23 (by
              refine ⟨fun _ _ _ _ => rfl, hC, ?_⟩
              rcases hC with h | h
              · omega
              · rw [show set = w o 4 0 by omega, show lift = w o 5 0 by omega]; exact h.2.2.2)
set_option maxHeartbeats 4000000 in
set_option maxRecDepth 100000 in
theorem c_X0_has (l : Launch) (G : Ly) (o : Nat) (load : Int) (w : Wd) (ho : gOb G o = some 0) (hld : 0 ≤ load ∧ load ≤ 480) (hA : InR (w o 1 load.toNat)) : Mi l yX0_has cX0_has 2 (some .boolean) 0 0 G [.ref (gAd G o), .int (iI load)] w (fun z w2 => z = (if w o 1 load.toNat < 1073741824 then 1 else 0) ∧ w2 = w) := by
  refine mi_of (lv := [(0, .ref (gAd G o)), (1, .int (iI load))]) (by decide) (Nat.le_of_ble_eq_true rfl) rfl ?_
  intro p_ e_ s_ m_ b_ h_ c_ X
  refine g_aload_n X dX0_has_0 rfl 0 rfl ?_
  refine g_geta X ck_X0 ho 1 (by decide) fl_X0_11 rfl dX0_has_1 ?_
  refine g_iload_n X dX0_has_4 rfl 1 rfl ?_
  refine h_iald (a := load) (j := (load).toNat) X rfl ho (by decide) (show fkX 0 1 = (1, 481) from rfl) (by decide) (by omega) (by omega) dX0_has_5 ?_
  refine g_ldc (n := 1073741824) X cst_X0_33 (by decide) dX0_has_6 ?_
  refine g_icmp_ge (tgt := 15) X dX0_has_8 (by decide) (by exact hA) ⟨by decide, by decide⟩ (fun c_8 => ?_) (fun c_8 => ?_)
  · skip
    refine g_iconst X dX0_has_15 ?_
    exact g_iret X rfl (by decide) dX0_has_16 (by first | exact ⟨by rw [if_pos (by omega)], rfl⟩ | exact ⟨by rw [if_neg (by omega)], rfl⟩)
  · skip
    refine g_iconst X dX0_has_11 ?_
    refine g_goto (tgt := 16) X dX0_has_12 (by decide) ?_
    exact g_iret X rfl (by decide) dX0_has_16 (by first | exact ⟨by rw [if_pos (by omega)], rfl⟩ | exact ⟨by rw [if_neg (by omega)], rfl⟩)
set_option maxHeartbeats 4000000 in
set_option maxRecDepth 100000 in
theorem c_X0_setFor (l : Launch) (G : Ly) (o : Nat) (load : Int) (w : Wd) (ho : gOb G o = some 0) (hld : 0 ≤ load ∧ load ≤ 480) : Mi l yX0_setFor cX0_setFor 2 (some .int) 0 0 G [.ref (gAd G o), .int (iI load)] w (fun z w2 => z = (band (w o 1 load.toNat) 63) ∧ w2 = w) := by
  refine mi_of (lv := [(0, .ref (gAd G o)), (1, .int (iI load))]) (by decide) (Nat.le_of_ble_eq_true rfl) rfl ?_
  intro p_ e_ s_ m_ b_ h_ c_ X
  refine g_aload_n X dX0_setFor_0 rfl 0 rfl ?_
  refine g_geta X ck_X0 ho 1 (by decide) fl_X0_11 rfl dX0_setFor_1 ?_
  refine g_iload_n X dX0_setFor_4 rfl 1 rfl ?_
  refine h_iald (a := load) (j := (load).toNat) X rfl ho (by decide) (show fkX 0 1 = (1, 481) from rfl) (by decide) (by omega) (by omega) dX0_setFor_5 ?_
  refine g_bipush X dX0_setFor_6 (by decide) ?_
  refine g_iand X dX0_setFor_8 ?_
  exact g_iret X rfl rfl dX0_setFor_9 (by first | exact ⟨rfl, rfl⟩ | rfl | omega)
set_option maxHeartbeats 4000000 in
set_option maxRecDepth 100000 in
theorem c_X0_leastPower (l : Launch) (G : Ly) (o : Nat) (load : Int) (w : Wd) (ho : gOb G o = some 0) (hld : 0 ≤ load ∧ load ≤ 480) : Mi l yX0_leastPower cX0_leastPower 2 (some .int) 0 0 G [.ref (gAd G o), .int (iI load)] w (fun z w2 => z = (bshr (w o 1 load.toNat) 9) ∧ w2 = w) := by
  refine mi_of (lv := [(0, .ref (gAd G o)), (1, .int (iI load))]) (by decide) (Nat.le_of_ble_eq_true rfl) rfl ?_
  intro p_ e_ s_ m_ b_ h_ c_ X
  refine g_aload_n X dX0_leastPower_0 rfl 0 rfl ?_
  refine g_geta X ck_X0 ho 1 (by decide) fl_X0_11 rfl dX0_leastPower_1 ?_
  refine g_iload_n X dX0_leastPower_4 rfl 1 rfl ?_
  refine h_iald (a := load) (j := (load).toNat) X rfl ho (by decide) (show fkX 0 1 = (1, 481) from rfl) (by decide) (by omega) (by omega) dX0_leastPower_5 ?_
  refine g_bipush X dX0_leastPower_6 (by decide) ?_
  refine g_ishr X dX0_leastPower_8 ?_
  exact g_iret X rfl rfl dX0_leastPower_9 (by first | exact ⟨rfl, rfl⟩ | rfl | omega)
