/-- the places of a state that count -/
def inS (f j : Nat) : Prop := (f = 0 ∧ j < 4) ∨ (1 ≤ f ∧ f ≤ 9 ∧ j = 0) ∨ ((f = 10 ∨ f = 11 ∨ f = 12 ∨ f = 14) ∧ j < 6) ∨ (f = 13 ∧ j < 54)
def ResX (u : Nat → Nat → Int) : Prop := (u 0 0 = 0 ∧ u 0 1 = 0 ∧ u 0 2 = 25 ∧ u 0 3 = 7) ∧ (u 1 0 = 0 ∧ u 2 0 = 0 ∧ u 3 0 = 0 ∧ u 4 0 = 0 ∧ u 5 0 = 0 ∧ u 6 0 = 0 ∧ u 7 0 = 0 ∧ u 8 0 = -100000 ∧ u 9 0 = 0) ∧ ∀ j, j < 6 → u 11 j = 0 ∧ u 12 j = 0 ∧ u 14 j = -100000
theorem fxs {G : Ly} (F : FX G) {n : Nat} (h : n < 4) : gOb G (5 + n) = some 6 := by
  match n, h with
  | 0, _ => exact fx5 F
  | 1, _ => exact fx6 F
  | 2, _ => exact fx7 F
  | 3, _ => exact fx8 F
theorem fxe {G : Ly} (F : FX G) {n : Nat} (h : n < 4) : gLk G 9 (100 + n) = 5 + n := by
  match n, h with
  | 0, _ => exact fl9_100 F
  | 1, _ => exact fl9_101 F
  | 2, _ => exact fl9_102 F
  | 3, _ => exact fl9_103 F
set_option maxHeartbeats 4000000 in
set_option maxRecDepth 100000 in
theorem c_X6_reset (l : Launch) (G : Ly) (o : Nat) (w : Wd) (ho : gOb G o = some 6) : Mv l yX6_reset cX6_reset 1 none 1 35 G [.ref (gAd G o)] w (fun w2 => (∀ o2, o2 ≠ o → w2 o2 = w o2) ∧ ResX (w2 o) ∧ ∀ j, w2 o 13 j = w o 13 j) := by
  refine mv_of (lv := [(0, .ref (gAd G o))]) (by decide) (Nat.le_of_ble_eq_true rfl) rfl ?_
  intro p_ e_ s_ m_ b_ h_ c_ X
  refine g_getsN X 2 (by decide) fn_X6_33 dX6_reset_0 ?_
  refine g_iconst X dX6_reset_3 ?_
  refine g_aload_n X dX6_reset_4 rfl 0 rfl ?_
  refine g_geta X ck_X6 ho 0 (by decide) fl_X6_9 rfl dX6_reset_5 ?_
  refine g_iconst X dX6_reset_8 ?_
  refine g_iconst X dX6_reset_9 ?_
  refine g_cpys (n := 4) X ml_X6_36 2 (by decide) ho (by decide) (show fkX 6 0 = (1, 4) from rfl) (by decide) (by decide) (by decide) ⟨Nat.le_of_ble_eq_true rfl, Nat.le_of_ble_eq_true rfl⟩ (Nat.le_of_ble_eq_true rfl) dX6_reset_10 ?_
  obtain ⟨w_1, ew_1⟩ : ∃ q_ : Wd, q_ = cpyS w o 0 2 4 := ⟨_, rfl⟩
  refine g_w (w' := w_1) ew_1 ?_
  refine g_aload_n X dX6_reset_13 rfl 0 rfl ?_
  refine g_iconst X dX6_reset_14 ?_
  refine g_puti X ck_X6 ho 1 (by decide) fl_X6_42 rfl rfl rfl dX6_reset_15 ?_
  obtain ⟨w_2, ew_2⟩ : ∃ q_ : Wd, q_ = up w_1 o 1 0 0 := ⟨_, rfl⟩
  refine g_w (w' := w_2) ew_2 ?_
  refine g_aload_n X dX6_reset_18 rfl 0 rfl ?_
  refine g_iconst X dX6_reset_19 ?_
  refine g_puti X ck_X6 ho 2 (by decide) fl_X6_46 rfl rfl rfl dX6_reset_20 ?_
  obtain ⟨w_3, ew_3⟩ : ∃ q_ : Wd, q_ = up w_2 o 2 0 0 := ⟨_, rfl⟩
  refine g_w (w' := w_3) ew_3 ?_
  refine g_aload_n X dX6_reset_23 rfl 0 rfl ?_
  refine g_iconst X dX6_reset_24 ?_
  refine g_puti X ck_X6 ho 3 (by decide) fl_X6_49 rfl rfl rfl dX6_reset_25 ?_
  obtain ⟨w_4, ew_4⟩ : ∃ q_ : Wd, q_ = up w_3 o 3 0 0 := ⟨_, rfl⟩
  refine g_w (w' := w_4) ew_4 ?_
  refine g_aload_n X dX6_reset_28 rfl 0 rfl ?_
  refine g_iconst X dX6_reset_29 ?_
  refine g_puti X ck_X6 ho 4 (by decide) fl_X6_52 rfl rfl rfl dX6_reset_30 ?_
  obtain ⟨w_5, ew_5⟩ : ∃ q_ : Wd, q_ = up w_4 o 4 0 0 := ⟨_, rfl⟩
  refine g_w (w' := w_5) ew_5 ?_
  refine g_aload_n X dX6_reset_33 rfl 0 rfl ?_
  refine g_iconst X dX6_reset_34 ?_
  refine g_puti X ck_X6 ho 5 (by decide) fl_X6_55 rfl rfl rfl dX6_reset_35 ?_
  obtain ⟨w_6, ew_6⟩ : ∃ q_ : Wd, q_ = up w_5 o 5 0 0 := ⟨_, rfl⟩
  refine g_w (w' := w_6) ew_6 ?_
  refine g_aload_n X dX6_reset_38 rfl 0 rfl ?_
  refine g_iconst X dX6_reset_39 ?_
  refine g_puti X ck_X6 ho 6 (by decide) fl_X6_58 rfl rfl rfl dX6_reset_40 ?_
  obtain ⟨w_7, ew_7⟩ : ∃ q_ : Wd, q_ = up w_6 o 6 0 0 := ⟨_, rfl⟩
  refine g_w (w' := w_7) ew_7 ?_
  refine g_aload_n X dX6_reset_43 rfl 0 rfl ?_
  refine g_iconst X dX6_reset_44 ?_
  refine g_puti X ck_X6 ho 7 (by decide) fl_X6_61 rfl rfl rfl dX6_reset_45 ?_
  obtain ⟨w_8, ew_8⟩ : ∃ q_ : Wd, q_ = up w_7 o 7 0 0 := ⟨_, rfl⟩
  refine g_w (w' := w_8) ew_8 ?_
  refine g_aload_n X dX6_reset_48 rfl 0 rfl ?_
  refine g_ldc (n := (-100000)) X cst_X6_64 (by decide) dX6_reset_49 ?_
  refine g_puti X ck_X6 ho 8 (by decide) fl_X6_65 rfl rfl rfl dX6_reset_51 ?_
  obtain ⟨w_9, ew_9⟩ : ∃ q_ : Wd, q_ = up w_8 o 8 0 (-100000) := ⟨_, rfl⟩
  refine g_w (w' := w_9) ew_9 ?_
  refine g_aload_n X dX6_reset_54 rfl 0 rfl ?_
  refine g_iconst X dX6_reset_55 ?_
  refine g_puti X ck_X6 ho 9 (by decide) fl_X6_68 rfl rfl rfl dX6_reset_56 ?_
  obtain ⟨w_10, ew_10⟩ : ∃ q_ : Wd, q_ = up w_9 o 9 0 0 := ⟨_, rfl⟩
  refine g_w (w' := w_10) ew_10 ?_
  refine g_aload_n X dX6_reset_59 rfl 0 rfl ?_
  refine g_geta X ck_X6 ho 11 (by decide) fl_X6_18 rfl dX6_reset_60 ?_
  refine g_iconst X dX6_reset_63 ?_
  refine g_callsv (st := []) X (c_J7_fill_53178_6_11 l G o 0 w_10 ho) cm_J7_fill_53178 sm_J7_fill_53178 ml_X6_71 ⟨Nat.le_of_ble_eq_true rfl, Nat.le_of_ble_eq_true rfl⟩ rfl rfl (Nat.le_of_ble_eq_true rfl) dX6_reset_64 (fn_v ?_)
  obtain ⟨w_11, ew_11⟩ : ∃ q_ : Wd, q_ = upA w_10 o 11 (fillN (w_10 o 11) 0 6) := ⟨_, rfl⟩
  refine g_w (w' := w_11) ew_11 ?_
  refine g_aload_n X dX6_reset_67 rfl 0 rfl ?_
  refine g_geta X ck_X6 ho 12 (by decide) fl_X6_21 rfl dX6_reset_68 ?_
  refine g_iconst X dX6_reset_71 ?_
  refine g_callsv (st := []) X (c_J7_fill_53178_6_12 l G o 0 w_11 ho) cm_J7_fill_53178 sm_J7_fill_53178 ml_X6_71 ⟨Nat.le_of_ble_eq_true rfl, Nat.le_of_ble_eq_true rfl⟩ rfl rfl (Nat.le_of_ble_eq_true rfl) dX6_reset_72 (fn_v ?_)
  obtain ⟨w_12, ew_12⟩ : ∃ q_ : Wd, q_ = upA w_11 o 12 (fillN (w_11 o 12) 0 6) := ⟨_, rfl⟩
  refine g_w (w' := w_12) ew_12 ?_
  refine g_aload_n X dX6_reset_75 rfl 0 rfl ?_
  refine g_geta X ck_X6 ho 14 (by decide) fl_X6_27 rfl dX6_reset_76 ?_
  refine g_ldc (n := (-100000)) X cst_X6_64 (by decide) dX6_reset_79 ?_
  refine g_callsv (st := []) X (c_J7_fill_53178_6_14 l G o (-100000) w_12 ho) cm_J7_fill_53178 sm_J7_fill_53178 ml_X6_71 ⟨Nat.le_of_ble_eq_true rfl, Nat.le_of_ble_eq_true rfl⟩ rfl rfl (Nat.le_of_ble_eq_true rfl) dX6_reset_81 (fn_v ?_)
  obtain ⟨w_13, ew_13⟩ : ∃ q_ : Wd, q_ = upA w_12 o 14 (fillN (w_12 o 14) (-100000) 6) := ⟨_, rfl⟩
  refine g_w (w' := w_13) ew_13 ?_
  exact g_vret X rfl dX6_reset_84 (by
      refine ⟨fun o2 h => ?_, ⟨?_, ?_, ?_⟩, ?_⟩
      · funext f j
        rw [ew_13, ew_12, ew_11, ew_10, ew_9, ew_8, ew_7, ew_6, ew_5, ew_4, ew_3, ew_2, ew_1]
        simp [up, upA, cpyS, h]
      · rw [ew_13, ew_12, ew_11, ew_10, ew_9, ew_8, ew_7, ew_6, ew_5, ew_4, ew_3, ew_2, ew_1]
        simp [up, upA, cpyS, slX]
      · rw [ew_13, ew_12, ew_11, ew_10, ew_9, ew_8, ew_7, ew_6, ew_5, ew_4, ew_3, ew_2, ew_1]
        simp [up, upA]
      · intro j hj
        rw [ew_13, ew_12, ew_11, ew_10, ew_9, ew_8, ew_7, ew_6, ew_5, ew_4, ew_3, ew_2, ew_1]
        simp [up, upA, fillN, hj]
      · intro j
        rw [ew_13, ew_12, ew_11, ew_10, ew_9, ew_8, ew_7, ew_6, ew_5, ew_4, ew_3, ew_2, ew_1]
        simp [up, upA, cpyS])
set_option maxHeartbeats 4000000 in
set_option maxRecDepth 100000 in
theorem c_X6_copyFrom (l : Launch) (G : Ly) (o : Nat) (q : Nat) (w : Wd) (ho : gOb G o = some 6) (hq : gOb G q = some 6) (hne : q ≠ o) : Mv l yX6_copyFrom cX6_copyFrom 2 none 1 35 G [.ref (gAd G o), .ref (gAd G q)] w (fun w2 => (∀ o2, o2 ≠ o → w2 o2 = w o2) ∧ ∀ f j, inS f j → w2 o f j = w q f j) := by
  refine mv_of (lv := [(0, .ref (gAd G o)), (1, .ref (gAd G q))]) (by decide) (Nat.le_of_ble_eq_true rfl) rfl ?_
  intro p_ e_ s_ m_ b_ h_ c_ X
  refine g_aload_n X dX6_copyFrom_0 rfl 1 rfl ?_
  refine g_geta X ck_X6 hq 0 (by decide) fl_X6_9 rfl dX6_copyFrom_1 ?_
  refine g_iconst X dX6_copyFrom_4 ?_
  refine g_aload_n X dX6_copyFrom_5 rfl 0 rfl ?_
  refine g_geta X ck_X6 ho 0 (by decide) fl_X6_9 rfl dX6_copyFrom_6 ?_
  refine g_iconst X dX6_copyFrom_9 ?_
  refine g_iconst X dX6_copyFrom_10 ?_
  refine g_cpya (n := 4) X ml_X6_36 hq ho (by decide) (show fkX 6 0 = (1, 4) from rfl) (by decide) (by decide) (by decide) ⟨Nat.le_of_ble_eq_true rfl, Nat.le_of_ble_eq_true rfl⟩ (Nat.le_of_ble_eq_true rfl) dX6_copyFrom_11 ?_
  obtain ⟨w_1, ew_1⟩ : ∃ q_ : Wd, q_ = cpyA w o q 0 4 := ⟨_, rfl⟩
  refine g_w (w' := w_1) ew_1 ?_
  refine g_aload_n X dX6_copyFrom_14 rfl 0 rfl ?_
  refine g_aload_n X dX6_copyFrom_15 rfl 1 rfl ?_
  refine g_geti X ck_X6 hq 1 (by decide) fl_X6_42 (Or.inl rfl) dX6_copyFrom_16 ?_
  refine g_puti X ck_X6 ho 1 (by decide) fl_X6_42 rfl rfl rfl dX6_copyFrom_19 ?_
  obtain ⟨w_2, ew_2⟩ : ∃ q_ : Wd, q_ = up w_1 o 1 0 (w_1 q 1 0) := ⟨_, rfl⟩
  refine g_w (w' := w_2) ew_2 ?_
  refine g_aload_n X dX6_copyFrom_22 rfl 0 rfl ?_
  refine g_aload_n X dX6_copyFrom_23 rfl 1 rfl ?_
  refine g_geti X ck_X6 hq 2 (by decide) fl_X6_46 (Or.inl rfl) dX6_copyFrom_24 ?_
  refine g_puti X ck_X6 ho 2 (by decide) fl_X6_46 rfl rfl rfl dX6_copyFrom_27 ?_
  obtain ⟨w_3, ew_3⟩ : ∃ q_ : Wd, q_ = up w_2 o 2 0 (w_2 q 2 0) := ⟨_, rfl⟩
  refine g_w (w' := w_3) ew_3 ?_
  refine g_aload_n X dX6_copyFrom_30 rfl 0 rfl ?_
  refine g_aload_n X dX6_copyFrom_31 rfl 1 rfl ?_
  refine g_geti X ck_X6 hq 3 (by decide) fl_X6_49 (Or.inl rfl) dX6_copyFrom_32 ?_
  refine g_puti X ck_X6 ho 3 (by decide) fl_X6_49 rfl rfl rfl dX6_copyFrom_35 ?_
  obtain ⟨w_4, ew_4⟩ : ∃ q_ : Wd, q_ = up w_3 o 3 0 (w_3 q 3 0) := ⟨_, rfl⟩
  refine g_w (w' := w_4) ew_4 ?_
  refine g_aload_n X dX6_copyFrom_38 rfl 0 rfl ?_
  refine g_aload_n X dX6_copyFrom_39 rfl 1 rfl ?_
  refine g_geti X ck_X6 hq 4 (by decide) fl_X6_52 (Or.inl rfl) dX6_copyFrom_40 ?_
  refine g_puti X ck_X6 ho 4 (by decide) fl_X6_52 rfl rfl rfl dX6_copyFrom_43 ?_
  obtain ⟨w_5, ew_5⟩ : ∃ q_ : Wd, q_ = up w_4 o 4 0 (w_4 q 4 0) := ⟨_, rfl⟩
  refine g_w (w' := w_5) ew_5 ?_
  refine g_aload_n X dX6_copyFrom_46 rfl 0 rfl ?_
  refine g_aload_n X dX6_copyFrom_47 rfl 1 rfl ?_
  refine g_geti X ck_X6 hq 5 (by decide) fl_X6_55 (Or.inl rfl) dX6_copyFrom_48 ?_
  refine g_puti X ck_X6 ho 5 (by decide) fl_X6_55 rfl rfl rfl dX6_copyFrom_51 ?_
  obtain ⟨w_6, ew_6⟩ : ∃ q_ : Wd, q_ = up w_5 o 5 0 (w_5 q 5 0) := ⟨_, rfl⟩
  refine g_w (w' := w_6) ew_6 ?_
  refine g_aload_n X dX6_copyFrom_54 rfl 0 rfl ?_
  refine g_aload_n X dX6_copyFrom_55 rfl 1 rfl ?_
  refine g_geti X ck_X6 hq 6 (by decide) fl_X6_58 (Or.inl rfl) dX6_copyFrom_56 ?_
  refine g_puti X ck_X6 ho 6 (by decide) fl_X6_58 rfl rfl rfl dX6_copyFrom_59 ?_
  obtain ⟨w_7, ew_7⟩ : ∃ q_ : Wd, q_ = up w_6 o 6 0 (w_6 q 6 0) := ⟨_, rfl⟩
  refine g_w (w' := w_7) ew_7 ?_
  refine g_aload_n X dX6_copyFrom_62 rfl 0 rfl ?_
  refine g_aload_n X dX6_copyFrom_63 rfl 1 rfl ?_
  refine g_geti X ck_X6 hq 7 (by decide) fl_X6_61 (Or.inl rfl) dX6_copyFrom_64 ?_
  refine g_puti X ck_X6 ho 7 (by decide) fl_X6_61 rfl rfl rfl dX6_copyFrom_67 ?_
  obtain ⟨w_8, ew_8⟩ : ∃ q_ : Wd, q_ = up w_7 o 7 0 (w_7 q 7 0) := ⟨_, rfl⟩
  refine g_w (w' := w_8) ew_8 ?_
  refine g_aload_n X dX6_copyFrom_70 rfl 0 rfl ?_
  refine g_aload_n X dX6_copyFrom_71 rfl 1 rfl ?_
  refine g_geti X ck_X6 hq 8 (by decide) fl_X6_65 (Or.inl rfl) dX6_copyFrom_72 ?_
  refine g_puti X ck_X6 ho 8 (by decide) fl_X6_65 rfl rfl rfl dX6_copyFrom_75 ?_
  obtain ⟨w_9, ew_9⟩ : ∃ q_ : Wd, q_ = up w_8 o 8 0 (w_8 q 8 0) := ⟨_, rfl⟩
  refine g_w (w' := w_9) ew_9 ?_
  refine g_aload_n X dX6_copyFrom_78 rfl 0 rfl ?_
  refine g_aload_n X dX6_copyFrom_79 rfl 1 rfl ?_
  refine g_geti X ck_X6 hq 9 (by decide) fl_X6_68 (Or.inl rfl) dX6_copyFrom_80 ?_
  refine g_puti X ck_X6 ho 9 (by decide) fl_X6_68 rfl rfl rfl dX6_copyFrom_83 ?_
  obtain ⟨w_10, ew_10⟩ : ∃ q_ : Wd, q_ = up w_9 o 9 0 (w_9 q 9 0) := ⟨_, rfl⟩
  refine g_w (w' := w_10) ew_10 ?_
  refine g_aload_n X dX6_copyFrom_86 rfl 1 rfl ?_
  refine g_geta X ck_X6 hq 10 (by decide) fl_X6_15 rfl dX6_copyFrom_87 ?_
  refine g_iconst X dX6_copyFrom_90 ?_
  refine g_aload_n X dX6_copyFrom_91 rfl 0 rfl ?_
  refine g_geta X ck_X6 ho 10 (by decide) fl_X6_15 rfl dX6_copyFrom_92 ?_
  refine g_iconst X dX6_copyFrom_95 ?_
  refine g_bipush X dX6_copyFrom_96 (by decide) ?_
  refine g_cpya (n := 6) X ml_X6_36 hq ho (by decide) (show fkX 6 10 = (1, 6) from rfl) (by decide) (by decide) (by decide) ⟨Nat.le_of_ble_eq_true rfl, Nat.le_of_ble_eq_true rfl⟩ (Nat.le_of_ble_eq_true rfl) dX6_copyFrom_98 ?_
  obtain ⟨w_11, ew_11⟩ : ∃ q_ : Wd, q_ = cpyA w_10 o q 10 6 := ⟨_, rfl⟩
  refine g_w (w' := w_11) ew_11 ?_
  refine g_aload_n X dX6_copyFrom_101 rfl 1 rfl ?_
  refine g_geta X ck_X6 hq 11 (by decide) fl_X6_18 rfl dX6_copyFrom_102 ?_
  refine g_iconst X dX6_copyFrom_105 ?_
  refine g_aload_n X dX6_copyFrom_106 rfl 0 rfl ?_
  refine g_geta X ck_X6 ho 11 (by decide) fl_X6_18 rfl dX6_copyFrom_107 ?_
  refine g_iconst X dX6_copyFrom_110 ?_
  refine g_bipush X dX6_copyFrom_111 (by decide) ?_
  refine g_cpya (n := 6) X ml_X6_36 hq ho (by decide) (show fkX 6 11 = (1, 6) from rfl) (by decide) (by decide) (by decide) ⟨Nat.le_of_ble_eq_true rfl, Nat.le_of_ble_eq_true rfl⟩ (Nat.le_of_ble_eq_true rfl) dX6_copyFrom_113 ?_
  obtain ⟨w_12, ew_12⟩ : ∃ q_ : Wd, q_ = cpyA w_11 o q 11 6 := ⟨_, rfl⟩
  refine g_w (w' := w_12) ew_12 ?_
  refine g_aload_n X dX6_copyFrom_116 rfl 1 rfl ?_
  refine g_geta X ck_X6 hq 12 (by decide) fl_X6_21 rfl dX6_copyFrom_117 ?_
  refine g_iconst X dX6_copyFrom_120 ?_
  refine g_aload_n X dX6_copyFrom_121 rfl 0 rfl ?_
  refine g_geta X ck_X6 ho 12 (by decide) fl_X6_21 rfl dX6_copyFrom_122 ?_
  refine g_iconst X dX6_copyFrom_125 ?_
  refine g_bipush X dX6_copyFrom_126 (by decide) ?_
  refine g_cpya (n := 6) X ml_X6_36 hq ho (by decide) (show fkX 6 12 = (1, 6) from rfl) (by decide) (by decide) (by decide) ⟨Nat.le_of_ble_eq_true rfl, Nat.le_of_ble_eq_true rfl⟩ (Nat.le_of_ble_eq_true rfl) dX6_copyFrom_128 ?_
  obtain ⟨w_13, ew_13⟩ : ∃ q_ : Wd, q_ = cpyA w_12 o q 12 6 := ⟨_, rfl⟩
  refine g_w (w' := w_13) ew_13 ?_
  refine g_aload_n X dX6_copyFrom_131 rfl 1 rfl ?_
  refine g_geta X ck_X6 hq 13 (by decide) fl_X6_24 rfl dX6_copyFrom_132 ?_
  refine g_iconst X dX6_copyFrom_135 ?_
  refine g_aload_n X dX6_copyFrom_136 rfl 0 rfl ?_
  refine g_geta X ck_X6 ho 13 (by decide) fl_X6_24 rfl dX6_copyFrom_137 ?_
  refine g_iconst X dX6_copyFrom_140 ?_
  refine g_bipush X dX6_copyFrom_141 (by decide) ?_
  refine g_cpya (n := 54) X ml_X6_36 hq ho (by decide) (show fkX 6 13 = (1, 54) from rfl) (by decide) (by decide) (by decide) ⟨Nat.le_of_ble_eq_true rfl, Nat.le_of_ble_eq_true rfl⟩ (Nat.le_of_ble_eq_true rfl) dX6_copyFrom_143 ?_
  obtain ⟨w_14, ew_14⟩ : ∃ q_ : Wd, q_ = cpyA w_13 o q 13 54 := ⟨_, rfl⟩
  refine g_w (w' := w_14) ew_14 ?_
  refine g_aload_n X dX6_copyFrom_146 rfl 1 rfl ?_
  refine g_geta X ck_X6 hq 14 (by decide) fl_X6_27 rfl dX6_copyFrom_147 ?_
  refine g_iconst X dX6_copyFrom_150 ?_
  refine g_aload_n X dX6_copyFrom_151 rfl 0 rfl ?_
  refine g_geta X ck_X6 ho 14 (by decide) fl_X6_27 rfl dX6_copyFrom_152 ?_
  refine g_iconst X dX6_copyFrom_155 ?_
  refine g_bipush X dX6_copyFrom_156 (by decide) ?_
  refine g_cpya (n := 6) X ml_X6_36 hq ho (by decide) (show fkX 6 14 = (1, 6) from rfl) (by decide) (by decide) (by decide) ⟨Nat.le_of_ble_eq_true rfl, Nat.le_of_ble_eq_true rfl⟩ (Nat.le_of_ble_eq_true rfl) dX6_copyFrom_158 ?_
  obtain ⟨w_15, ew_15⟩ : ∃ q_ : Wd, q_ = cpyA w_14 o q 14 6 := ⟨_, rfl⟩
  refine g_w (w' := w_15) ew_15 ?_
  exact g_vret X rfl dX6_copyFrom_161 (by
      refine ⟨fun o2 h => ?_, fun f j h => ?_⟩
      · funext f j
        rw [ew_15, ew_14, ew_13, ew_12, ew_11, ew_10, ew_9, ew_8, ew_7, ew_6, ew_5, ew_4, ew_3, ew_2, ew_1]
        simp [up, cpyA, h]
      · have hne2 : ¬ o = q := fun z => hne z.symm
        rw [ew_15, ew_14, ew_13, ew_12, ew_11, ew_10, ew_9, ew_8, ew_7, ew_6, ew_5, ew_4, ew_3, ew_2, ew_1]
        unfold inS at h
        rcases h with ⟨rfl, h⟩ | ⟨h1, h2, rfl⟩ | ⟨h1, h⟩ | ⟨rfl, h⟩
        · simp [up, cpyA, hne, h]
        · rcases (show f = 1 ∨ f = 2 ∨ f = 3 ∨ f = 4 ∨ f = 5 ∨ f = 6 ∨ f = 7 ∨ f = 8 ∨ f = 9 by omega) with rfl | rfl | rfl | rfl | rfl | rfl | rfl | rfl | rfl <;> simp [up, cpyA, hne]
        · rcases h1 with rfl | rfl | rfl | rfl <;> simp [up, cpyA, hne, h]
        · simp [up, cpyA, hne, h])
set_option maxHeartbeats 4000000 in
set_option maxRecDepth 100000 in
theorem c_X1_forget (l : Launch) (G : Ly)  (w : Wd) (F : FX G) : Mv l yX1_forget cX1_forget 1 none 0 0 G [.ref (gAd G 9)] w (fun w2 => w2 = up w 9 0 0 0) := by
  refine mv_of (lv := [(0, .ref (gAd G 9))]) (by decide) (Nat.le_of_ble_eq_true rfl) rfl ?_
  intro p_ e_ s_ m_ b_ h_ c_ X
  refine g_aload_n X dX1_forget_0 rfl 0 rfl ?_
  refine g_iconst X dX1_forget_1 ?_
  refine g_puti X ck_X1 (fx9 F) 0 (by decide) fl_X1_18 rfl rfl rfl dX1_forget_2 ?_
  obtain ⟨w_1, ew_1⟩ : ∃ q_ : Wd, q_ = up w 9 0 0 0 := ⟨_, rfl⟩
  refine g_w (w' := w_1) ew_1 ?_
  exact g_vret X rfl dX1_forget_5 (by exact ew_1)
set_option maxHeartbeats 4000000 in
set_option maxRecDepth 100000 in
theorem c_X1_keep (l : Launch) (G : Ly)  (w : Wd) (F : FX G) (hn : 0 ≤ w 9 1 0 ∧ w 9 1 0 < 4) (hh : 0 ≤ w 9 0 0 ∧ w 9 0 0 ≤ 4) : Mv l yX1_keep cX1_keep 2 none 2 56 G [.ref (gAd G 9), .ref (gAd G 3)] w (fun w2 => (∀ f j, inS f j → w2 (5 + (w 9 1 0).toNat) f j = w 3 f j) ∧ w2 9 1 0 = (w 9 1 0 + 1) % 4 ∧ w2 9 0 0 = min 4 (w 9 0 0 + 1) ∧ ∀ o2, o2 ≠ 5 + (w 9 1 0).toNat → o2 ≠ 9 → w2 o2 = w o2) := by
  refine mv_of (lv := [(0, .ref (gAd G 9)), (1, .ref (gAd G 3))]) (by decide) (Nat.le_of_ble_eq_true rfl) rfl ?_
  intro p_ e_ s_ m_ b_ h_ c_ X
  refine g_aload_n X dX1_keep_0 rfl 0 rfl ?_
  refine g_geta X ck_X1 (fx9 F) 2 (by decide) fl_X1_11 rfl dX1_keep_1 ?_
  refine g_aload_n X dX1_keep_4 rfl 0 rfl ?_
  refine g_geti X ck_X1 (fx9 F) 1 (by decide) fl_X1_22 (Or.inl rfl) dX1_keep_5 ?_
  refine g_aald (o' := 5 + (w 9 1 0).toNat) X (fx9 F) (by decide) (show fkX 1 2 = (5, 4) from rfl) (by decide) (by omega) (by omega) (fxe F (by omega)) dX1_keep_8 ?_
  refine g_aload_n X dX1_keep_9 rfl 1 rfl ?_
  refine g_callv (st := []) X (c_X6_copyFrom l G (5 + (w 9 1 0).toNat) 3 w (fxs F (by omega)) (fx3 F) (by omega)) cm_X6_copyFrom im_X6_copyFrom se_X6_copyFrom ml_X1_25 ck_X6 (fxs F (by omega)) ⟨Nat.le_of_ble_eq_true rfl, Nat.le_of_ble_eq_true rfl⟩ rfl rfl (Nat.le_of_ble_eq_true rfl) dX1_keep_10 ?_
  rintro u_10 ⟨hfr, hcp⟩
  have q9 : u_10 9 1 0 = w 9 1 0 := by rw [hfr 9 (by omega)]
  have q90 : u_10 9 0 0 = w 9 0 0 := by rw [hfr 9 (by omega)]
  refine g_aload_n X dX1_keep_13 rfl 0 rfl ?_
  refine g_aload_n X dX1_keep_14 rfl 0 rfl ?_
  refine g_geti X ck_X1 (fx9 F) 1 (by decide) fl_X1_22 (Or.inl rfl) dX1_keep_15 ?_
  refine g_iconst X dX1_keep_18 ?_
  refine g_iadd X dX1_keep_19 ?_
  refine g_iconst X dX1_keep_20 ?_
  refine g_irem X dX1_keep_21 ⟨by decide, by decide⟩ (by omega) ?_
  rw [show (jrem ((u_10 9 1 0) + 1) 4 : Int) = (w 9 1 0 + 1) % 4 from (by rw [q9]; exact jrem_pos (by unfold InR; omega) (by omega) (by decide) (by decide))]
  refine g_puti X ck_X1 (fx9 F) 1 (by decide) fl_X1_22 rfl rfl rfl dX1_keep_22 ?_
  obtain ⟨w_1, ew_1⟩ : ∃ q_ : Wd, q_ = up u_10 9 1 0 ((w 9 1 0 + 1) % 4) := ⟨_, rfl⟩
  refine g_w (w' := w_1) ew_1 ?_
  refine g_aload_n X dX1_keep_25 rfl 0 rfl ?_
  refine g_iconst X dX1_keep_26 ?_
  refine g_aload_n X dX1_keep_27 rfl 0 rfl ?_
  refine g_geti X ck_X1 (fx9 F) 0 (by decide) fl_X1_18 (Or.inl rfl) dX1_keep_28 ?_
  refine g_iconst X dX1_keep_31 ?_
  refine g_iadd X dX1_keep_32 ?_
  refine g_min X ml_X1_29 ⟨by decide, by decide⟩ (by rw [ew_1, up_ne (by decide), q90]; unfold InR; omega) ⟨Nat.le_of_ble_eq_true rfl, Nat.le_of_ble_eq_true rfl⟩ (Nat.le_of_ble_eq_true rfl) dX1_keep_33 ?_
  refine g_puti X ck_X1 (fx9 F) 0 (by decide) fl_X1_18 rfl rfl rfl dX1_keep_36 ?_
  obtain ⟨w_2, ew_2⟩ : ∃ q_ : Wd, q_ = up w_1 9 0 0 (min 4 ((w_1 9 0 0) + 1)) := ⟨_, rfl⟩
  refine g_w (w' := w_2) ew_2 ?_
  exact g_vret X rfl dX1_keep_39 (by
      refine ⟨fun f j h => ?_, ?_, ?_, fun o2 h1 h2 => ?_⟩
      · rw [ew_2, ew_1, up_ne (fun z => absurd z.1 (by omega)), up_ne (fun z => absurd z.1 (by omega))]
        exact hcp f j h
      · rw [ew_2, ew_1, up_ne (by decide), up_at]
      · rw [ew_2, ew_1, up_at, up_ne (by decide), q90]
      · rw [ew_2, ew_1]
        funext f j
        rw [up_ne (fun z => h2 z.1), up_ne (fun z => h2 z.1), hfr o2 h1])
set_option maxHeartbeats 4000000 in
set_option maxRecDepth 100000 in
theorem c_X1_giveBack (l : Launch) (G : Ly)  (w : Wd) (F : FX G) (hn : 0 ≤ w 9 1 0 ∧ w 9 1 0 < 4) (hh : 0 ≤ w 9 0 0 ∧ w 9 0 0 ≤ 4) : Mi l yX1_giveBack cX1_giveBack 2 (some .boolean) 2 56 G [.ref (gAd G 9), .ref (gAd G 3)] w (fun z w2 => (z = 0 ∧ w 9 0 0 = 0 ∧ w2 = w) ∨ (z = 1 ∧ w 9 0 0 ≠ 0 ∧ (∀ f j, inS f j → w2 3 f j = w (5 + ((w 9 1 0 + 3) % 4).toNat) f j) ∧ w2 9 1 0 = (w 9 1 0 + 3) % 4 ∧ w2 9 0 0 = w 9 0 0 - 1 ∧ ∀ o2, o2 ≠ 3 → o2 ≠ 9 → w2 o2 = w o2)) := by
  refine mi_of (lv := [(0, .ref (gAd G 9)), (1, .ref (gAd G 3))]) (by decide) (Nat.le_of_ble_eq_true rfl) rfl ?_
  intro p_ e_ s_ m_ b_ h_ c_ X
  refine g_aload_n X dX1_giveBack_0 rfl 0 rfl ?_
  refine g_geti X ck_X1 (fx9 F) 0 (by decide) fl_X1_18 (Or.inl rfl) dX1_giveBack_1 ?_
  refine g_if_ne (tgt := 9) X dX1_giveBack_4 (by decide) (by unfold InR; omega) (fun c_4 => ?_) (fun c_4 => ?_)
  · skip
    refine g_aload_n X dX1_giveBack_9 rfl 0 rfl ?_
    refine g_aload_n X dX1_giveBack_10 rfl 0 rfl ?_
    refine g_geti X ck_X1 (fx9 F) 1 (by decide) fl_X1_22 (Or.inl rfl) dX1_giveBack_11 ?_
    refine g_iconst X dX1_giveBack_14 ?_
    refine g_iadd X dX1_giveBack_15 ?_
    refine g_iconst X dX1_giveBack_16 ?_
    refine g_isub X dX1_giveBack_17 ?_
    refine g_iconst X dX1_giveBack_18 ?_
    refine g_irem X dX1_giveBack_19 ⟨by decide, by decide⟩ (by omega) ?_
    rw [show (jrem (((w 9 1 0) + 4) - 1) 4 : Int) = (w 9 1 0 + 3) % 4 from (by rw [show w 9 1 0 + 4 - 1 = w 9 1 0 + 3 by omega]; exact jrem_pos (by unfold InR; omega) (by omega) (by decide) (by decide))]
    refine g_puti X ck_X1 (fx9 F) 1 (by decide) fl_X1_22 rfl rfl rfl dX1_giveBack_20 ?_
    obtain ⟨w_1, ew_1⟩ : ∃ q_ : Wd, q_ = up w 9 1 0 ((w 9 1 0 + 3) % 4) := ⟨_, rfl⟩
    refine g_w (w' := w_1) ew_1 ?_
    refine g_aload_n X dX1_giveBack_23 rfl 0 rfl ?_
    refine g_dup X dX1_giveBack_24 rfl ?_
    refine g_geti X ck_X1 (fx9 F) 0 (by decide) fl_X1_18 (Or.inl rfl) dX1_giveBack_25 ?_
    refine g_iconst X dX1_giveBack_28 ?_
    refine g_isub X dX1_giveBack_29 ?_
    refine g_puti X ck_X1 (fx9 F) 0 (by decide) fl_X1_18 rfl rfl rfl dX1_giveBack_30 ?_
    obtain ⟨w_2, ew_2⟩ : ∃ q_ : Wd, q_ = up w_1 9 0 0 ((w_1 9 0 0) - 1) := ⟨_, rfl⟩
    refine g_w (w' := w_2) ew_2 ?_
    have q9 : w_2 9 1 0 = (w 9 1 0 + 3) % 4 := by rw [ew_2, ew_1, up_ne (by decide), up_at]
    have q90 : w_2 9 0 0 = w 9 0 0 - 1 := by rw [ew_2, ew_1, up_at, up_ne (by decide)]
    have qo : ∀ o2, o2 ≠ 9 → w_2 o2 = w o2 := by intro o2 h; funext f j; rw [ew_2, ew_1, up_ne (fun z => h z.1), up_ne (fun z => h z.1)]
    refine g_aload_n X dX1_giveBack_33 rfl 1 rfl ?_
    refine g_aload_n X dX1_giveBack_34 rfl 0 rfl ?_
    refine g_geta X ck_X1 (fx9 F) 2 (by decide) fl_X1_11 rfl dX1_giveBack_35 ?_
    refine g_aload_n X dX1_giveBack_38 rfl 0 rfl ?_
    refine g_geti X ck_X1 (fx9 F) 1 (by decide) fl_X1_22 (Or.inl rfl) dX1_giveBack_39 ?_
    refine g_aald (o' := 5 + ((w 9 1 0 + 3) % 4).toNat) X (fx9 F) (by decide) (show fkX 1 2 = (5, 4) from rfl) (by decide) (by omega) (by omega) (by rw [q9]; exact fxe F (by omega)) dX1_giveBack_42 ?_
    refine g_callv (st := []) X (c_X6_copyFrom l G 3 (5 + ((w 9 1 0 + 3) % 4).toNat) w_2 (fx3 F) (fxs F (by omega)) (by omega)) cm_X6_copyFrom im_X6_copyFrom se_X6_copyFrom ml_X1_25 ck_X6 (fx3 F) ⟨Nat.le_of_ble_eq_true rfl, Nat.le_of_ble_eq_true rfl⟩ rfl rfl (Nat.le_of_ble_eq_true rfl) dX1_giveBack_43 ?_
    rintro u_43 ⟨hfr, hcp⟩
    refine g_iconst X dX1_giveBack_46 ?_
    exact g_iret X rfl (by decide) dX1_giveBack_47 (by
        refine Or.inr ⟨rfl, c_4, fun f j h => ?_, ?_, ?_, fun o2 h1 h2 => ?_⟩
        · rw [hcp f j h, qo _ (by omega)]
        · rw [hfr 9 (by decide)]; exact q9
        · rw [hfr 9 (by decide)]; exact q90
        · rw [hfr o2 h1]; exact qo o2 h2)
  · skip
    refine g_iconst X dX1_giveBack_7 ?_
    exact g_iret X rfl (by decide) dX1_giveBack_8 (by exact Or.inl ⟨rfl, by omega, rfl⟩)
