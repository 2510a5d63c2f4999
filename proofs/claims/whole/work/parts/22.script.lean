set_option maxHeartbeats 4000000 in
set_option maxRecDepth 100000 in
theorem c_X3_empty (l : Launch) (G : Ly)  (w : Wd) (F : FX G) : Mv l yX3_empty cX3_empty 1 none 0 0 G [.ref (gAd G 1)] w (fun w2 => w2 = up w 1 0 0 0) := by
  refine mv_of (lv := [(0, .ref (gAd G 1))]) (by decide) (Nat.le_of_ble_eq_true rfl) rfl ?_
  intro p_ e_ s_ m_ b_ h_ c_ X
  refine g_aload_n X dX3_empty_0 rfl 0 rfl ?_
  refine g_iconst X dX3_empty_1 ?_
  refine g_puti X ck_X3 (fx1 F) 0 (by decide) fl_X3_22 rfl rfl rfl dX3_empty_2 ?_
  obtain ⟨w_1, ew_1⟩ : ∃ q_ : Wd, q_ = up w 1 0 0 0 := ⟨_, rfl⟩
  refine g_w (w' := w_1) ew_1 ?_
  exact g_vret X rfl dX3_empty_5 (by exact ew_1)
set_option maxHeartbeats 4000000 in
set_option maxRecDepth 100000 in
theorem c_X3_add (l : Launch) (G : Ly) (c : Int) (w : Wd) (F : FX G) (hL : 0 ≤ w 1 0 0 ∧ w 1 0 0 ≤ 200) (hc : 0 ≤ c ∧ c ≤ 126) : Mi l yX3_add cX3_add 2 (some .boolean) 0 0 G [.ref (gAd G 1), .int (iI c)] w (fun z w2 => (z = 0 ∧ w 1 0 0 = 200 ∧ w2 = w) ∨ (z = 1 ∧ w 1 0 0 < 200 ∧ w2 = up (up w 1 1 (w 1 0 0).toNat c) 1 0 0 (w 1 0 0 + 1))) := by
  refine mi_of (lv := [(0, .ref (gAd G 1)), (1, .int (iI c))]) (by decide) (Nat.le_of_ble_eq_true rfl) rfl ?_
  intro p_ e_ s_ m_ b_ h_ c_ X
  refine g_aload_n X dX3_add_0 rfl 0 rfl ?_
  refine g_geti X ck_X3 (fx1 F) 0 (by decide) fl_X3_22 (Or.inl rfl) dX3_add_1 ?_
  refine g_sipush X dX3_add_4 (by decide) ?_
  refine g_icmp_lt (tgt := 12) X dX3_add_7 (by decide) (by unfold InR; omega) ⟨by decide, by decide⟩ (fun c_7 => ?_) (fun c_7 => ?_)
  · skip
    refine g_aload_n X dX3_add_12 rfl 0 rfl ?_
    refine g_geta X ck_X3 (fx1 F) 1 (by decide) fl_X3_9 rfl dX3_add_13 ?_
    refine g_aload_n X dX3_add_16 rfl 0 rfl ?_
    refine g_geti X ck_X3 (fx1 F) 0 (by decide) fl_X3_22 (Or.inl rfl) dX3_add_17 ?_
    refine g_iload_n X dX3_add_20 rfl 1 rfl ?_
    refine g_cast (a := w 1 0 0) X (fx1 F) (by decide) (show fkX 3 1 = (3, 200) from rfl) (by decide) (by omega) (by omega) (by exact nar_char hc.1 hc.2) dX3_add_21 ?_
    obtain ⟨w_1, ew_1⟩ : ∃ q_ : Wd, q_ = up w 1 1 (w 1 0 0).toNat c := ⟨_, rfl⟩
    refine g_w (w' := w_1) ew_1 ?_
    refine g_aload_n X dX3_add_22 rfl 0 rfl ?_
    refine g_dup X dX3_add_23 rfl ?_
    refine g_geti X ck_X3 (fx1 F) 0 (by decide) fl_X3_22 (Or.inl rfl) dX3_add_24 ?_
    refine g_iconst X dX3_add_27 ?_
    refine g_iadd X dX3_add_28 ?_
    refine g_puti X ck_X3 (fx1 F) 0 (by decide) fl_X3_22 rfl rfl rfl dX3_add_29 ?_
    obtain ⟨w_2, ew_2⟩ : ∃ q_ : Wd, q_ = up w_1 1 0 0 ((w_1 1 0 0) + 1) := ⟨_, rfl⟩
    refine g_w (w' := w_2) ew_2 ?_
    refine g_iconst X dX3_add_32 ?_
    exact g_iret X rfl (by decide) dX3_add_33 (by refine Or.inr ⟨rfl, by omega, ?_⟩; rw [ew_2, ew_1]; simp [up])
  · skip
    refine g_iconst X dX3_add_10 ?_
    exact g_iret X rfl (by decide) dX3_add_11 (by exact Or.inl ⟨rfl, by omega, rfl⟩)
set_option maxHeartbeats 4000000 in
set_option maxRecDepth 100000 in
theorem c_X3_letterAt (l : Launch) (G : Ly) (p : Int) (w : Wd) (F : FX G) (hL : 0 ≤ w 1 0 0 ∧ w 1 0 0 ≤ 200) (hT : ∀ j : Nat, j < 200 → 0 ≤ w 1 1 j ∧ w 1 1 j ≤ 126) (hp : -1000000 ≤ p ∧ p ≤ 1000000) : Mi l yX3_letterAt cX3_letterAt 2 (some .char) 0 0 G [.ref (gAd G 1), .int (iI p)] w (fun z w2 => z = (ltX (w 1 1) (w 1 0 0) p) ∧ w2 = w) := by
  refine mi_of (lv := [(0, .ref (gAd G 1)), (1, .int (iI p))]) (by decide) (Nat.le_of_ble_eq_true rfl) rfl ?_
  intro p_ e_ s_ m_ b_ h_ c_ X
  have hr := ltX_in hT hL.2 p
  refine g_iload_n X dX3_letterAt_0 rfl 1 rfl ?_
  refine g_if_lt (tgt := 28) X dX3_letterAt_1 (by decide) (by unfold InR; omega) (fun c_1 => ?_) (fun c_1 => ?_)
  · skip
    refine g_bipush X dX3_letterAt_28 (by decide) ?_
    exact g_iret X rfl (by first | exact nar_char (hT _ (by omega)).1 (hT _ (by omega)).2 | decide) dX3_letterAt_30 (by first | exact ⟨by unfold ltX; rw [if_neg (by omega)], rfl⟩ | exact ⟨by unfold ltX; rw [if_pos ⟨by omega, by omega⟩], rfl⟩)
  · skip
    refine g_iload_n X dX3_letterAt_4 rfl 1 rfl ?_
    refine g_aload_n X dX3_letterAt_5 rfl 0 rfl ?_
    refine g_geti X ck_X3 (fx1 F) 0 (by decide) fl_X3_22 (Or.inl rfl) dX3_letterAt_6 ?_
    refine g_icmp_ge (tgt := 28) X dX3_letterAt_9 (by decide) (by unfold InR; omega) (by unfold InR; omega) (fun c_9 => ?_) (fun c_9 => ?_)
    · skip
      refine g_bipush X dX3_letterAt_28 (by decide) ?_
      exact g_iret X rfl (by first | exact nar_char (hT _ (by omega)).1 (hT _ (by omega)).2 | decide) dX3_letterAt_30 (by first | exact ⟨by unfold ltX; rw [if_neg (by omega)], rfl⟩ | exact ⟨by unfold ltX; rw [if_pos ⟨by omega, by omega⟩], rfl⟩)
    · skip
      refine g_iload_n X dX3_letterAt_12 rfl 1 rfl ?_
      refine g_sipush X dX3_letterAt_13 (by decide) ?_
      refine g_icmp_ge (tgt := 28) X dX3_letterAt_16 (by decide) (by unfold InR; omega) ⟨by decide, by decide⟩ (fun c_16 => ?_) (fun c_16 => ?_)
      · skip
        refine g_bipush X dX3_letterAt_28 (by decide) ?_
        exact g_iret X rfl (by first | exact nar_char (hT _ (by omega)).1 (hT _ (by omega)).2 | decide) dX3_letterAt_30 (by first | exact ⟨by unfold ltX; rw [if_neg (by omega)], rfl⟩ | exact ⟨by unfold ltX; rw [if_pos ⟨by omega, by omega⟩], rfl⟩)
      · skip
        refine g_aload_n X dX3_letterAt_19 rfl 0 rfl ?_
        refine g_geta X ck_X3 (fx1 F) 1 (by decide) fl_X3_9 rfl dX3_letterAt_20 ?_
        refine g_iload_n X dX3_letterAt_23 rfl 1 rfl ?_
        refine h_cald (a := p) (j := (p).toNat) X rfl (fx1 F) (by decide) (show fkX 3 1 = (3, 200) from rfl) (by decide) (by omega) (by omega) dX3_letterAt_24 ?_
        refine g_goto (tgt := 30) X dX3_letterAt_25 (by decide) ?_
        exact g_iret X rfl (by first | exact nar_char (hT _ (by omega)).1 (hT _ (by omega)).2 | decide) dX3_letterAt_30 (by first | exact ⟨by unfold ltX; rw [if_neg (by omega)], rfl⟩ | exact ⟨by unfold ltX; rw [if_pos ⟨by omega, by omega⟩], rfl⟩)
set_option maxHeartbeats 4000000 in
set_option maxRecDepth 100000 in
theorem c_X3_isFigure (l : Launch) (G : Ly) (p : Int) (w : Wd) (F : FX G) (hL : 0 ≤ w 1 0 0 ∧ w 1 0 0 ≤ 200) (hT : ∀ j : Nat, j < 200 → 0 ≤ w 1 1 j ∧ w 1 1 j ≤ 126) (hp : -1000000 ≤ p ∧ p ≤ 1000000) : Mi l yX3_isFigure cX3_isFigure 3 (some .boolean) 1 21 G [.ref (gAd G 1), .int (iI p)] w (fun z w2 => z = (if figX (w 1 1) (w 1 0 0) p then 1 else 0) ∧ w2 = w) := by
  refine mi_of (lv := [(0, .ref (gAd G 1)), (1, .int (iI p))]) (by decide) (Nat.le_of_ble_eq_true rfl) rfl ?_
  intro p_ e_ s_ m_ b_ h_ c_ X
  have hr := ltX_in hT hL.2 p
  refine g_aload_n X dX3_isFigure_0 rfl 0 rfl ?_
  refine g_iload_n X dX3_isFigure_1 rfl 1 rfl ?_
  refine g_calli (st := []) X (c_X3_letterAt l G p w F (by first | assumption | omega | (unfold InR; omega)) (by first | assumption | omega | (unfold InR; omega)) (by first | assumption | omega | (unfold InR; omega))) cm_X3_letterAt im_X3_letterAt se_X3_letterAt ml_X3_39 ck_X3 (fx1 F) ⟨Nat.le_of_ble_eq_true rfl, Nat.le_of_ble_eq_true rfl⟩ rfl rfl (Nat.le_of_ble_eq_true rfl) dX3_isFigure_2 (fn_i ?_)
  refine g_istore_n (lv' := [(2, .int (iI (ltX (w 1 1) (w 1 0 0) p))), (0, .ref (gAd G 1)), (1, .int (iI p))]) X dX3_isFigure_5 rfl (by decide) rfl ?_
  refine g_iload_n X dX3_isFigure_6 rfl 0 rfl ?_
  refine g_bipush X dX3_isFigure_7 (by decide) ?_
  refine g_icmp_lt (tgt := 22) X dX3_isFigure_9 (by decide) (by unfold InR; omega) ⟨by decide, by decide⟩ (fun c_9 => ?_) (fun c_9 => ?_)
  · skip
    refine g_iconst X dX3_isFigure_22 ?_
    exact g_iret X rfl (by decide) dX3_isFigure_23 (by first | exact ⟨by rw [if_pos ⟨by omega, by omega⟩], rfl⟩ | exact ⟨by rw [if_neg (by unfold figX; omega)], rfl⟩)
  · skip
    refine g_iload_n X dX3_isFigure_12 rfl 0 rfl ?_
    refine g_bipush X dX3_isFigure_13 (by decide) ?_
    refine g_icmp_gt (tgt := 22) X dX3_isFigure_15 (by decide) (by unfold InR; omega) ⟨by decide, by decide⟩ (fun c_15 => ?_) (fun c_15 => ?_)
    · skip
      refine g_iconst X dX3_isFigure_22 ?_
      exact g_iret X rfl (by decide) dX3_isFigure_23 (by first | exact ⟨by rw [if_pos ⟨by omega, by omega⟩], rfl⟩ | exact ⟨by rw [if_neg (by unfold figX; omega)], rfl⟩)
    · skip
      refine g_iconst X dX3_isFigure_18 ?_
      refine g_goto (tgt := 23) X dX3_isFigure_19 (by decide) ?_
      exact g_iret X rfl (by decide) dX3_isFigure_23 (by first | exact ⟨by rw [if_pos ⟨by omega, by omega⟩], rfl⟩ | exact ⟨by rw [if_neg (by unfold figX; omega)], rfl⟩)
set_option maxHeartbeats 4000000 in
set_option maxRecDepth 100000 in
theorem c_X3_machines (l : Launch) (G : Ly)  (w : Wd) (F : FX G) (hL : 0 ≤ w 1 0 0 ∧ w 1 0 0 ≤ 200) (hT : ∀ j : Nat, j < 200 → 0 ≤ w 1 1 j ∧ w 1 1 j ≤ 126) : Mi l yX3_machines cX3_machines 3 (some .int) 0 0 G [.ref (gAd G 1)] w (fun z w2 => z = (cntC (w 1 1) (w 1 0 0).toNat) ∧ w2 = w) := by
  refine mi_of (lv := [(0, .ref (gAd G 1))]) (by decide) (Nat.le_of_ble_eq_true rfl) rfl ?_
  intro p_ e_ s_ m_ b_ h_ c_ X
  refine g_iconst X dX3_machines_0 ?_
  refine g_istore_n (lv' := [(1, .int (iI 0)), (0, .ref (gAd G 1))]) X dX3_machines_1 rfl (by decide) rfl ?_
  refine g_iconst X dX3_machines_2 ?_
  refine g_istore_n (lv' := [(2, .int (iI 0)), (1, .int (iI 0)), (0, .ref (gAd G 1))]) X dX3_machines_3 rfl (by decide) rfl ?_
  refine g_lv (lv' := [(0, .ref (gAd G 1)), (1, .int (iI 0)), (2, .int (iI 0))]) [2, 1, 0] rfl ?_
  refine g_loop2 (fun (n : Int) (k : Int) => [(0, .ref (gAd G 1)), (1, .int (iI n)), (2, .int (iI k))]) (fun (n : Int) (k : Int) => w) (fun (n : Int) (k : Int) => (0 ≤ k) ∧ (k ≤ w 1 0 0) ∧ (n = cntC (w 1 1) k.toNat)) (fun (n : Int) (k : Int) => (w 1 0 0 - k).toNat) 0 0 ⟨(by first | omega | rfl | assumption), (by first | omega | rfl | assumption), (by rfl)⟩ ?_
  intro n k hI_4 ih_4
  obtain ⟨h0, h1, hn⟩ := hI_4
  try dsimp only at ih_4 ⊢
  refine g_iload_n X dX3_machines_4 rfl 2 rfl ?_
  refine g_aload_n X dX3_machines_5 rfl 0 rfl ?_
  refine g_geti X ck_X3 (fx1 F) 0 (by decide) fl_X3_22 (Or.inl rfl) dX3_machines_6 ?_
  refine g_icmp_ge (tgt := 32) X dX3_machines_9 (by decide) (by unfold InR; omega) (by unfold InR; omega) (fun c_9 => ?_) (fun c_9 => ?_)
  · skip
    refine g_iload_n X dX3_machines_32 rfl 1 rfl ?_
    exact g_iret X rfl rfl dX3_machines_33 (by exact ⟨by rw [hn, show k = w 1 0 0 by omega], rfl⟩)
  · skip
    have hk := hT k.toNat (by omega)
    refine g_aload_n X dX3_machines_12 rfl 0 rfl ?_
    refine g_geta X ck_X3 (fx1 F) 1 (by decide) fl_X3_9 rfl dX3_machines_13 ?_
    refine g_iload_n X dX3_machines_16 rfl 2 rfl ?_
    refine h_cald (a := k) (j := (k).toNat) X rfl (fx1 F) (by decide) (show fkX 3 1 = (3, 200) from rfl) (by decide) (by omega) (by omega) dX3_machines_17 ?_
    refine g_bipush X dX3_machines_18 (by decide) ?_
    refine g_icmp_ne (tgt := 26) X dX3_machines_20 (by decide) (by unfold InR; omega) ⟨by decide, by decide⟩ (fun c_20 => ?_) (fun c_20 => ?_)
    · skip
      refine g_iinc (j := 2) (lv' := [(2, .int (iI (k + 1))), (0, .ref (gAd G 1)), (1, .int (iI n))]) X dX3_machines_26 rfl (by decide) rfl ?_
      refine g_goto (tgt := 4) X dX3_machines_29 (by decide) ?_
      refine g_lv (lv' := [(0, .ref (gAd G 1)), (1, .int (iI n)), (2, .int (iI (k + 1)))]) [1, 2, 0] rfl ?_
      exact ih_4 n (k + 1) ⟨(by first | omega | rfl | assumption), (by first | omega | rfl | assumption), (by rw [show (k + 1).toNat = k.toNat + 1 by omega]; unfold cntC; first | rw [if_neg c_20]; omega | rw [if_pos (Classical.not_not.mp c_20)]; omega)⟩ (by omega)
    · skip
      refine g_iinc (j := 1) (lv' := [(1, .int (iI (n + 1))), (0, .ref (gAd G 1)), (2, .int (iI k))]) X dX3_machines_23 rfl (by decide) rfl ?_
      refine g_iinc (j := 2) (lv' := [(2, .int (iI (k + 1))), (1, .int (iI (n + 1))), (0, .ref (gAd G 1))]) X dX3_machines_26 rfl (by decide) rfl ?_
      refine g_goto (tgt := 4) X dX3_machines_29 (by decide) ?_
      refine g_lv (lv' := [(0, .ref (gAd G 1)), (1, .int (iI (n + 1))), (2, .int (iI (k + 1)))]) [2, 1, 0] rfl ?_
      exact ih_4 (n + 1) (k + 1) ⟨(by first | omega | rfl | assumption), (by first | omega | rfl | assumption), (by rw [show (k + 1).toNat = k.toNat + 1 by omega]; unfold cntC; first | rw [if_neg c_20]; omega | rw [if_pos (Classical.not_not.mp c_20)]; omega)⟩ (by omega)
set_option maxHeartbeats 4000000 in
set_option maxRecDepth 100000 in
theorem c_X3_readNumbers_v3 (l : Launch) (G : Ly) (start : Int) (w : Wd) (F : FX G) (hL : 0 ≤ w 1 0 0 ∧ w 1 0 0 ≤ 200) (hT : ∀ j : Nat, j < 200 → 0 ≤ w 1 1 j ∧ w 1 1 j ≤ 126) (hN : ∀ j : Nat, j < 6 → 0 ≤ w 1 2 j ∧ w 1 2 j ≤ 99) (hs : 0 ≤ start ∧ start ≤ 1000) : Mi l yX3_readNumbers cX3_readNumbers 9 (some .int) 2 43 G [.ref (gAd G 1), .int (iI start), .ref (gSa G 3), .ref (gSa G 4)] w (fun z w2 => z = rqX (w 1 1) (w 1 0 0) 6 (loX 3) (loX 4) start 6 ∧ (∀ o2 f j, ¬ (o2 = 1 ∧ f = 2) → w2 o2 f j = w o2 f j) ∧ (∀ j : Nat, j < 6 → 0 ≤ w2 1 2 j ∧ w2 1 2 j ≤ 99) ∧ (z ≠ -4 → ∀ k, k < 6 → w2 1 2 k = nvX (w 1 1) (w 1 0 0) (rqX (w 1 1) (w 1 0 0) 6 (loX 3) (loX 4) start k))) := by
  refine mi_of (lv := [(0, .ref (gAd G 1)), (1, .int (iI start)), (2, .ref (gSa G 3)), (3, .ref (gSa G 4))]) (by decide) (Nat.le_of_ble_eq_true rfl) rfl ?_
  intro p_ e_ s_ m_ b_ h_ c_ X
  refine g_iload_n X dX3_readNumbers_0 rfl 1 rfl ?_
  refine g_istore (lv' := [(4, .int (iI start)), (0, .ref (gAd G 1)), (1, .int (iI start)), (2, .ref (gSa G 3)), (3, .ref (gSa G 4))]) X dX3_readNumbers_1 (by decide) rfl ?_
  refine g_aload_n X dX3_readNumbers_3 rfl 1 rfl ?_
  refine g_geta X ck_X3 (fx1 F) 2 (by decide) fl_X3_19 rfl dX3_readNumbers_4 ?_
  refine h_alen X 6 rfl (fx1 F) (by decide) (show fkX 3 2 = (1, 6) from rfl) dX3_readNumbers_7 ?_
  refine g_aload_n X dX3_readNumbers_8 rfl 3 rfl ?_
  refine h_slen X 3 (by decide) 6 rfl dX3_readNumbers_9 ?_
  refine g_aload_n X dX3_readNumbers_10 rfl 4 rfl ?_
  refine h_slen X 4 (by decide) 6 rfl dX3_readNumbers_11 ?_
  refine g_min X ml_X3_62 ⟨by decide, by decide⟩ ⟨by decide, by decide⟩ ⟨Nat.le_of_ble_eq_true rfl, Nat.le_of_ble_eq_true rfl⟩ (Nat.le_of_ble_eq_true rfl) dX3_readNumbers_12 ?_
  refine g_min X ml_X3_62 ⟨by decide, by decide⟩ (by unfold InR; omega) ⟨Nat.le_of_ble_eq_true rfl, Nat.le_of_ble_eq_true rfl⟩ (Nat.le_of_ble_eq_true rfl) dX3_readNumbers_15 ?_
  rw [show (min 6 (min 6 6) : Int) = 6 from (by decide)]
  refine g_istore (lv' := [(5, .int (iI 6)), (4, .int (iI start)), (0, .ref (gAd G 1)), (1, .int (iI start)), (2, .ref (gSa G 3)), (3, .ref (gSa G 4))]) X dX3_readNumbers_18 (by decide) rfl ?_
  refine g_iconst X dX3_readNumbers_20 ?_
  refine g_istore (lv' := [(6, .int (iI 0)), (5, .int (iI 6)), (4, .int (iI start)), (0, .ref (gAd G 1)), (1, .int (iI start)), (2, .ref (gSa G 3)), (3, .ref (gSa G 4))]) X dX3_readNumbers_21 (by decide) rfl ?_
  refine g_lv (lv' := [(0, .ref (gAd G 1)), (1, .int (iI start)), (2, .ref (gSa G 3)), (3, .ref (gSa G 4)), (4, .int (iI start)), (5, .int (iI 6)), (6, .int (iI 0))]) [3, 4, 5, 6, 2, 1, 0] rfl ?_
  refine g_loop3 (fun (at_ : Int) (k : Int) (w1 : Wd) => [(0, .ref (gAd G 1)), (1, .int (iI start)), (2, .ref (gSa G 3)), (3, .ref (gSa G 4)), (4, .int (iI at_)), (5, .int (iI 6)), (6, .int (iI k))]) (fun (at_ : Int) (k : Int) (w1 : Wd) => w1) (fun (at_ : Int) (k : Int) (w1 : Wd) => (0 ≤ k) ∧ (k ≤ 6) ∧ (at_ = rqX (w 1 1) (w 1 0 0) 6 (loX 3) (loX 4) start k.toNat) ∧ (0 ≤ at_ ∧ at_ ≤ 1000 + 4 * k) ∧ (∀ o2 f j, ¬ (o2 = 1 ∧ f = 2) → w1 o2 f j = w o2 f j) ∧ (∀ j : Nat, j < 6 → 0 ≤ w1 1 2 j ∧ w1 1 2 j ≤ 99) ∧ (∀ j : Nat, (j : Int) < k → w1 1 2 j = nvX (w 1 1) (w 1 0 0) (rqX (w 1 1) (w 1 0 0) 6 (loX 3) (loX 4) start j))) (fun (at_ : Int) (k : Int) (w1 : Wd) => (6 - k).toNat) start 0 w ⟨(by first | omega | rfl | assumption), (by first | omega | rfl | assumption), (by rfl), (by first | omega | rfl | assumption), (by intro _ _ _ _; rfl), (by exact hN), (by intro j hj; omega)⟩ ?_
  intro at_ k w1 hI_23 ih_23
  obtain ⟨h0, h1, ha, hb, hfr, hn1, hv⟩ := hI_23
  try dsimp only at ih_23 ⊢
  have e11 : w1 1 1 = w 1 1 := by funext j; exact hfr 1 1 j (by decide)
  have e10 : w1 1 0 0 = w 1 0 0 := hfr 1 0 0 (by decide)
  have sp := sepX_in 6 k.toNat
  refine g_iload X dX3_readNumbers_23 6 rfl ?_
  refine g_iload X dX3_readNumbers_25 5 rfl ?_
  refine g_icmp_ge (tgt := 153) X dX3_readNumbers_27 (by decide) (by unfold InR; omega) ⟨by decide, by decide⟩ (fun c_27 => ?_) (fun c_27 => ?_)
  · skip
    refine g_iload X dX3_readNumbers_153 4 rfl ?_
    exact g_iret X rfl rfl dX3_readNumbers_155 (by
        have hk : k.toNat = 6 := by omega
        rw [hk] at ha
        exact ⟨ha, hfr, hn1, fun _ j hj => hv j (by omega)⟩)
  · skip
    refine g_aload_n X dX3_readNumbers_30 rfl 0 rfl ?_
    refine g_iload X dX3_readNumbers_31 4 rfl ?_
    refine g_calli (st := []) X (c_X3_isFigure l G at_ w1 F (by rw [e10]; exact hL) (by rw [e11]; exact hT) (by first | assumption | omega | (unfold InR; omega))) cm_X3_isFigure im_X3_isFigure se_X3_isFigure ml_X3_68 ck_X3 (fx1 F) ⟨Nat.le_of_ble_eq_true rfl, Nat.le_of_ble_eq_true rfl⟩ rfl rfl (Nat.le_of_ble_eq_true rfl) dX3_readNumbers_33 (fn_i ?_)
    refine g_if_ne (tgt := 42) X dX3_readNumbers_36 (by decide) (by exact in01) (fun c_36 => ?_) (fun c_36 => ?_)
    · skip
      have hfig : figX (w 1 1) (w 1 0 0) at_ := by rw [e11, e10] at c_36; exact of_one c_36
      have hni := nvX_in hfig
      refine g_aload_n X dX3_readNumbers_42 rfl 0 rfl ?_
      refine g_cut2 (pc' := 85) (fun (num : Int) (e : Int) => [(0, .ref (gAd G 1)), (1, .int (iI start)), (2, .ref (gSa G 3)), (3, .ref (gSa G 4)), (4, .int (iI e)), (5, .int (iI 6)), (6, .int (iI k)), (7, .int (iI num))]) (fun (num : Int) (e : Int) => []) (fun (num : Int) (e : Int) => w1) (fun (num : Int) (e : Int) => (num = nvX (w 1 1) (w 1 0 0) at_) ∧ (e = neX (w 1 1) (w 1 0 0) at_)) ?_ ?_
      · intro num e hI_85
        obtain ⟨hnum, he⟩ := hI_85
        try dsimp only
        have hne : at_ + 1 ≤ e ∧ e ≤ at_ + 2 := by rw [he]; unfold neX; split <;> omega
        refine g_iload X dX3_readNumbers_85 6 rfl ?_
        refine g_cut1 (pc' := 101) (fun (sep : Int) => [(0, .ref (gAd G 1)), (1, .int (iI start)), (2, .ref (gSa G 3)), (3, .ref (gSa G 4)), (4, .int (iI e)), (5, .int (iI 6)), (6, .int (iI k)), (7, .int (iI num))]) (fun (sep : Int) => [.int (iI sep)]) (fun (sep : Int) => w1) (fun (sep : Int) => (sep = sepX 6 k.toNat)) ?_ ?_
        · intro sep hI_101
          have hsep := hI_101
          try dsimp only at hsep ⊢
          refine g_istore (lv' := [(8, .int (iI sep)), (0, .ref (gAd G 1)), (1, .int (iI start)), (2, .ref (gSa G 3)), (3, .ref (gSa G 4)), (4, .int (iI e)), (5, .int (iI 6)), (6, .int (iI k)), (7, .int (iI num))]) X dX3_readNumbers_101 (by decide) rfl ?_
          have hkk : k.toNat < 6 := by omega
          have hlo : ∀ q, q < 6 → 0 ≤ (slX 3).getD q 0 ∧ (slX 3).getD q 0 ≤ 99 := by decide +kernel
          have hhi : ∀ q, q < 6 → 0 ≤ (slX 4).getD q 0 ∧ (slX 4).getD q 0 ≤ 99 := by decide +kernel
          have hlk := hlo k.toNat hkk
          have hhk := hhi k.toNat hkk
          have hle := ltX_in hT hL.2 e
          refine g_aload_n X dX3_readNumbers_103 rfl 1 rfl ?_
          refine g_cut1 (pc' := 132) (fun (d_ : Int) => [(0, .ref (gAd G 1))]) (fun (d_ : Int) => []) (fun (d_ : Int) => w1) (fun (d_ : Int) => (¬ (ltX (w 1 1) (w 1 0 0) e = sep ∧ loX 3 k.toNat ≤ num ∧ num ≤ loX 4 k.toNat))) ?_ ?_
          · intro d_ hI_132
            have hbad := hI_132
            try dsimp only at hbad ⊢
            refine g_bipush X dX3_readNumbers_132 (by decide) ?_
            exact g_iret X rfl rfl dX3_readNumbers_134 (by
                have hz : rqX (w 1 1) (w 1 0 0) 6 (loX 3) (loX 4) start (k.toNat + 1) = -4 := by
                  rw [rqX_s, ← ha]
                  split
                  · rfl
                  · rw [← he, ← hnum, ← hsep, if_neg (fun h => hbad h.2)]
                have hz2 := rqX_dead (k.toNat + 1) hz (6 - (k.toNat + 1))
                rw [show k.toNat + 1 + (6 - (k.toNat + 1)) = 6 by omega] at hz2
                exact ⟨hz2.symm, hfr, hn1, fun h => absurd rfl h⟩)
          · intro J_132
            try dsimp only at J_132
            refine g_iload X dX3_readNumbers_104 5 rfl ?_
            refine g_calli (st := []) X (c_X3_letterAt l G e w1 F (by rw [e10]; exact hL) (by rw [e11]; exact hT) (by first | assumption | omega | (unfold InR; omega))) cm_X3_letterAt im_X3_letterAt se_X3_letterAt ml_X3_39 ck_X3 (fx1 F) ⟨Nat.le_of_ble_eq_true rfl, Nat.le_of_ble_eq_true rfl⟩ rfl rfl (Nat.le_of_ble_eq_true rfl) dX3_readNumbers_106 (fn_i ?_)
            refine g_iload X dX3_readNumbers_109 0 rfl ?_
            refine g_icmp_ne (tgt := 132) X dX3_readNumbers_111 (by decide) (by rw [e11, e10]; unfold InR; omega) (by unfold InR; omega) (fun c_111 => ?_) (fun c_111 => ?_)
            · skip
              refine g_lv (lv' := [(0, .ref (gAd G 1))]) [1] rfl ?_
              exact J_132 0 (by
                  first
                  | (rw [e11, e10] at c_111; exact fun h => c_111 h.1)
                  | (intro h; unfold loX at h; omega))
            · skip
              refine g_iload X dX3_readNumbers_114 8 rfl ?_
              refine g_aload_n X dX3_readNumbers_116 rfl 3 rfl ?_
              refine g_iload X dX3_readNumbers_117 7 rfl ?_
              refine g_sald (v := (slX 3).getD (k).toNat 0) X 3 (by decide) (by omega) (by show _ < (6 : Int); omega) (by rfl) (by decide) dX3_readNumbers_119 ?_
              refine g_icmp_lt (tgt := 132) X dX3_readNumbers_120 (by decide) (by unfold InR; omega) (by unfold InR; omega) (fun c_120 => ?_) (fun c_120 => ?_)
              · skip
                refine g_lv (lv' := [(0, .ref (gAd G 1))]) [1] rfl ?_
                exact J_132 0 (by
                    first
                    | (rw [e11, e10] at c_111; exact fun h => c_111 h.1)
                    | (intro h; unfold loX at h; omega))
              · skip
                refine g_iload X dX3_readNumbers_123 8 rfl ?_
                refine g_aload_n X dX3_readNumbers_125 rfl 4 rfl ?_
                refine g_iload X dX3_readNumbers_126 7 rfl ?_
                refine g_sald (v := (slX 4).getD (k).toNat 0) X 4 (by decide) (by omega) (by show _ < (6 : Int); omega) (by rfl) (by decide) dX3_readNumbers_128 ?_
                refine g_icmp_le (tgt := 135) X dX3_readNumbers_129 (by decide) (by unfold InR; omega) (by unfold InR; omega) (fun c_129 => ?_) (fun c_129 => ?_)
                · skip
                  refine g_aload_n X dX3_readNumbers_135 rfl 1 rfl ?_
                  refine g_geta X ck_X3 (fx1 F) 2 (by decide) fl_X3_19 rfl dX3_readNumbers_136 ?_
                  refine g_iload X dX3_readNumbers_139 7 rfl ?_
                  refine g_iload X dX3_readNumbers_141 8 rfl ?_
                  refine h_iast (a := k) (j := (k).toNat) X rfl (fx1 F) (by decide) (show fkX 3 2 = (1, 6) from rfl) (by decide) (by omega) (by omega) dX3_readNumbers_143 ?_
                  obtain ⟨w_1, ew_1⟩ : ∃ q_ : Wd, q_ = up w1 1 2 (k).toNat num := ⟨_, rfl⟩
                  refine g_w (w' := w_1) ew_1 ?_
                  refine g_iinc (j := 5) (lv' := [(4, .int (iI (e + 1))), (8, .int (iI sep)), (0, .ref (gAd G 1)), (1, .int (iI start)), (2, .ref (gSa G 3)), (3, .ref (gSa G 4)), (5, .int (iI 6)), (6, .int (iI k)), (7, .int (iI num))]) X dX3_readNumbers_144 rfl (by decide) rfl ?_
                  refine g_iinc (j := 7) (lv' := [(6, .int (iI (k + 1))), (4, .int (iI (e + 1))), (8, .int (iI sep)), (0, .ref (gAd G 1)), (1, .int (iI start)), (2, .ref (gSa G 3)), (3, .ref (gSa G 4)), (5, .int (iI 6)), (7, .int (iI num))]) X dX3_readNumbers_147 rfl (by decide) rfl ?_
                  refine g_goto (tgt := 23) X dX3_readNumbers_150 (by decide) ?_
                  refine g_lv (lv' := [(0, .ref (gAd G 1)), (1, .int (iI start)), (2, .ref (gSa G 3)), (3, .ref (gSa G 4)), (4, .int (iI (e + 1))), (5, .int (iI 6)), (6, .int (iI (k + 1)))]) [3, 4, 5, 6, 1, 7, 0] rfl ?_
                  exact ih_23 (e + 1) (k + 1) w_1 ⟨(by first | omega | rfl | assumption), (by first | omega | rfl | assumption), (by
                      rw [show (k + 1).toNat = k.toNat + 1 by omega, rqX_s, ← ha, if_neg (by omega), ← he, ← hnum, ← hsep]
                      rw [e11, e10] at c_111
                      rw [if_pos ⟨hfig, by omega, by unfold loX; omega, by unfold loX; omega⟩]), (by first | omega | rfl | assumption), (by intro o2 f j h; rw [ew_1, up_ne (fun z => h ⟨z.1, z.2.1⟩)]; exact hfr o2 f j h), (by intro j hj; rw [ew_1]; unfold up; split; (rw [hnum]; exact hni); exact hn1 j hj), (by
                      intro j hj
                      rw [ew_1]
                      rcases Int.lt_or_le (j : Int) k with q | q
                      · rw [up_ne (by omega)]; exact hv j q
                      · have e : j = k.toNat := by omega
                        rw [e, up_at, hnum, ha])⟩ (by omega)
                · skip
                  refine g_lv (lv' := [(0, .ref (gAd G 1))]) [1] rfl ?_
                  exact J_132 0 (by
                      first
                      | (rw [e11, e10] at c_111; exact fun h => c_111 h.1)
                      | (intro h; unfold loX at h; omega))
        · intro J_101
          try dsimp only at J_101
          refine g_iload X dX3_readNumbers_87 5 rfl ?_
          refine g_iconst X dX3_readNumbers_89 ?_
          refine g_isub X dX3_readNumbers_90 ?_
          refine g_icmp_ge (tgt := 99) X dX3_readNumbers_91 (by decide) (by unfold InR; omega) (by unfold InR; omega) (fun c_91 => ?_) (fun c_91 => ?_)
          · skip
            refine g_bipush X dX3_readNumbers_99 (by decide) ?_
            refine g_lv (lv' := [(0, .ref (gAd G 1)), (1, .int (iI start)), (2, .ref (gSa G 3)), (3, .ref (gSa G 4)), (4, .int (iI e)), (5, .int (iI 6)), (6, .int (iI k)), (7, .int (iI num))]) [0, 1, 2, 3, 4, 5, 6, 7] rfl ?_
            exact J_101 59 (by unfold sepX; first | rw [if_pos (by omega)] | rw [if_neg (by omega)])
          · skip
            refine g_bipush X dX3_readNumbers_94 (by decide) ?_
            refine g_goto (tgt := 101) X dX3_readNumbers_96 (by decide) ?_
            refine g_lv (lv' := [(0, .ref (gAd G 1)), (1, .int (iI start)), (2, .ref (gSa G 3)), (3, .ref (gSa G 4)), (4, .int (iI e)), (5, .int (iI 6)), (6, .int (iI k)), (7, .int (iI num))]) [0, 1, 2, 3, 4, 5, 6, 7] rfl ?_
            exact J_101 44 (by unfold sepX; first | rw [if_pos (by omega)] | rw [if_neg (by omega)])
      · intro J_85
        try dsimp only at J_85
        refine g_iload X dX3_readNumbers_43 4 rfl ?_
        refine g_calli (st := []) X (c_X3_letterAt l G at_ w1 F (by rw [e10]; exact hL) (by rw [e11]; exact hT) (by first | assumption | omega | (unfold InR; omega))) cm_X3_letterAt im_X3_letterAt se_X3_letterAt ml_X3_39 ck_X3 (fx1 F) ⟨Nat.le_of_ble_eq_true rfl, Nat.le_of_ble_eq_true rfl⟩ rfl rfl (Nat.le_of_ble_eq_true rfl) dX3_readNumbers_45 (fn_i ?_)
        refine g_bipush X dX3_readNumbers_48 (by decide) ?_
        refine g_isub X dX3_readNumbers_50 ?_
        refine g_istore (lv' := [(7, .int (iI ((ltX (w1 1 1) (w1 1 0 0) at_) - 48))), (0, .ref (gAd G 1)), (1, .int (iI start)), (2, .ref (gSa G 3)), (3, .ref (gSa G 4)), (4, .int (iI at_)), (5, .int (iI 6)), (6, .int (iI k))]) X dX3_readNumbers_51 (by decide) rfl ?_
        skip
        refine g_iinc (j := 5) (lv' := [(4, .int (iI (at_ + 1))), (7, .int (iI ((ltX (w1 1 1) (w1 1 0 0) at_) - 48))), (0, .ref (gAd G 1)), (1, .int (iI start)), (2, .ref (gSa G 3)), (3, .ref (gSa G 4)), (5, .int (iI 6)), (6, .int (iI k))]) X dX3_readNumbers_53 rfl (by decide) rfl ?_
        refine g_aload_n X dX3_readNumbers_56 rfl 2 rfl ?_
        refine g_iload X dX3_readNumbers_57 0 rfl ?_
        refine g_calli (st := []) X (c_X3_isFigure l G (at_ + 1) w1 F (by rw [e10]; exact hL) (by rw [e11]; exact hT) (by first | assumption | omega | (unfold InR; omega))) cm_X3_isFigure im_X3_isFigure se_X3_isFigure ml_X3_68 ck_X3 (fx1 F) ⟨Nat.le_of_ble_eq_true rfl, Nat.le_of_ble_eq_true rfl⟩ rfl rfl (Nat.le_of_ble_eq_true rfl) dX3_readNumbers_59 (fn_i ?_)
        refine g_if_eq (tgt := 85) X dX3_readNumbers_62 (by decide) (by exact in01) (fun c_62 => ?_) (fun c_62 => ?_)
        · skip
          refine g_lv (lv' := [(0, .ref (gAd G 1)), (1, .int (iI start)), (2, .ref (gSa G 3)), (3, .ref (gSa G 4)), (4, .int (iI (at_ + 1))), (5, .int (iI 6)), (6, .int (iI k)), (7, .int (iI ((ltX (w1 1 1) (w1 1 0 0) at_) - 48)))]) [2, 3, 4, 5, 0, 6, 7, 1] rfl ?_
          exact J_85 ((ltX (w1 1 1) (w1 1 0 0) at_) - 48) (at_ + 1) ⟨(by
              unfold nvX
              rw [e11, e10] at c_62
              first
              | rw [if_neg (of_zero c_62), e11, e10]
              | rw [if_pos (of_one c_62), e11, e10]), (by
              unfold neX
              rw [e11, e10] at c_62
              first
              | rw [if_neg (of_zero c_62)]
              | (rw [if_pos (of_one c_62)]; omega))⟩
        · skip
          refine g_iload X dX3_readNumbers_65 1 rfl ?_
          refine g_bipush X dX3_readNumbers_67 (by decide) ?_
          refine g_imul X dX3_readNumbers_69 ?_
          refine g_aload_n X dX3_readNumbers_70 rfl 2 rfl ?_
          refine g_iload X dX3_readNumbers_71 0 rfl ?_
          refine g_calli (st := [.int (iI (((ltX (w1 1 1) (w1 1 0 0) at_) - 48) * 10))]) X (c_X3_letterAt l G (at_ + 1) w1 F (by rw [e10]; exact hL) (by rw [e11]; exact hT) (by first | assumption | omega | (unfold InR; omega))) cm_X3_letterAt im_X3_letterAt se_X3_letterAt ml_X3_39 ck_X3 (fx1 F) ⟨Nat.le_of_ble_eq_true rfl, Nat.le_of_ble_eq_true rfl⟩ rfl rfl (Nat.le_of_ble_eq_true rfl) dX3_readNumbers_73 (fn_i ?_)
          refine g_iadd X dX3_readNumbers_76 ?_
          refine g_bipush X dX3_readNumbers_77 (by decide) ?_
          refine g_isub X dX3_readNumbers_79 ?_
          refine g_istore (lv' := [(7, .int (iI (((((ltX (w1 1 1) (w1 1 0 0) at_) - 48) * 10) + (ltX (w1 1 1) (w1 1 0 0) (at_ + 1))) - 48))), (4, .int (iI (at_ + 1))), (0, .ref (gAd G 1)), (1, .int (iI start)), (2, .ref (gSa G 3)), (3, .ref (gSa G 4)), (5, .int (iI 6)), (6, .int (iI k))]) X dX3_readNumbers_80 (by decide) rfl ?_
          refine g_iinc (j := 1) (lv' := [(4, .int (iI (at_ + 1 + 1))), (7, .int (iI (((((ltX (w1 1 1) (w1 1 0 0) at_) - 48) * 10) + (ltX (w1 1 1) (w1 1 0 0) (at_ + 1))) - 48))), (0, .ref (gAd G 1)), (1, .int (iI start)), (2, .ref (gSa G 3)), (3, .ref (gSa G 4)), (5, .int (iI 6)), (6, .int (iI k))]) X dX3_readNumbers_82 rfl (by decide) rfl ?_
          refine g_lv (lv' := [(0, .ref (gAd G 1)), (1, .int (iI start)), (2, .ref (gSa G 3)), (3, .ref (gSa G 4)), (4, .int (iI (at_ + 1 + 1))), (5, .int (iI 6)), (6, .int (iI k)), (7, .int (iI (((((ltX (w1 1 1) (w1 1 0 0) at_) - 48) * 10) + (ltX (w1 1 1) (w1 1 0 0) (at_ + 1))) - 48)))]) [2, 3, 4, 5, 0, 6, 7, 1] rfl ?_
          exact J_85 (((((ltX (w1 1 1) (w1 1 0 0) at_) - 48) * 10) + (ltX (w1 1 1) (w1 1 0 0) (at_ + 1))) - 48) (at_ + 1 + 1) ⟨(by
              unfold nvX
              rw [e11, e10] at c_62
              first
              | rw [if_neg (of_zero c_62), e11, e10]
              | rw [if_pos (of_one c_62), e11, e10]), (by
              unfold neX
              rw [e11, e10] at c_62
              first
              | rw [if_neg (of_zero c_62)]
              | (rw [if_pos (of_one c_62)]; omega))⟩
    · skip
      refine g_bipush X dX3_readNumbers_39 (by decide) ?_
      exact g_iret X rfl rfl dX3_readNumbers_41 (by
          rw [e11, e10] at c_36
          have hnf := of_zero (Classical.not_not.mp c_36)
          have hz : rqX (w 1 1) (w 1 0 0) 6 (loX 3) (loX 4) start (k.toNat + 1) = -4 := by
            rw [rqX_s, ← ha]
            split
            · rfl
            · rw [if_neg (fun h => hnf h.1)]
          have hz2 := rqX_dead (k.toNat + 1) hz (6 - (k.toNat + 1))
          rw [show k.toNat + 1 + (6 - (k.toNat + 1)) = 6 by omega] at hz2
          exact ⟨hz2.symm, hfr, hn1, fun h => absurd rfl h⟩)
set_option maxHeartbeats 4000000 in
set_option maxRecDepth 100000 in
theorem c_X3_readNumbers_v5 (l : Launch) (G : Ly) (start : Int) (w : Wd) (F : FX G) (hL : 0 ≤ w 1 0 0 ∧ w 1 0 0 ≤ 200) (hT : ∀ j : Nat, j < 200 → 0 ≤ w 1 1 j ∧ w 1 1 j ≤ 126) (hN : ∀ j : Nat, j < 6 → 0 ≤ w 1 2 j ∧ w 1 2 j ≤ 99) (hs : 0 ≤ start ∧ start ≤ 1000) : Mi l yX3_readNumbers cX3_readNumbers 9 (some .int) 2 43 G [.ref (gAd G 1), .int (iI start), .ref (gSa G 5), .ref (gSa G 6)] w (fun z w2 => z = rqX (w 1 1) (w 1 0 0) 4 (loX 5) (loX 6) start 4 ∧ (∀ o2 f j, ¬ (o2 = 1 ∧ f = 2) → w2 o2 f j = w o2 f j) ∧ (∀ j : Nat, j < 6 → 0 ≤ w2 1 2 j ∧ w2 1 2 j ≤ 99) ∧ (z ≠ -4 → ∀ k, k < 4 → w2 1 2 k = nvX (w 1 1) (w 1 0 0) (rqX (w 1 1) (w 1 0 0) 4 (loX 5) (loX 6) start k))) := by
  refine mi_of (lv := [(0, .ref (gAd G 1)), (1, .int (iI start)), (2, .ref (gSa G 5)), (3, .ref (gSa G 6))]) (by decide) (Nat.le_of_ble_eq_true rfl) rfl ?_
  intro p_ e_ s_ m_ b_ h_ c_ X
  refine g_iload_n X dX3_readNumbers_0 rfl 1 rfl ?_
  refine g_istore (lv' := [(4, .int (iI start)), (0, .ref (gAd G 1)), (1, .int (iI start)), (2, .ref (gSa G 5)), (3, .ref (gSa G 6))]) X dX3_readNumbers_1 (by decide) rfl ?_
  refine g_aload_n X dX3_readNumbers_3 rfl 1 rfl ?_
  refine g_geta X ck_X3 (fx1 F) 2 (by decide) fl_X3_19 rfl dX3_readNumbers_4 ?_
  refine h_alen X 6 rfl (fx1 F) (by decide) (show fkX 3 2 = (1, 6) from rfl) dX3_readNumbers_7 ?_
  refine g_aload_n X dX3_readNumbers_8 rfl 3 rfl ?_
  refine h_slen X 5 (by decide) 4 rfl dX3_readNumbers_9 ?_
  refine g_aload_n X dX3_readNumbers_10 rfl 4 rfl ?_
  refine h_slen X 6 (by decide) 4 rfl dX3_readNumbers_11 ?_
  refine g_min X ml_X3_62 ⟨by decide, by decide⟩ ⟨by decide, by decide⟩ ⟨Nat.le_of_ble_eq_true rfl, Nat.le_of_ble_eq_true rfl⟩ (Nat.le_of_ble_eq_true rfl) dX3_readNumbers_12 ?_
  refine g_min X ml_X3_62 ⟨by decide, by decide⟩ (by unfold InR; omega) ⟨Nat.le_of_ble_eq_true rfl, Nat.le_of_ble_eq_true rfl⟩ (Nat.le_of_ble_eq_true rfl) dX3_readNumbers_15 ?_
  rw [show (min 6 (min 4 4) : Int) = 4 from (by decide)]
  refine g_istore (lv' := [(5, .int (iI 4)), (4, .int (iI start)), (0, .ref (gAd G 1)), (1, .int (iI start)), (2, .ref (gSa G 5)), (3, .ref (gSa G 6))]) X dX3_readNumbers_18 (by decide) rfl ?_
  refine g_iconst X dX3_readNumbers_20 ?_
  refine g_istore (lv' := [(6, .int (iI 0)), (5, .int (iI 4)), (4, .int (iI start)), (0, .ref (gAd G 1)), (1, .int (iI start)), (2, .ref (gSa G 5)), (3, .ref (gSa G 6))]) X dX3_readNumbers_21 (by decide) rfl ?_
  refine g_lv (lv' := [(0, .ref (gAd G 1)), (1, .int (iI start)), (2, .ref (gSa G 5)), (3, .ref (gSa G 6)), (4, .int (iI start)), (5, .int (iI 4)), (6, .int (iI 0))]) [3, 4, 5, 6, 2, 1, 0] rfl ?_
  refine g_loop3 (fun (at_ : Int) (k : Int) (w1 : Wd) => [(0, .ref (gAd G 1)), (1, .int (iI start)), (2, .ref (gSa G 5)), (3, .ref (gSa G 6)), (4, .int (iI at_)), (5, .int (iI 4)), (6, .int (iI k))]) (fun (at_ : Int) (k : Int) (w1 : Wd) => w1) (fun (at_ : Int) (k : Int) (w1 : Wd) => (0 ≤ k) ∧ (k ≤ 4) ∧ (at_ = rqX (w 1 1) (w 1 0 0) 4 (loX 5) (loX 6) start k.toNat) ∧ (0 ≤ at_ ∧ at_ ≤ 1000 + 4 * k) ∧ (∀ o2 f j, ¬ (o2 = 1 ∧ f = 2) → w1 o2 f j = w o2 f j) ∧ (∀ j : Nat, j < 6 → 0 ≤ w1 1 2 j ∧ w1 1 2 j ≤ 99) ∧ (∀ j : Nat, (j : Int) < k → w1 1 2 j = nvX (w 1 1) (w 1 0 0) (rqX (w 1 1) (w 1 0 0) 4 (loX 5) (loX 6) start j))) (fun (at_ : Int) (k : Int) (w1 : Wd) => (4 - k).toNat) start 0 w ⟨(by first | omega | rfl | assumption), (by first | omega | rfl | assumption), (by rfl), (by first | omega | rfl | assumption), (by intro _ _ _ _; rfl), (by exact hN), (by intro j hj; omega)⟩ ?_
  intro at_ k w1 hI_23 ih_23
  obtain ⟨h0, h1, ha, hb, hfr, hn1, hv⟩ := hI_23
  try dsimp only at ih_23 ⊢
  have e11 : w1 1 1 = w 1 1 := by funext j; exact hfr 1 1 j (by decide)
  have e10 : w1 1 0 0 = w 1 0 0 := hfr 1 0 0 (by decide)
  have sp := sepX_in 4 k.toNat
  refine g_iload X dX3_readNumbers_23 6 rfl ?_
  refine g_iload X dX3_readNumbers_25 5 rfl ?_
  refine g_icmp_ge (tgt := 153) X dX3_readNumbers_27 (by decide) (by unfold InR; omega) ⟨by decide, by decide⟩ (fun c_27 => ?_) (fun c_27 => ?_)
  · skip
    refine g_iload X dX3_readNumbers_153 4 rfl ?_
    exact g_iret X rfl rfl dX3_readNumbers_155 (by
        have hk : k.toNat = 4 := by omega
        rw [hk] at ha
        exact ⟨ha, hfr, hn1, fun _ j hj => hv j (by omega)⟩)
  · skip
    refine g_aload_n X dX3_readNumbers_30 rfl 0 rfl ?_
    refine g_iload X dX3_readNumbers_31 4 rfl ?_
    refine g_calli (st := []) X (c_X3_isFigure l G at_ w1 F (by rw [e10]; exact hL) (by rw [e11]; exact hT) (by first | assumption | omega | (unfold InR; omega))) cm_X3_isFigure im_X3_isFigure se_X3_isFigure ml_X3_68 ck_X3 (fx1 F) ⟨Nat.le_of_ble_eq_true rfl, Nat.le_of_ble_eq_true rfl⟩ rfl rfl (Nat.le_of_ble_eq_true rfl) dX3_readNumbers_33 (fn_i ?_)
    refine g_if_ne (tgt := 42) X dX3_readNumbers_36 (by decide) (by exact in01) (fun c_36 => ?_) (fun c_36 => ?_)
    · skip
      have hfig : figX (w 1 1) (w 1 0 0) at_ := by rw [e11, e10] at c_36; exact of_one c_36
      have hni := nvX_in hfig
      refine g_aload_n X dX3_readNumbers_42 rfl 0 rfl ?_
      refine g_cut2 (pc' := 85) (fun (num : Int) (e : Int) => [(0, .ref (gAd G 1)), (1, .int (iI start)), (2, .ref (gSa G 5)), (3, .ref (gSa G 6)), (4, .int (iI e)), (5, .int (iI 4)), (6, .int (iI k)), (7, .int (iI num))]) (fun (num : Int) (e : Int) => []) (fun (num : Int) (e : Int) => w1) (fun (num : Int) (e : Int) => (num = nvX (w 1 1) (w 1 0 0) at_) ∧ (e = neX (w 1 1) (w 1 0 0) at_)) ?_ ?_
      · intro num e hI_85
        obtain ⟨hnum, he⟩ := hI_85
        try dsimp only
        have hne : at_ + 1 ≤ e ∧ e ≤ at_ + 2 := by rw [he]; unfold neX; split <;> omega
        refine g_iload X dX3_readNumbers_85 6 rfl ?_
        refine g_cut1 (pc' := 101) (fun (sep : Int) => [(0, .ref (gAd G 1)), (1, .int (iI start)), (2, .ref (gSa G 5)), (3, .ref (gSa G 6)), (4, .int (iI e)), (5, .int (iI 4)), (6, .int (iI k)), (7, .int (iI num))]) (fun (sep : Int) => [.int (iI sep)]) (fun (sep : Int) => w1) (fun (sep : Int) => (sep = sepX 4 k.toNat)) ?_ ?_
        · intro sep hI_101
          have hsep := hI_101
          try dsimp only at hsep ⊢
          refine g_istore (lv' := [(8, .int (iI sep)), (0, .ref (gAd G 1)), (1, .int (iI start)), (2, .ref (gSa G 5)), (3, .ref (gSa G 6)), (4, .int (iI e)), (5, .int (iI 4)), (6, .int (iI k)), (7, .int (iI num))]) X dX3_readNumbers_101 (by decide) rfl ?_
          have hkk : k.toNat < 4 := by omega
          have hlo : ∀ q, q < 4 → 0 ≤ (slX 5).getD q 0 ∧ (slX 5).getD q 0 ≤ 99 := by decide +kernel
          have hhi : ∀ q, q < 4 → 0 ≤ (slX 6).getD q 0 ∧ (slX 6).getD q 0 ≤ 99 := by decide +kernel
          have hlk := hlo k.toNat hkk
          have hhk := hhi k.toNat hkk
          have hle := ltX_in hT hL.2 e
          refine g_aload_n X dX3_readNumbers_103 rfl 1 rfl ?_
          refine g_cut1 (pc' := 132) (fun (d_ : Int) => [(0, .ref (gAd G 1))]) (fun (d_ : Int) => []) (fun (d_ : Int) => w1) (fun (d_ : Int) => (¬ (ltX (w 1 1) (w 1 0 0) e = sep ∧ loX 5 k.toNat ≤ num ∧ num ≤ loX 6 k.toNat))) ?_ ?_
          · intro d_ hI_132
            have hbad := hI_132
            try dsimp only at hbad ⊢
            refine g_bipush X dX3_readNumbers_132 (by decide) ?_
            exact g_iret X rfl rfl dX3_readNumbers_134 (by
                have hz : rqX (w 1 1) (w 1 0 0) 4 (loX 5) (loX 6) start (k.toNat + 1) = -4 := by
                  rw [rqX_s, ← ha]
                  split
                  · rfl
                  · rw [← he, ← hnum, ← hsep, if_neg (fun h => hbad h.2)]
                have hz2 := rqX_dead (k.toNat + 1) hz (4 - (k.toNat + 1))
                rw [show k.toNat + 1 + (4 - (k.toNat + 1)) = 4 by omega] at hz2
                exact ⟨hz2.symm, hfr, hn1, fun h => absurd rfl h⟩)
          · intro J_132
            try dsimp only at J_132
            refine g_iload X dX3_readNumbers_104 5 rfl ?_
            refine g_calli (st := []) X (c_X3_letterAt l G e w1 F (by rw [e10]; exact hL) (by rw [e11]; exact hT) (by first | assumption | omega | (unfold InR; omega))) cm_X3_letterAt im_X3_letterAt se_X3_letterAt ml_X3_39 ck_X3 (fx1 F) ⟨Nat.le_of_ble_eq_true rfl, Nat.le_of_ble_eq_true rfl⟩ rfl rfl (Nat.le_of_ble_eq_true rfl) dX3_readNumbers_106 (fn_i ?_)
            refine g_iload X dX3_readNumbers_109 0 rfl ?_
            refine g_icmp_ne (tgt := 132) X dX3_readNumbers_111 (by decide) (by rw [e11, e10]; unfold InR; omega) (by unfold InR; omega) (fun c_111 => ?_) (fun c_111 => ?_)
            · skip
              refine g_lv (lv' := [(0, .ref (gAd G 1))]) [1] rfl ?_
              exact J_132 0 (by
                  first
                  | (rw [e11, e10] at c_111; exact fun h => c_111 h.1)
                  | (intro h; unfold loX at h; omega))
            · skip
              refine g_iload X dX3_readNumbers_114 8 rfl ?_
              refine g_aload_n X dX3_readNumbers_116 rfl 3 rfl ?_
              refine g_iload X dX3_readNumbers_117 7 rfl ?_
              refine g_sald (v := (slX 5).getD (k).toNat 0) X 5 (by decide) (by omega) (by show _ < (4 : Int); omega) (by rfl) (by decide) dX3_readNumbers_119 ?_
              refine g_icmp_lt (tgt := 132) X dX3_readNumbers_120 (by decide) (by unfold InR; omega) (by unfold InR; omega) (fun c_120 => ?_) (fun c_120 => ?_)
              · skip
                refine g_lv (lv' := [(0, .ref (gAd G 1))]) [1] rfl ?_
                exact J_132 0 (by
                    first
                    | (rw [e11, e10] at c_111; exact fun h => c_111 h.1)
                    | (intro h; unfold loX at h; omega))
              · skip
                refine g_iload X dX3_readNumbers_123 8 rfl ?_
                refine g_aload_n X dX3_readNumbers_125 rfl 4 rfl ?_
                refine g_iload X dX3_readNumbers_126 7 rfl ?_
                refine g_sald (v := (slX 6).getD (k).toNat 0) X 6 (by decide) (by omega) (by show _ < (4 : Int); omega) (by rfl) (by decide) dX3_readNumbers_128 ?_
                refine g_icmp_le (tgt := 135) X dX3_readNumbers_129 (by decide) (by unfold InR; omega) (by unfold InR; omega) (fun c_129 => ?_) (fun c_129 => ?_)
                · skip
                  refine g_aload_n X dX3_readNumbers_135 rfl 1 rfl ?_
                  refine g_geta X ck_X3 (fx1 F) 2 (by decide) fl_X3_19 rfl dX3_readNumbers_136 ?_
                  refine g_iload X dX3_readNumbers_139 7 rfl ?_
                  refine g_iload X dX3_readNumbers_141 8 rfl ?_
                  refine h_iast (a := k) (j := (k).toNat) X rfl (fx1 F) (by decide) (show fkX 3 2 = (1, 6) from rfl) (by decide) (by omega) (by omega) dX3_readNumbers_143 ?_
                  obtain ⟨w_1, ew_1⟩ : ∃ q_ : Wd, q_ = up w1 1 2 (k).toNat num := ⟨_, rfl⟩
                  refine g_w (w' := w_1) ew_1 ?_
                  refine g_iinc (j := 5) (lv' := [(4, .int (iI (e + 1))), (8, .int (iI sep)), (0, .ref (gAd G 1)), (1, .int (iI start)), (2, .ref (gSa G 5)), (3, .ref (gSa G 6)), (5, .int (iI 4)), (6, .int (iI k)), (7, .int (iI num))]) X dX3_readNumbers_144 rfl (by decide) rfl ?_
                  refine g_iinc (j := 7) (lv' := [(6, .int (iI (k + 1))), (4, .int (iI (e + 1))), (8, .int (iI sep)), (0, .ref (gAd G 1)), (1, .int (iI start)), (2, .ref (gSa G 5)), (3, .ref (gSa G 6)), (5, .int (iI 4)), (7, .int (iI num))]) X dX3_readNumbers_147 rfl (by decide) rfl ?_
                  refine g_goto (tgt := 23) X dX3_readNumbers_150 (by decide) ?_
                  refine g_lv (lv' := [(0, .ref (gAd G 1)), (1, .int (iI start)), (2, .ref (gSa G 5)), (3, .ref (gSa G 6)), (4, .int (iI (e + 1))), (5, .int (iI 4)), (6, .int (iI (k + 1)))]) [3, 4, 5, 6, 1, 7, 0] rfl ?_
                  exact ih_23 (e + 1) (k + 1) w_1 ⟨(by first | omega | rfl | assumption), (by first | omega | rfl | assumption), (by
                      rw [show (k + 1).toNat = k.toNat + 1 by omega, rqX_s, ← ha, if_neg (by omega), ← he, ← hnum, ← hsep]
                      rw [e11, e10] at c_111
                      rw [if_pos ⟨hfig, by omega, by unfold loX; omega, by unfold loX; omega⟩]), (by first | omega | rfl | assumption), (by intro o2 f j h; rw [ew_1, up_ne (fun z => h ⟨z.1, z.2.1⟩)]; exact hfr o2 f j h), (by intro j hj; rw [ew_1]; unfold up; split; (rw [hnum]; exact hni); exact hn1 j hj), (by
                      intro j hj
                      rw [ew_1]
                      rcases Int.lt_or_le (j : Int) k with q | q
                      · rw [up_ne (by omega)]; exact hv j q
                      · have e : j = k.toNat := by omega
                        rw [e, up_at, hnum, ha])⟩ (by omega)
                · skip
                  refine g_lv (lv' := [(0, .ref (gAd G 1))]) [1] rfl ?_
                  exact J_132 0 (by
                      first
                      | (rw [e11, e10] at c_111; exact fun h => c_111 h.1)
                      | (intro h; unfold loX at h; omega))
        · intro J_101
          try dsimp only at J_101
          refine g_iload X dX3_readNumbers_87 5 rfl ?_
          refine g_iconst X dX3_readNumbers_89 ?_
          refine g_isub X dX3_readNumbers_90 ?_
          refine g_icmp_ge (tgt := 99) X dX3_readNumbers_91 (by decide) (by unfold InR; omega) (by unfold InR; omega) (fun c_91 => ?_) (fun c_91 => ?_)
          · skip
            refine g_bipush X dX3_readNumbers_99 (by decide) ?_
            refine g_lv (lv' := [(0, .ref (gAd G 1)), (1, .int (iI start)), (2, .ref (gSa G 5)), (3, .ref (gSa G 6)), (4, .int (iI e)), (5, .int (iI 4)), (6, .int (iI k)), (7, .int (iI num))]) [0, 1, 2, 3, 4, 5, 6, 7] rfl ?_
            exact J_101 59 (by unfold sepX; first | rw [if_pos (by omega)] | rw [if_neg (by omega)])
          · skip
            refine g_bipush X dX3_readNumbers_94 (by decide) ?_
            refine g_goto (tgt := 101) X dX3_readNumbers_96 (by decide) ?_
            refine g_lv (lv' := [(0, .ref (gAd G 1)), (1, .int (iI start)), (2, .ref (gSa G 5)), (3, .ref (gSa G 6)), (4, .int (iI e)), (5, .int (iI 4)), (6, .int (iI k)), (7, .int (iI num))]) [0, 1, 2, 3, 4, 5, 6, 7] rfl ?_
            exact J_101 44 (by unfold sepX; first | rw [if_pos (by omega)] | rw [if_neg (by omega)])
      · intro J_85
        try dsimp only at J_85
        refine g_iload X dX3_readNumbers_43 4 rfl ?_
        refine g_calli (st := []) X (c_X3_letterAt l G at_ w1 F (by rw [e10]; exact hL) (by rw [e11]; exact hT) (by first | assumption | omega | (unfold InR; omega))) cm_X3_letterAt im_X3_letterAt se_X3_letterAt ml_X3_39 ck_X3 (fx1 F) ⟨Nat.le_of_ble_eq_true rfl, Nat.le_of_ble_eq_true rfl⟩ rfl rfl (Nat.le_of_ble_eq_true rfl) dX3_readNumbers_45 (fn_i ?_)
        refine g_bipush X dX3_readNumbers_48 (by decide) ?_
        refine g_isub X dX3_readNumbers_50 ?_
        refine g_istore (lv' := [(7, .int (iI ((ltX (w1 1 1) (w1 1 0 0) at_) - 48))), (0, .ref (gAd G 1)), (1, .int (iI start)), (2, .ref (gSa G 5)), (3, .ref (gSa G 6)), (4, .int (iI at_)), (5, .int (iI 4)), (6, .int (iI k))]) X dX3_readNumbers_51 (by decide) rfl ?_
        skip
        refine g_iinc (j := 5) (lv' := [(4, .int (iI (at_ + 1))), (7, .int (iI ((ltX (w1 1 1) (w1 1 0 0) at_) - 48))), (0, .ref (gAd G 1)), (1, .int (iI start)), (2, .ref (gSa G 5)), (3, .ref (gSa G 6)), (5, .int (iI 4)), (6, .int (iI k))]) X dX3_readNumbers_53 rfl (by decide) rfl ?_
        refine g_aload_n X dX3_readNumbers_56 rfl 2 rfl ?_
        refine g_iload X dX3_readNumbers_57 0 rfl ?_
        refine g_calli (st := []) X (c_X3_isFigure l G (at_ + 1) w1 F (by rw [e10]; exact hL) (by rw [e11]; exact hT) (by first | assumption | omega | (unfold InR; omega))) cm_X3_isFigure im_X3_isFigure se_X3_isFigure ml_X3_68 ck_X3 (fx1 F) ⟨Nat.le_of_ble_eq_true rfl, Nat.le_of_ble_eq_true rfl⟩ rfl rfl (Nat.le_of_ble_eq_true rfl) dX3_readNumbers_59 (fn_i ?_)
        refine g_if_eq (tgt := 85) X dX3_readNumbers_62 (by decide) (by exact in01) (fun c_62 => ?_) (fun c_62 => ?_)
        · skip
          refine g_lv (lv' := [(0, .ref (gAd G 1)), (1, .int (iI start)), (2, .ref (gSa G 5)), (3, .ref (gSa G 6)), (4, .int (iI (at_ + 1))), (5, .int (iI 4)), (6, .int (iI k)), (7, .int (iI ((ltX (w1 1 1) (w1 1 0 0) at_) - 48)))]) [2, 3, 4, 5, 0, 6, 7, 1] rfl ?_
          exact J_85 ((ltX (w1 1 1) (w1 1 0 0) at_) - 48) (at_ + 1) ⟨(by
              unfold nvX
              rw [e11, e10] at c_62
              first
              | rw [if_neg (of_zero c_62), e11, e10]
              | rw [if_pos (of_one c_62), e11, e10]), (by
              unfold neX
              rw [e11, e10] at c_62
              first
              | rw [if_neg (of_zero c_62)]
              | (rw [if_pos (of_one c_62)]; omega))⟩
        · skip
          refine g_iload X dX3_readNumbers_65 1 rfl ?_
          refine g_bipush X dX3_readNumbers_67 (by decide) ?_
          refine g_imul X dX3_readNumbers_69 ?_
          refine g_aload_n X dX3_readNumbers_70 rfl 2 rfl ?_
          refine g_iload X dX3_readNumbers_71 0 rfl ?_
          refine g_calli (st := [.int (iI (((ltX (w1 1 1) (w1 1 0 0) at_) - 48) * 10))]) X (c_X3_letterAt l G (at_ + 1) w1 F (by rw [e10]; exact hL) (by rw [e11]; exact hT) (by first | assumption | omega | (unfold InR; omega))) cm_X3_letterAt im_X3_letterAt se_X3_letterAt ml_X3_39 ck_X3 (fx1 F) ⟨Nat.le_of_ble_eq_true rfl, Nat.le_of_ble_eq_true rfl⟩ rfl rfl (Nat.le_of_ble_eq_true rfl) dX3_readNumbers_73 (fn_i ?_)
          refine g_iadd X dX3_readNumbers_76 ?_
          refine g_bipush X dX3_readNumbers_77 (by decide) ?_
          refine g_isub X dX3_readNumbers_79 ?_
          refine g_istore (lv' := [(7, .int (iI (((((ltX (w1 1 1) (w1 1 0 0) at_) - 48) * 10) + (ltX (w1 1 1) (w1 1 0 0) (at_ + 1))) - 48))), (4, .int (iI (at_ + 1))), (0, .ref (gAd G 1)), (1, .int (iI start)), (2, .ref (gSa G 5)), (3, .ref (gSa G 6)), (5, .int (iI 4)), (6, .int (iI k))]) X dX3_readNumbers_80 (by decide) rfl ?_
          refine g_iinc (j := 1) (lv' := [(4, .int (iI (at_ + 1 + 1))), (7, .int (iI (((((ltX (w1 1 1) (w1 1 0 0) at_) - 48) * 10) + (ltX (w1 1 1) (w1 1 0 0) (at_ + 1))) - 48))), (0, .ref (gAd G 1)), (1, .int (iI start)), (2, .ref (gSa G 5)), (3, .ref (gSa G 6)), (5, .int (iI 4)), (6, .int (iI k))]) X dX3_readNumbers_82 rfl (by decide) rfl ?_
          refine g_lv (lv' := [(0, .ref (gAd G 1)), (1, .int (iI start)), (2, .ref (gSa G 5)), (3, .ref (gSa G 6)), (4, .int (iI (at_ + 1 + 1))), (5, .int (iI 4)), (6, .int (iI k)), (7, .int (iI (((((ltX (w1 1 1) (w1 1 0 0) at_) - 48) * 10) + (ltX (w1 1 1) (w1 1 0 0) (at_ + 1))) - 48)))]) [2, 3, 4, 5, 0, 6, 7, 1] rfl ?_
          exact J_85 (((((ltX (w1 1 1) (w1 1 0 0) at_) - 48) * 10) + (ltX (w1 1 1) (w1 1 0 0) (at_ + 1))) - 48) (at_ + 1 + 1) ⟨(by
              unfold nvX
              rw [e11, e10] at c_62
              first
              | rw [if_neg (of_zero c_62), e11, e10]
              | rw [if_pos (of_one c_62), e11, e10]), (by
              unfold neX
              rw [e11, e10] at c_62
              first
              | rw [if_neg (of_zero c_62)]
              | (rw [if_pos (of_one c_62)]; omega))⟩
    · skip
      refine g_bipush X dX3_readNumbers_39 (by decide) ?_
      exact g_iret X rfl rfl dX3_readNumbers_41 (by
          rw [e11, e10] at c_36
          have hnf := of_zero (Classical.not_not.mp c_36)
          have hz : rqX (w 1 1) (w 1 0 0) 4 (loX 5) (loX 6) start (k.toNat + 1) = -4 := by
            rw [rqX_s, ← ha]
            split
            · rfl
            · rw [if_neg (fun h => hnf h.1)]
          have hz2 := rqX_dead (k.toNat + 1) hz (4 - (k.toNat + 1))
          rw [show k.toNat + 1 + (4 - (k.toNat + 1)) = 4 by omega] at hz2
          exact ⟨hz2.symm, hfr, hn1, fun h => absurd rfl h⟩)
set_option maxHeartbeats 4000000 in
set_option maxRecDepth 100000 in
theorem c_X3_readNumbers_v7 (l : Launch) (G : Ly) (start : Int) (w : Wd) (F : FX G) (hL : 0 ≤ w 1 0 0 ∧ w 1 0 0 ≤ 200) (hT : ∀ j : Nat, j < 200 → 0 ≤ w 1 1 j ∧ w 1 1 j ≤ 126) (hN : ∀ j : Nat, j < 6 → 0 ≤ w 1 2 j ∧ w 1 2 j ≤ 99) (hs : 0 ≤ start ∧ start ≤ 1000) : Mi l yX3_readNumbers cX3_readNumbers 9 (some .int) 2 43 G [.ref (gAd G 1), .int (iI start), .ref (gSa G 7), .ref (gSa G 8)] w (fun z w2 => z = rqX (w 1 1) (w 1 0 0) 3 (loX 7) (loX 8) start 3 ∧ (∀ o2 f j, ¬ (o2 = 1 ∧ f = 2) → w2 o2 f j = w o2 f j) ∧ (∀ j : Nat, j < 6 → 0 ≤ w2 1 2 j ∧ w2 1 2 j ≤ 99) ∧ (z ≠ -4 → ∀ k, k < 3 → w2 1 2 k = nvX (w 1 1) (w 1 0 0) (rqX (w 1 1) (w 1 0 0) 3 (loX 7) (loX 8) start k))) := by
  refine mi_of (lv := [(0, .ref (gAd G 1)), (1, .int (iI start)), (2, .ref (gSa G 7)), (3, .ref (gSa G 8))]) (by decide) (Nat.le_of_ble_eq_true rfl) rfl ?_
  intro p_ e_ s_ m_ b_ h_ c_ X
  refine g_iload_n X dX3_readNumbers_0 rfl 1 rfl ?_
  refine g_istore (lv' := [(4, .int (iI start)), (0, .ref (gAd G 1)), (1, .int (iI start)), (2, .ref (gSa G 7)), (3, .ref (gSa G 8))]) X dX3_readNumbers_1 (by decide) rfl ?_
  refine g_aload_n X dX3_readNumbers_3 rfl 1 rfl ?_
  refine g_geta X ck_X3 (fx1 F) 2 (by decide) fl_X3_19 rfl dX3_readNumbers_4 ?_
  refine h_alen X 6 rfl (fx1 F) (by decide) (show fkX 3 2 = (1, 6) from rfl) dX3_readNumbers_7 ?_
  refine g_aload_n X dX3_readNumbers_8 rfl 3 rfl ?_
  refine h_slen X 7 (by decide) 3 rfl dX3_readNumbers_9 ?_
  refine g_aload_n X dX3_readNumbers_10 rfl 4 rfl ?_
  refine h_slen X 8 (by decide) 3 rfl dX3_readNumbers_11 ?_
  refine g_min X ml_X3_62 ⟨by decide, by decide⟩ ⟨by decide, by decide⟩ ⟨Nat.le_of_ble_eq_true rfl, Nat.le_of_ble_eq_true rfl⟩ (Nat.le_of_ble_eq_true rfl) dX3_readNumbers_12 ?_
  refine g_min X ml_X3_62 ⟨by decide, by decide⟩ (by unfold InR; omega) ⟨Nat.le_of_ble_eq_true rfl, Nat.le_of_ble_eq_true rfl⟩ (Nat.le_of_ble_eq_true rfl) dX3_readNumbers_15 ?_
  rw [show (min 6 (min 3 3) : Int) = 3 from (by decide)]
  refine g_istore (lv' := [(5, .int (iI 3)), (4, .int (iI start)), (0, .ref (gAd G 1)), (1, .int (iI start)), (2, .ref (gSa G 7)), (3, .ref (gSa G 8))]) X dX3_readNumbers_18 (by decide) rfl ?_
  refine g_iconst X dX3_readNumbers_20 ?_
  refine g_istore (lv' := [(6, .int (iI 0)), (5, .int (iI 3)), (4, .int (iI start)), (0, .ref (gAd G 1)), (1, .int (iI start)), (2, .ref (gSa G 7)), (3, .ref (gSa G 8))]) X dX3_readNumbers_21 (by decide) rfl ?_
  refine g_lv (lv' := [(0, .ref (gAd G 1)), (1, .int (iI start)), (2, .ref (gSa G 7)), (3, .ref (gSa G 8)), (4, .int (iI start)), (5, .int (iI 3)), (6, .int (iI 0))]) [3, 4, 5, 6, 2, 1, 0] rfl ?_
  refine g_loop3 (fun (at_ : Int) (k : Int) (w1 : Wd) => [(0, .ref (gAd G 1)), (1, .int (iI start)), (2, .ref (gSa G 7)), (3, .ref (gSa G 8)), (4, .int (iI at_)), (5, .int (iI 3)), (6, .int (iI k))]) (fun (at_ : Int) (k : Int) (w1 : Wd) => w1) (fun (at_ : Int) (k : Int) (w1 : Wd) => (0 ≤ k) ∧ (k ≤ 3) ∧ (at_ = rqX (w 1 1) (w 1 0 0) 3 (loX 7) (loX 8) start k.toNat) ∧ (0 ≤ at_ ∧ at_ ≤ 1000 + 4 * k) ∧ (∀ o2 f j, ¬ (o2 = 1 ∧ f = 2) → w1 o2 f j = w o2 f j) ∧ (∀ j : Nat, j < 6 → 0 ≤ w1 1 2 j ∧ w1 1 2 j ≤ 99) ∧ (∀ j : Nat, (j : Int) < k → w1 1 2 j = nvX (w 1 1) (w 1 0 0) (rqX (w 1 1) (w 1 0 0) 3 (loX 7) (loX 8) start j))) (fun (at_ : Int) (k : Int) (w1 : Wd) => (3 - k).toNat) start 0 w ⟨(by first | omega | rfl | assumption), (by first | omega | rfl | assumption), (by rfl), (by first | omega | rfl | assumption), (by intro _ _ _ _; rfl), (by exact hN), (by intro j hj; omega)⟩ ?_
  intro at_ k w1 hI_23 ih_23
  obtain ⟨h0, h1, ha, hb, hfr, hn1, hv⟩ := hI_23
  try dsimp only at ih_23 ⊢
  have e11 : w1 1 1 = w 1 1 := by funext j; exact hfr 1 1 j (by decide)
  have e10 : w1 1 0 0 = w 1 0 0 := hfr 1 0 0 (by decide)
  have sp := sepX_in 3 k.toNat
  refine g_iload X dX3_readNumbers_23 6 rfl ?_
  refine g_iload X dX3_readNumbers_25 5 rfl ?_
  refine g_icmp_ge (tgt := 153) X dX3_readNumbers_27 (by decide) (by unfold InR; omega) ⟨by decide, by decide⟩ (fun c_27 => ?_) (fun c_27 => ?_)
  · skip
    refine g_iload X dX3_readNumbers_153 4 rfl ?_
    exact g_iret X rfl rfl dX3_readNumbers_155 (by
        have hk : k.toNat = 3 := by omega
        rw [hk] at ha
        exact ⟨ha, hfr, hn1, fun _ j hj => hv j (by omega)⟩)
  · skip
    refine g_aload_n X dX3_readNumbers_30 rfl 0 rfl ?_
    refine g_iload X dX3_readNumbers_31 4 rfl ?_
    refine g_calli (st := []) X (c_X3_isFigure l G at_ w1 F (by rw [e10]; exact hL) (by rw [e11]; exact hT) (by first | assumption | omega | (unfold InR; omega))) cm_X3_isFigure im_X3_isFigure se_X3_isFigure ml_X3_68 ck_X3 (fx1 F) ⟨Nat.le_of_ble_eq_true rfl, Nat.le_of_ble_eq_true rfl⟩ rfl rfl (Nat.le_of_ble_eq_true rfl) dX3_readNumbers_33 (fn_i ?_)
    refine g_if_ne (tgt := 42) X dX3_readNumbers_36 (by decide) (by exact in01) (fun c_36 => ?_) (fun c_36 => ?_)
    · skip
      have hfig : figX (w 1 1) (w 1 0 0) at_ := by rw [e11, e10] at c_36; exact of_one c_36
      have hni := nvX_in hfig
      refine g_aload_n X dX3_readNumbers_42 rfl 0 rfl ?_
      refine g_cut2 (pc' := 85) (fun (num : Int) (e : Int) => [(0, .ref (gAd G 1)), (1, .int (iI start)), (2, .ref (gSa G 7)), (3, .ref (gSa G 8)), (4, .int (iI e)), (5, .int (iI 3)), (6, .int (iI k)), (7, .int (iI num))]) (fun (num : Int) (e : Int) => []) (fun (num : Int) (e : Int) => w1) (fun (num : Int) (e : Int) => (num = nvX (w 1 1) (w 1 0 0) at_) ∧ (e = neX (w 1 1) (w 1 0 0) at_)) ?_ ?_
      · intro num e hI_85
        obtain ⟨hnum, he⟩ := hI_85
        try dsimp only
        have hne : at_ + 1 ≤ e ∧ e ≤ at_ + 2 := by rw [he]; unfold neX; split <;> omega
        refine g_iload X dX3_readNumbers_85 6 rfl ?_
        refine g_cut1 (pc' := 101) (fun (sep : Int) => [(0, .ref (gAd G 1)), (1, .int (iI start)), (2, .ref (gSa G 7)), (3, .ref (gSa G 8)), (4, .int (iI e)), (5, .int (iI 3)), (6, .int (iI k)), (7, .int (iI num))]) (fun (sep : Int) => [.int (iI sep)]) (fun (sep : Int) => w1) (fun (sep : Int) => (sep = sepX 3 k.toNat)) ?_ ?_
        · intro sep hI_101
          have hsep := hI_101
          try dsimp only at hsep ⊢
          refine g_istore (lv' := [(8, .int (iI sep)), (0, .ref (gAd G 1)), (1, .int (iI start)), (2, .ref (gSa G 7)), (3, .ref (gSa G 8)), (4, .int (iI e)), (5, .int (iI 3)), (6, .int (iI k)), (7, .int (iI num))]) X dX3_readNumbers_101 (by decide) rfl ?_
          have hkk : k.toNat < 3 := by omega
          have hlo : ∀ q, q < 3 → 0 ≤ (slX 7).getD q 0 ∧ (slX 7).getD q 0 ≤ 99 := by decide +kernel
          have hhi : ∀ q, q < 3 → 0 ≤ (slX 8).getD q 0 ∧ (slX 8).getD q 0 ≤ 99 := by decide +kernel
          have hlk := hlo k.toNat hkk
          have hhk := hhi k.toNat hkk
          have hle := ltX_in hT hL.2 e
          refine g_aload_n X dX3_readNumbers_103 rfl 1 rfl ?_
          refine g_cut1 (pc' := 132) (fun (d_ : Int) => [(0, .ref (gAd G 1))]) (fun (d_ : Int) => []) (fun (d_ : Int) => w1) (fun (d_ : Int) => (¬ (ltX (w 1 1) (w 1 0 0) e = sep ∧ loX 7 k.toNat ≤ num ∧ num ≤ loX 8 k.toNat))) ?_ ?_
          · intro d_ hI_132
            have hbad := hI_132
            try dsimp only at hbad ⊢
            refine g_bipush X dX3_readNumbers_132 (by decide) ?_
            exact g_iret X rfl rfl dX3_readNumbers_134 (by
                have hz : rqX (w 1 1) (w 1 0 0) 3 (loX 7) (loX 8) start (k.toNat + 1) = -4 := by
                  rw [rqX_s, ← ha]
                  split
                  · rfl
                  · rw [← he, ← hnum, ← hsep, if_neg (fun h => hbad h.2)]
                have hz2 := rqX_dead (k.toNat + 1) hz (3 - (k.toNat + 1))
                rw [show k.toNat + 1 + (3 - (k.toNat + 1)) = 3 by omega] at hz2
                exact ⟨hz2.symm, hfr, hn1, fun h => absurd rfl h⟩)
          · intro J_132
            try dsimp only at J_132
            refine g_iload X dX3_readNumbers_104 5 rfl ?_
            refine g_calli (st := []) X (c_X3_letterAt l G e w1 F (by rw [e10]; exact hL) (by rw [e11]; exact hT) (by first | assumption | omega | (unfold InR; omega))) cm_X3_letterAt im_X3_letterAt se_X3_letterAt ml_X3_39 ck_X3 (fx1 F) ⟨Nat.le_of_ble_eq_true rfl, Nat.le_of_ble_eq_true rfl⟩ rfl rfl (Nat.le_of_ble_eq_true rfl) dX3_readNumbers_106 (fn_i ?_)
            refine g_iload X dX3_readNumbers_109 0 rfl ?_
            refine g_icmp_ne (tgt := 132) X dX3_readNumbers_111 (by decide) (by rw [e11, e10]; unfold InR; omega) (by unfold InR; omega) (fun c_111 => ?_) (fun c_111 => ?_)
            · skip
              refine g_lv (lv' := [(0, .ref (gAd G 1))]) [1] rfl ?_
              exact J_132 0 (by
                  first
                  | (rw [e11, e10] at c_111; exact fun h => c_111 h.1)
                  | (intro h; unfold loX at h; omega))
            · skip
              refine g_iload X dX3_readNumbers_114 8 rfl ?_
              refine g_aload_n X dX3_readNumbers_116 rfl 3 rfl ?_
              refine g_iload X dX3_readNumbers_117 7 rfl ?_
              refine g_sald (v := (slX 7).getD (k).toNat 0) X 7 (by decide) (by omega) (by show _ < (3 : Int); omega) (by rfl) (by decide) dX3_readNumbers_119 ?_
              refine g_icmp_lt (tgt := 132) X dX3_readNumbers_120 (by decide) (by unfold InR; omega) (by unfold InR; omega) (fun c_120 => ?_) (fun c_120 => ?_)
              · skip
                refine g_lv (lv' := [(0, .ref (gAd G 1))]) [1] rfl ?_
                exact J_132 0 (by
                    first
                    | (rw [e11, e10] at c_111; exact fun h => c_111 h.1)
                    | (intro h; unfold loX at h; omega))
              · skip
                refine g_iload X dX3_readNumbers_123 8 rfl ?_
                refine g_aload_n X dX3_readNumbers_125 rfl 4 rfl ?_
                refine g_iload X dX3_readNumbers_126 7 rfl ?_
                refine g_sald (v := (slX 8).getD (k).toNat 0) X 8 (by decide) (by omega) (by show _ < (3 : Int); omega) (by rfl) (by decide) dX3_readNumbers_128 ?_
                refine g_icmp_le (tgt := 135) X dX3_readNumbers_129 (by decide) (by unfold InR; omega) (by unfold InR; omega) (fun c_129 => ?_) (fun c_129 => ?_)
                · skip
                  refine g_aload_n X dX3_readNumbers_135 rfl 1 rfl ?_
                  refine g_geta X ck_X3 (fx1 F) 2 (by decide) fl_X3_19 rfl dX3_readNumbers_136 ?_
                  refine g_iload X dX3_readNumbers_139 7 rfl ?_
                  refine g_iload X dX3_readNumbers_141 8 rfl ?_
                  refine h_iast (a := k) (j := (k).toNat) X rfl (fx1 F) (by decide) (show fkX 3 2 = (1, 6) from rfl) (by decide) (by omega) (by omega) dX3_readNumbers_143 ?_
                  obtain ⟨w_1, ew_1⟩ : ∃ q_ : Wd, q_ = up w1 1 2 (k).toNat num := ⟨_, rfl⟩
                  refine g_w (w' := w_1) ew_1 ?_
                  refine g_iinc (j := 5) (lv' := [(4, .int (iI (e + 1))), (8, .int (iI sep)), (0, .ref (gAd G 1)), (1, .int (iI start)), (2, .ref (gSa G 7)), (3, .ref (gSa G 8)), (5, .int (iI 3)), (6, .int (iI k)), (7, .int (iI num))]) X dX3_readNumbers_144 rfl (by decide) rfl ?_
                  refine g_iinc (j := 7) (lv' := [(6, .int (iI (k + 1))), (4, .int (iI (e + 1))), (8, .int (iI sep)), (0, .ref (gAd G 1)), (1, .int (iI start)), (2, .ref (gSa G 7)), (3, .ref (gSa G 8)), (5, .int (iI 3)), (7, .int (iI num))]) X dX3_readNumbers_147 rfl (by decide) rfl ?_
                  refine g_goto (tgt := 23) X dX3_readNumbers_150 (by decide) ?_
                  refine g_lv (lv' := [(0, .ref (gAd G 1)), (1, .int (iI start)), (2, .ref (gSa G 7)), (3, .ref (gSa G 8)), (4, .int (iI (e + 1))), (5, .int (iI 3)), (6, .int (iI (k + 1)))]) [3, 4, 5, 6, 1, 7, 0] rfl ?_
                  exact ih_23 (e + 1) (k + 1) w_1 ⟨(by first | omega | rfl | assumption), (by first | omega | rfl | assumption), (by
                      rw [show (k + 1).toNat = k.toNat + 1 by omega, rqX_s, ← ha, if_neg (by omega), ← he, ← hnum, ← hsep]
                      rw [e11, e10] at c_111
                      rw [if_pos ⟨hfig, by omega, by unfold loX; omega, by unfold loX; omega⟩]), (by first | omega | rfl | assumption), (by intro o2 f j h; rw [ew_1, up_ne (fun z => h ⟨z.1, z.2.1⟩)]; exact hfr o2 f j h), (by intro j hj; rw [ew_1]; unfold up; split; (rw [hnum]; exact hni); exact hn1 j hj), (by
                      intro j hj
                      rw [ew_1]
                      rcases Int.lt_or_le (j : Int) k with q | q
                      · rw [up_ne (by omega)]; exact hv j q
                      · have e : j = k.toNat := by omega
                        rw [e, up_at, hnum, ha])⟩ (by omega)
                · skip
                  refine g_lv (lv' := [(0, .ref (gAd G 1))]) [1] rfl ?_
                  exact J_132 0 (by
                      first
                      | (rw [e11, e10] at c_111; exact fun h => c_111 h.1)
                      | (intro h; unfold loX at h; omega))
        · intro J_101
          try dsimp only at J_101
          refine g_iload X dX3_readNumbers_87 5 rfl ?_
          refine g_iconst X dX3_readNumbers_89 ?_
          refine g_isub X dX3_readNumbers_90 ?_
          refine g_icmp_ge (tgt := 99) X dX3_readNumbers_91 (by decide) (by unfold InR; omega) (by unfold InR; omega) (fun c_91 => ?_) (fun c_91 => ?_)
          · skip
            refine g_bipush X dX3_readNumbers_99 (by decide) ?_
            refine g_lv (lv' := [(0, .ref (gAd G 1)), (1, .int (iI start)), (2, .ref (gSa G 7)), (3, .ref (gSa G 8)), (4, .int (iI e)), (5, .int (iI 3)), (6, .int (iI k)), (7, .int (iI num))]) [0, 1, 2, 3, 4, 5, 6, 7] rfl ?_
            exact J_101 59 (by unfold sepX; first | rw [if_pos (by omega)] | rw [if_neg (by omega)])
          · skip
            refine g_bipush X dX3_readNumbers_94 (by decide) ?_
            refine g_goto (tgt := 101) X dX3_readNumbers_96 (by decide) ?_
            refine g_lv (lv' := [(0, .ref (gAd G 1)), (1, .int (iI start)), (2, .ref (gSa G 7)), (3, .ref (gSa G 8)), (4, .int (iI e)), (5, .int (iI 3)), (6, .int (iI k)), (7, .int (iI num))]) [0, 1, 2, 3, 4, 5, 6, 7] rfl ?_
            exact J_101 44 (by unfold sepX; first | rw [if_pos (by omega)] | rw [if_neg (by omega)])
      · intro J_85
        try dsimp only at J_85
        refine g_iload X dX3_readNumbers_43 4 rfl ?_
        refine g_calli (st := []) X (c_X3_letterAt l G at_ w1 F (by rw [e10]; exact hL) (by rw [e11]; exact hT) (by first | assumption | omega | (unfold InR; omega))) cm_X3_letterAt im_X3_letterAt se_X3_letterAt ml_X3_39 ck_X3 (fx1 F) ⟨Nat.le_of_ble_eq_true rfl, Nat.le_of_ble_eq_true rfl⟩ rfl rfl (Nat.le_of_ble_eq_true rfl) dX3_readNumbers_45 (fn_i ?_)
        refine g_bipush X dX3_readNumbers_48 (by decide) ?_
        refine g_isub X dX3_readNumbers_50 ?_
        refine g_istore (lv' := [(7, .int (iI ((ltX (w1 1 1) (w1 1 0 0) at_) - 48))), (0, .ref (gAd G 1)), (1, .int (iI start)), (2, .ref (gSa G 7)), (3, .ref (gSa G 8)), (4, .int (iI at_)), (5, .int (iI 3)), (6, .int (iI k))]) X dX3_readNumbers_51 (by decide) rfl ?_
        skip
        refine g_iinc (j := 5) (lv' := [(4, .int (iI (at_ + 1))), (7, .int (iI ((ltX (w1 1 1) (w1 1 0 0) at_) - 48))), (0, .ref (gAd G 1)), (1, .int (iI start)), (2, .ref (gSa G 7)), (3, .ref (gSa G 8)), (5, .int (iI 3)), (6, .int (iI k))]) X dX3_readNumbers_53 rfl (by decide) rfl ?_
        refine g_aload_n X dX3_readNumbers_56 rfl 2 rfl ?_
        refine g_iload X dX3_readNumbers_57 0 rfl ?_
        refine g_calli (st := []) X (c_X3_isFigure l G (at_ + 1) w1 F (by rw [e10]; exact hL) (by rw [e11]; exact hT) (by first | assumption | omega | (unfold InR; omega))) cm_X3_isFigure im_X3_isFigure se_X3_isFigure ml_X3_68 ck_X3 (fx1 F) ⟨Nat.le_of_ble_eq_true rfl, Nat.le_of_ble_eq_true rfl⟩ rfl rfl (Nat.le_of_ble_eq_true rfl) dX3_readNumbers_59 (fn_i ?_)
        refine g_if_eq (tgt := 85) X dX3_readNumbers_62 (by decide) (by exact in01) (fun c_62 => ?_) (fun c_62 => ?_)
        · skip
          refine g_lv (lv' := [(0, .ref (gAd G 1)), (1, .int (iI start)), (2, .ref (gSa G 7)), (3, .ref (gSa G 8)), (4, .int (iI (at_ + 1))), (5, .int (iI 3)), (6, .int (iI k)), (7, .int (iI ((ltX (w1 1 1) (w1 1 0 0) at_) - 48)))]) [2, 3, 4, 5, 0, 6, 7, 1] rfl ?_
          exact J_85 ((ltX (w1 1 1) (w1 1 0 0) at_) - 48) (at_ + 1) ⟨(by
              unfold nvX
              rw [e11, e10] at c_62
              first
              | rw [if_neg (of_zero c_62), e11, e10]
              | rw [if_pos (of_one c_62), e11, e10]), (by
              unfold neX
              rw [e11, e10] at c_62
              first
              | rw [if_neg (of_zero c_62)]
              | (rw [if_pos (of_one c_62)]; omega))⟩
        · skip
          refine g_iload X dX3_readNumbers_65 1 rfl ?_
          refine g_bipush X dX3_readNumbers_67 (by decide) ?_
          refine g_imul X dX3_readNumbers_69 ?_
          refine g_aload_n X dX3_readNumbers_70 rfl 2 rfl ?_
          refine g_iload X dX3_readNumbers_71 0 rfl ?_
          refine g_calli (st := [.int (iI (((ltX (w1 1 1) (w1 1 0 0) at_) - 48) * 10))]) X (c_X3_letterAt l G (at_ + 1) w1 F (by rw [e10]; exact hL) (by rw [e11]; exact hT) (by first | assumption | omega | (unfold InR; omega))) cm_X3_letterAt im_X3_letterAt se_X3_letterAt ml_X3_39 ck_X3 (fx1 F) ⟨Nat.le_of_ble_eq_true rfl, Nat.le_of_ble_eq_true rfl⟩ rfl rfl (Nat.le_of_ble_eq_true rfl) dX3_readNumbers_73 (fn_i ?_)
          refine g_iadd X dX3_readNumbers_76 ?_
          refine g_bipush X dX3_readNumbers_77 (by decide) ?_
          refine g_isub X dX3_readNumbers_79 ?_
          refine g_istore (lv' := [(7, .int (iI (((((ltX (w1 1 1) (w1 1 0 0) at_) - 48) * 10) + (ltX (w1 1 1) (w1 1 0 0) (at_ + 1))) - 48))), (4, .int (iI (at_ + 1))), (0, .ref (gAd G 1)), (1, .int (iI start)), (2, .ref (gSa G 7)), (3, .ref (gSa G 8)), (5, .int (iI 3)), (6, .int (iI k))]) X dX3_readNumbers_80 (by decide) rfl ?_
          refine g_iinc (j := 1) (lv' := [(4, .int (iI (at_ + 1 + 1))), (7, .int (iI (((((ltX (w1 1 1) (w1 1 0 0) at_) - 48) * 10) + (ltX (w1 1 1) (w1 1 0 0) (at_ + 1))) - 48))), (0, .ref (gAd G 1)), (1, .int (iI start)), (2, .ref (gSa G 7)), (3, .ref (gSa G 8)), (5, .int (iI 3)), (6, .int (iI k))]) X dX3_readNumbers_82 rfl (by decide) rfl ?_
          refine g_lv (lv' := [(0, .ref (gAd G 1)), (1, .int (iI start)), (2, .ref (gSa G 7)), (3, .ref (gSa G 8)), (4, .int (iI (at_ + 1 + 1))), (5, .int (iI 3)), (6, .int (iI k)), (7, .int (iI (((((ltX (w1 1 1) (w1 1 0 0) at_) - 48) * 10) + (ltX (w1 1 1) (w1 1 0 0) (at_ + 1))) - 48)))]) [2, 3, 4, 5, 0, 6, 7, 1] rfl ?_
          exact J_85 (((((ltX (w1 1 1) (w1 1 0 0) at_) - 48) * 10) + (ltX (w1 1 1) (w1 1 0 0) (at_ + 1))) - 48) (at_ + 1 + 1) ⟨(by
              unfold nvX
              rw [e11, e10] at c_62
              first
              | rw [if_neg (of_zero c_62), e11, e10]
              | rw [if_pos (of_one c_62), e11, e10]), (by
              unfold neX
              rw [e11, e10] at c_62
              first
              | rw [if_neg (of_zero c_62)]
              | (rw [if_pos (of_one c_62)]; omega))⟩
    · skip
      refine g_bipush X dX3_readNumbers_39 (by decide) ?_
      exact g_iret X rfl rfl dX3_readNumbers_41 (by
          rw [e11, e10] at c_36
          have hnf := of_zero (Classical.not_not.mp c_36)
          have hz : rqX (w 1 1) (w 1 0 0) 3 (loX 7) (loX 8) start (k.toNat + 1) = -4 := by
            rw [rqX_s, ← ha]
            split
            · rfl
            · rw [if_neg (fun h => hnf h.1)]
          have hz2 := rqX_dead (k.toNat + 1) hz (3 - (k.toNat + 1))
          rw [show k.toNat + 1 + (3 - (k.toNat + 1)) = 3 by omega] at hz2
          exact ⟨hz2.symm, hfr, hn1, fun h => absurd rfl h⟩)
