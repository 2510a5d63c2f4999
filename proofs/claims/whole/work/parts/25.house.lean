theorem up_o {w : Wd} {o f j o2 : Nat} {v : Int} (h : o2 ≠ o) : up w o f j v o2 = w o2 := by
  rw [up_setO, setO_ne h]
theorem cntC_in (t : Nat → Int) : ∀ k : Nat, 0 ≤ cntC t k ∧ cntC t k ≤ k
  | 0 => ⟨Int.le_refl _, Int.le_refl _⟩
  | k + 1 => by
    have := cntC_in t k
    unfold cntC
    split <;> omega
theorem sp_5 (u : Nat → Nat → Int) (m : Int) : spX u m 5 0 = u 5 0 := by
  unfold spX
  split
  · simp [fu]
  · rfl
theorem sp_10 (u : Nat → Nat → Int) (m : Int) (j : Nat) : spX u m 10 j = u 10 j := by
  unfold spX
  split
  · simp [fu]
  · rfl
theorem tk_5 (u : Nat → Nat → Int) (m : Int) : tkX u m 5 0 = u 5 0 := by
  unfold tkX
  simp [fu, fuA]
set_option maxHeartbeats 4000000 in
set_option maxRecDepth 100000 in
theorem c_X7_isMachine (l : Launch) (G : Ly) (m : Int) (w : Wd) (F : FX G) (hr : InR m) (hn : 1 ≤ w 2 0 0 ∧ w 2 0 0 ≤ 6) : Mi l yX7_isMachine cX7_isMachine 2 (some .boolean) 0 0 G [.ref (gAd G 0), .int (iI m)] w (fun z w2 => z = (if 0 ≤ m ∧ m < w 2 0 0 then 1 else 0) ∧ w2 = w) := by
  refine mi_of (lv := [(0, .ref (gAd G 0)), (1, .int (iI m))]) (by decide) (Nat.le_of_ble_eq_true rfl) rfl ?_
  intro p_ e_ s_ m_ b_ h_ c_ X
  refine g_iload_n X dX7_isMachine_0 rfl 1 rfl ?_
  refine g_if_lt (tgt := 19) X dX7_isMachine_1 (by decide) (by exact hr) (fun c_1 => ?_) (fun c_1 => ?_)
  · skip
    refine g_iconst X dX7_isMachine_19 ?_
    exact g_iret X rfl (by decide) dX7_isMachine_20 (by first | exact ⟨by rw [if_pos ⟨by omega, by omega⟩], rfl⟩ | exact ⟨by rw [if_neg (by omega)], rfl⟩)
  · skip
    refine g_iload_n X dX7_isMachine_4 rfl 1 rfl ?_
    refine g_aload_n X dX7_isMachine_5 rfl 0 rfl ?_
    refine g_geto (o' := 2) X ck_X7 (fx0 F) 1 (by decide) fl_X7_19 rfl (fl0_1 F) dX7_isMachine_6 ?_
    refine g_geti X ck_X2 (fx2 F) 0 (by decide) fl_X7_105 (Or.inl rfl) dX7_isMachine_9 ?_
    refine g_icmp_ge (tgt := 19) X dX7_isMachine_12 (by decide) (by exact hr) (by unfold InR; omega) (fun c_12 => ?_) (fun c_12 => ?_)
    · skip
      refine g_iconst X dX7_isMachine_19 ?_
      exact g_iret X rfl (by decide) dX7_isMachine_20 (by first | exact ⟨by rw [if_pos ⟨by omega, by omega⟩], rfl⟩ | exact ⟨by rw [if_neg (by omega)], rfl⟩)
    · skip
      refine g_iconst X dX7_isMachine_15 ?_
      refine g_goto (tgt := 20) X dX7_isMachine_16 (by decide) ?_
      exact g_iret X rfl (by decide) dX7_isMachine_20 (by first | exact ⟨by rw [if_pos ⟨by omega, by omega⟩], rfl⟩ | exact ⟨by rw [if_neg (by omega)], rfl⟩)
set_option maxHeartbeats 4000000 in
set_option maxRecDepth 100000 in
theorem c_X7_isLoad (l : Launch) (G : Ly) (load : Int) (w : Wd) (hr : InR load) : Mi l yX7_isLoad cX7_isLoad 1 (some .boolean) 0 0 G [.int (iI load)] w (fun z w2 => z = (if 0 ≤ load ∧ load ≤ 480 then 1 else 0) ∧ w2 = w) := by
  refine mi_of (lv := [(0, .int (iI load))]) (by decide) (Nat.le_of_ble_eq_true rfl) rfl ?_
  intro p_ e_ s_ m_ b_ h_ c_ X
  refine g_iload_n X dX7_isLoad_0 rfl 0 rfl ?_
  refine g_if_lt (tgt := 15) X dX7_isLoad_1 (by decide) (by exact hr) (fun c_1 => ?_) (fun c_1 => ?_)
  · skip
    refine g_iconst X dX7_isLoad_15 ?_
    exact g_iret X rfl (by decide) dX7_isLoad_16 (by first | exact ⟨by rw [if_pos ⟨by omega, by omega⟩], rfl⟩ | exact ⟨by rw [if_neg (by omega)], rfl⟩)
  · skip
    refine g_iload_n X dX7_isLoad_4 rfl 0 rfl ?_
    refine g_sipush X dX7_isLoad_5 (by decide) ?_
    refine g_icmp_gt (tgt := 15) X dX7_isLoad_8 (by decide) (by exact hr) ⟨by decide, by decide⟩ (fun c_8 => ?_) (fun c_8 => ?_)
    · skip
      refine g_iconst X dX7_isLoad_15 ?_
      exact g_iret X rfl (by decide) dX7_isLoad_16 (by first | exact ⟨by rw [if_pos ⟨by omega, by omega⟩], rfl⟩ | exact ⟨by rw [if_neg (by omega)], rfl⟩)
    · skip
      refine g_iconst X dX7_isLoad_11 ?_
      refine g_goto (tgt := 16) X dX7_isLoad_12 (by decide) ?_
      exact g_iret X rfl (by decide) dX7_isLoad_16 (by first | exact ⟨by rw [if_pos ⟨by omega, by omega⟩], rfl⟩ | exact ⟨by rw [if_neg (by omega)], rfl⟩)
set_option maxHeartbeats 4000000 in
set_option maxRecDepth 100000 in
theorem c_X7_write (l : Launch) (G : Ly) (c : Int) (w : Wd) (F : FX G) (hX : XI w) (hr_c : InR c) : Mi l yX7_write cX7_write 2 (some .int) 1 21 G [.ref (gAd G 0), .int (iI c)] w (fun z w2 => ((c < 32 ∨ 126 < c) ∧ z = -1 ∧ w2 = w) ∨ (32 ≤ c ∧ c ≤ 126 ∧ w 1 0 0 = 200 ∧ z = -3 ∧ w2 = w) ∨ (32 ≤ c ∧ c ≤ 126 ∧ w 1 0 0 < 200 ∧ z = w 1 0 0 + 1 ∧ w2 = up (up w 1 1 (w 1 0 0).toNat c) 1 0 0 (w 1 0 0 + 1))) := by
  refine mi_of (lv := [(0, .ref (gAd G 0)), (1, .int (iI c))]) (by decide) (Nat.le_of_ble_eq_true rfl) rfl ?_
  intro p_ e_ s_ m_ b_ h_ c_ X
  obtain ⟨hp, hS, htk, hcl, ⟨hnx, hhd⟩, ⟨hC1, hC2, hC3⟩, ⟨hL, hT, hN⟩⟩ := id hX
  have hp0 := hp.1
  have sT := hS.1
  have sB := hS.2.1
  have sC := hS.2.2.1
  have sD := hS.2.2.2.1
  have sE := hS.2.2.2.2.1
  have sF := hS.2.2.2.2.2.1
  have hrun := bt_or (s := w 3 6 0) (t := w 3 7 0) (by omega) (by omega) (by omega) (by omega)
  have hopn := open_in hp sC.1
  refine g_iload_n X dX7_write_0 rfl 1 rfl ?_
  refine g_bipush X dX7_write_1 (by decide) ?_
  refine g_icmp_lt (tgt := 12) X dX7_write_3 (by decide) (by exact hr_c) ⟨by decide, by decide⟩ (fun c_3 => ?_) (fun c_3 => ?_)
  · skip
    refine g_iconst X dX7_write_12 ?_
    exact g_iret X rfl rfl dX7_write_13 (by exact Or.inl ⟨by omega, rfl, rfl⟩)
  · skip
    refine g_iload_n X dX7_write_6 rfl 1 rfl ?_
    refine g_bipush X dX7_write_7 (by decide) ?_
    refine g_icmp_le (tgt := 14) X dX7_write_9 (by decide) (by exact hr_c) ⟨by decide, by decide⟩ (fun c_9 => ?_) (fun c_9 => ?_)
    · skip
      refine g_aload_n X dX7_write_14 rfl 0 rfl ?_
      refine g_geto (o' := 1) X ck_X7 (fx0 F) 0 (by decide) fl_X7_10 rfl (fl0_0 F) dX7_write_15 ?_
      refine g_iload_n X dX7_write_18 rfl 1 rfl ?_
      refine g_i2c X dX7_write_19 ?_
      rw [show (j2c c : Int) = c from (j2c_eq (by omega) (by omega))]
      refine g_calli (st := []) X (c_X3_add l G c w F (by first | assumption | omega | (unfold InR; omega)) (by first | assumption | omega | (unfold InR; omega))) cm_X3_add im_X3_add se_X3_add ml_X7_75 ck_X3 (fx1 F) ⟨Nat.le_of_ble_eq_true rfl, Nat.le_of_ble_eq_true rfl⟩ rfl rfl (Nat.le_of_ble_eq_true rfl) dX7_write_20 ?_
      rintro z_20 u_20 h_20
      refine g_if_eq (tgt := 36) X dX7_write_23 (by decide) (by rcases h_20 with h | h <;> rw [h.1] <;> exact ⟨by decide, by decide⟩) (fun c_23 => ?_) (fun c_23 => ?_)
      · skip
        refine g_bipush X dX7_write_36 (by decide) ?_
        exact g_iret X rfl rfl dX7_write_38 (by
            rcases h_20 with ⟨h1, h2, h3⟩ | ⟨h1, h2, h3⟩
            · first
              | exact absurd h1 c_23
              | exact Or.inr (Or.inl ⟨by omega, by omega, h2, rfl, h3⟩)
            · first
              | exact absurd (h1.symm.trans c_23) (by decide)
              | exact Or.inr (Or.inr ⟨by omega, by omega, h2, by rw [h3, up_at], h3⟩))
      · skip
        refine g_aload_n X dX7_write_26 rfl 0 rfl ?_
        refine g_geto (o' := 1) X ck_X7 (fx0 F) 0 (by decide) fl_X7_10 rfl (fl0_0 F) dX7_write_27 ?_
        refine g_geti X ck_X3 (fx1 F) 0 (by decide) fl_X7_85 (Or.inl rfl) dX7_write_30 ?_
        refine g_goto (tgt := 38) X dX7_write_33 (by decide) ?_
        exact g_iret X rfl rfl dX7_write_38 (by
            rcases h_20 with ⟨h1, h2, h3⟩ | ⟨h1, h2, h3⟩
            · first
              | exact absurd h1 c_23
              | exact Or.inr (Or.inl ⟨by omega, by omega, h2, rfl, h3⟩)
            · first
              | exact absurd (h1.symm.trans c_23) (by decide)
              | exact Or.inr (Or.inr ⟨by omega, by omega, h2, by rw [h3, up_at], h3⟩))
    · skip
      refine g_iconst X dX7_write_12 ?_
      exact g_iret X rfl rfl dX7_write_13 (by exact Or.inl ⟨by omega, rfl, rfl⟩)
set_option maxHeartbeats 4000000 in
set_option maxRecDepth 100000 in
theorem c_X7_wipe (l : Launch) (G : Ly)  (w : Wd) (F : FX G) (hX : XI w) : Mi l yX7_wipe cX7_wipe 2 (some .int) 1 20 G [.ref (gAd G 0)] w (fun z w2 => z = (w 1 0 0) ∧ w2 = up w 1 0 0 0) := by
  refine mi_of (lv := [(0, .ref (gAd G 0))]) (by decide) (Nat.le_of_ble_eq_true rfl) rfl ?_
  intro p_ e_ s_ m_ b_ h_ c_ X
  obtain ⟨hp, hS, htk, hcl, ⟨hnx, hhd⟩, ⟨hC1, hC2, hC3⟩, ⟨hL, hT, hN⟩⟩ := id hX
  have hp0 := hp.1
  have sT := hS.1
  have sB := hS.2.1
  have sC := hS.2.2.1
  have sD := hS.2.2.2.1
  have sE := hS.2.2.2.2.1
  have sF := hS.2.2.2.2.2.1
  have hrun := bt_or (s := w 3 6 0) (t := w 3 7 0) (by omega) (by omega) (by omega) (by omega)
  have hopn := open_in hp sC.1
  refine g_aload_n X dX7_wipe_0 rfl 0 rfl ?_
  refine g_geto (o' := 1) X ck_X7 (fx0 F) 0 (by decide) fl_X7_10 rfl (fl0_0 F) dX7_wipe_1 ?_
  refine g_geti X ck_X3 (fx1 F) 0 (by decide) fl_X7_85 (Or.inl rfl) dX7_wipe_4 ?_
  refine g_istore_n (lv' := [(1, .int (iI (w 1 0 0))), (0, .ref (gAd G 0))]) X dX7_wipe_7 rfl (by decide) rfl ?_
  refine g_aload_n X dX7_wipe_8 rfl 1 rfl ?_
  refine g_geto (o' := 1) X ck_X7 (fx0 F) 0 (by decide) fl_X7_10 rfl (fl0_0 F) dX7_wipe_9 ?_
  refine g_callv (st := []) X (c_X3_empty l G  w F) cm_X3_empty im_X3_empty se_X3_empty ml_X7_82 ck_X3 (fx1 F) ⟨Nat.le_of_ble_eq_true rfl, Nat.le_of_ble_eq_true rfl⟩ rfl rfl (Nat.le_of_ble_eq_true rfl) dX7_wipe_12 (fn_v ?_)
  obtain ⟨w_1, ew_1⟩ : ∃ q_ : Wd, q_ = up w 1 0 0 0 := ⟨_, rfl⟩
  refine g_w (w' := w_1) ew_1 ?_
  refine g_iload_n X dX7_wipe_15 rfl 0 rfl ?_
  exact g_iret X rfl rfl dX7_wipe_16 (by exact ⟨rfl, ew_1⟩)
set_option maxHeartbeats 4000000 in
set_option maxRecDepth 100000 in
theorem c_X7_fault (l : Launch) (G : Ly)  (w : Wd) (F : FX G) (hX : XI w) : Mi l yX7_fault cX7_fault 1 (some .int) 5 118 G [.ref (gAd G 0)] w (fun z w2 => z = (scX (w 1 1) (w 1 0 0) 200).2.2 ∧ (∀ o2 f j, ¬ (o2 = 1 ∧ f = 2) → w2 o2 f j = w o2 f j) ∧ (∀ j : Nat, j < 6 → 0 ≤ w2 1 2 j ∧ w2 1 2 j ≤ 99)) := by
  refine mi_of (lv := [(0, .ref (gAd G 0))]) (by decide) (Nat.le_of_ble_eq_true rfl) rfl ?_
  intro p_ e_ s_ m_ b_ h_ c_ X
  obtain ⟨hp, hS, htk, hcl, ⟨hnx, hhd⟩, ⟨hC1, hC2, hC3⟩, ⟨hL, hT, hN⟩⟩ := id hX
  have hp0 := hp.1
  have sT := hS.1
  have sB := hS.2.1
  have sC := hS.2.2.1
  have sD := hS.2.2.2.1
  have sE := hS.2.2.2.2.1
  have sF := hS.2.2.2.2.2.1
  have hrun := bt_or (s := w 3 6 0) (t := w 3 7 0) (by omega) (by omega) (by omega) (by omega)
  have hopn := open_in hp sC.1
  refine g_aload_n X dX7_fault_0 rfl 0 rfl ?_
  refine g_geto (o' := 1) X ck_X7 (fx0 F) 0 (by decide) fl_X7_10 rfl (fl0_0 F) dX7_fault_1 ?_
  refine g_calli (st := []) X (c_X3_firstFault l G  w F (by first | assumption | omega | (unfold InR; omega)) (by first | assumption | omega | (unfold InR; omega)) (by first | assumption | omega | (unfold InR; omega))) cm_X3_firstFault im_X3_firstFault se_X3_firstFault ml_X7_88 ck_X3 (fx1 F) ⟨Nat.le_of_ble_eq_true rfl, Nat.le_of_ble_eq_true rfl⟩ rfl rfl (Nat.le_of_ble_eq_true rfl) dX7_fault_4 ?_
  rintro z_4 u_4 h_4
  exact g_iret X rfl rfl dX7_fault_7 (by exact h_4)
set_option maxHeartbeats 4000000 in
set_option maxRecDepth 100000 in
theorem c_X7_lay (l : Launch) (G : Ly)  (w : Wd) (F : FX G) (hX : XI w) : Mi l yX7_lay cX7_lay 1 (some .int) 5 118 G [.ref (gAd G 0)] w (fun z w2 => (((scX (w 1 1) (w 1 0 0) 200).2.2 ≠ -4 ∨ cntC (w 1 1) (w 1 0 0).toNat = 0) ∧ z = -2 ∧ (∀ o2 f j, ¬ (o2 = 1 ∧ f = 2) → w2 o2 f j = w o2 f j) ∧ (∀ j : Nat, j < 6 → 0 ≤ w2 1 2 j ∧ w2 1 2 j ≤ 99)) ∨ ((scX (w 1 1) (w 1 0 0) 200).2.2 = -4 ∧ cntC (w 1 1) (w 1 0 0).toNat ≠ 0 ∧ w2 2 = plX (w 1 1) (w 1 0 0) (w 2) 200 ∧ z = w2 2 0 0 ∧ ResX (w2 3) ∧ (∀ j, w2 3 13 j = w 3 13 j) ∧ w2 9 0 0 = 0 ∧ w2 9 1 0 = w 9 1 0 ∧ w2 11 3 0 = 0 ∧ w2 12 3 0 = 0 ∧ w2 13 3 0 = 0 ∧ w2 1 0 = w 1 0 ∧ w2 1 1 = w 1 1 ∧ (∀ j : Nat, j < 6 → 0 ≤ w2 1 2 j ∧ w2 1 2 j ≤ 99))) := by
  refine mi_of (lv := [(0, .ref (gAd G 0))]) (by decide) (Nat.le_of_ble_eq_true rfl) rfl ?_
  intro p_ e_ s_ m_ b_ h_ c_ X
  obtain ⟨hp, hS, htk, hcl, ⟨hnx, hhd⟩, ⟨hC1, hC2, hC3⟩, ⟨hL, hT, hN⟩⟩ := id hX
  have hp0 := hp.1
  have sT := hS.1
  have sB := hS.2.1
  have sC := hS.2.2.1
  have sD := hS.2.2.2.1
  have sE := hS.2.2.2.2.1
  have sF := hS.2.2.2.2.2.1
  have hrun := bt_or (s := w 3 6 0) (t := w 3 7 0) (by omega) (by omega) (by omega) (by omega)
  have hopn := open_in hp sC.1
  refine g_aload_n X dX7_lay_0 rfl 0 rfl ?_
  refine g_geto (o' := 1) X ck_X7 (fx0 F) 0 (by decide) fl_X7_10 rfl (fl0_0 F) dX7_lay_1 ?_
  refine g_calli (st := []) X (c_X3_firstFault l G  w F (by first | assumption | omega | (unfold InR; omega)) (by first | assumption | omega | (unfold InR; omega)) (by first | assumption | omega | (unfold InR; omega))) cm_X3_firstFault im_X3_firstFault se_X3_firstFault ml_X7_88 ck_X3 (fx1 F) ⟨Nat.le_of_ble_eq_true rfl, Nat.le_of_ble_eq_true rfl⟩ rfl rfl (Nat.le_of_ble_eq_true rfl) dX7_lay_4 ?_
  rintro z_4 u_4 ⟨hz, hfr, hn1⟩
  have hsc := scX_in (t := w 1 1) hL.1 200
  rw [← hz] at hsc
  have e11 : u_4 1 1 = w 1 1 := by funext j; exact hfr 1 1 j (by decide)
  have e10 : u_4 1 0 = w 1 0 := by funext j; exact hfr 1 0 j (by decide)
  have e2 : u_4 2 = w 2 := by funext f j; exact hfr 2 f j (fun z => absurd z.1 (by decide))
  have e3 : u_4 3 = w 3 := by funext f j; exact hfr 3 f j (fun z => absurd z.1 (by decide))
  have e9 : u_4 9 = w 9 := by funext f j; exact hfr 9 f j (fun z => absurd z.1 (by decide))
  have hcc : 0 ≤ cntC (w 1 1) (w 1 0 0).toNat ∧ cntC (w 1 1) (w 1 0 0).toNat ≤ (w 1 0 0).toNat := cntC_in _ _
  refine g_bipush X dX7_lay_7 (by decide) ?_
  refine g_icmp_ne (tgt := 22) X dX7_lay_9 (by decide) (by unfold InR; omega) ⟨by decide, by decide⟩ (fun c_9 => ?_) (fun c_9 => ?_)
  · skip
    refine g_bipush X dX7_lay_22 (by decide) ?_
    exact g_iret X rfl rfl dX7_lay_24 (by refine Or.inl ⟨?_, rfl, hfr, hn1⟩; first | exact Or.inl (by omega) | (rw [e11, e10] at c_19; exact Or.inr (by omega)))
  · skip
    refine g_aload_n X dX7_lay_12 rfl 0 rfl ?_
    refine g_geto (o' := 1) X ck_X7 (fx0 F) 0 (by decide) fl_X7_10 rfl (fl0_0 F) dX7_lay_13 ?_
    refine g_calli (st := []) X (c_X3_machines l G  u_4 F (by rw [e10]; exact hL) (by rw [e11]; exact hT)) cm_X3_machines im_X3_machines se_X3_machines ml_X7_91 ck_X3 (fx1 F) ⟨Nat.le_of_ble_eq_true rfl, Nat.le_of_ble_eq_true rfl⟩ rfl rfl (Nat.le_of_ble_eq_true rfl) dX7_lay_16 (fn_i ?_)
    refine g_if_ne (tgt := 25) X dX7_lay_19 (by decide) (by rw [e11, e10]; unfold InR; omega) (fun c_19 => ?_) (fun c_19 => ?_)
    · skip
      refine g_aload_n X dX7_lay_25 rfl 0 rfl ?_
      refine g_geto (o' := 1) X ck_X7 (fx0 F) 0 (by decide) fl_X7_10 rfl (fl0_0 F) dX7_lay_26 ?_
      refine g_aload_n X dX7_lay_29 rfl 0 rfl ?_
      refine g_geto (o' := 2) X ck_X7 (fx0 F) 1 (by decide) fl_X7_19 rfl (fl0_1 F) dX7_lay_30 ?_
      refine g_callv (st := []) X (c_X3_layInto l G  u_4 F (by rw [e10]; exact hL) (by rw [e11]; exact hT) (by exact hn1) (by rw [e11, e10]; omega)) cm_X3_layInto im_X3_layInto se_X3_layInto ml_X7_79 ck_X3 (fx1 F) ⟨Nat.le_of_ble_eq_true rfl, Nat.le_of_ble_eq_true rfl⟩ rfl rfl (Nat.le_of_ble_eq_true rfl) dX7_lay_33 ?_
      rintro u_33 ⟨gpl, gfr, gn⟩
      refine g_aload_n X dX7_lay_36 rfl 0 rfl ?_
      refine g_geto (o' := 3) X ck_X7 (fx0 F) 2 (by decide) fl_X7_26 rfl (fl0_2 F) dX7_lay_37 ?_
      refine g_callv (st := []) X (c_X6_reset l G 3 u_33 (fx3 F)) cm_X6_reset im_X6_reset se_X6_reset ml_X7_94 ck_X6 (fx3 F) ⟨Nat.le_of_ble_eq_true rfl, Nat.le_of_ble_eq_true rfl⟩ rfl rfl (Nat.le_of_ble_eq_true rfl) dX7_lay_40 ?_
      rintro u_40 ⟨rfr, rres, r13⟩
      refine g_aload_n X dX7_lay_43 rfl 0 rfl ?_
      refine g_geto (o' := 9) X ck_X7 (fx0 F) 4 (by decide) fl_X7_36 rfl (fl0_4 F) dX7_lay_44 ?_
      refine g_callv (st := []) X (c_X1_forget l G  u_40 F) cm_X1_forget im_X1_forget se_X1_forget ml_X7_97 ck_X1 (fx9 F) ⟨Nat.le_of_ble_eq_true rfl, Nat.le_of_ble_eq_true rfl⟩ rfl rfl (Nat.le_of_ble_eq_true rfl) dX7_lay_47 (fn_v ?_)
      obtain ⟨w_1, ew_1⟩ : ∃ q_ : Wd, q_ = up u_40 9 0 0 0 := ⟨_, rfl⟩
      refine g_w (w' := w_1) ew_1 ?_
      refine g_aload_n X dX7_lay_50 rfl 0 rfl ?_
      refine g_geto (o' := 10) X ck_X7 (fx0 F) 5 (by decide) fl_X7_45 rfl (fl0_5 F) dX7_lay_51 ?_
      refine g_geto (o' := 11) X ck_X5 (fx10 F) 0 (by decide) fl_X7_100 rfl (fl10_0 F) dX7_lay_54 ?_
      refine g_callv (st := []) X (c_X4_forget l G 11 w_1 (fx11 F)) cm_X4_forget im_X4_forget se_X4_forget ml_X7_103 ck_X4 (fx11 F) ⟨Nat.le_of_ble_eq_true rfl, Nat.le_of_ble_eq_true rfl⟩ rfl rfl (Nat.le_of_ble_eq_true rfl) dX7_lay_57 (fn_v ?_)
      obtain ⟨w_2, ew_2⟩ : ∃ q_ : Wd, q_ = up w_1 11 3 0 0 := ⟨_, rfl⟩
      refine g_w (w' := w_2) ew_2 ?_
      refine g_aload_n X dX7_lay_60 rfl 0 rfl ?_
      refine g_geto (o' := 12) X ck_X7 (fx0 F) 6 (by decide) fl_X7_52 rfl (fl0_6 F) dX7_lay_61 ?_
      refine g_callv (st := []) X (c_X4_forget l G 12 w_2 (fx12 F)) cm_X4_forget im_X4_forget se_X4_forget ml_X7_103 ck_X4 (fx12 F) ⟨Nat.le_of_ble_eq_true rfl, Nat.le_of_ble_eq_true rfl⟩ rfl rfl (Nat.le_of_ble_eq_true rfl) dX7_lay_64 (fn_v ?_)
      obtain ⟨w_3, ew_3⟩ : ∃ q_ : Wd, q_ = up w_2 12 3 0 0 := ⟨_, rfl⟩
      refine g_w (w' := w_3) ew_3 ?_
      refine g_aload_n X dX7_lay_67 rfl 0 rfl ?_
      refine g_geto (o' := 13) X ck_X7 (fx0 F) 7 (by decide) fl_X7_59 rfl (fl0_7 F) dX7_lay_68 ?_
      refine g_callv (st := []) X (c_X0_forget l G 13 w_3 (fx13 F)) cm_X0_forget im_X0_forget se_X0_forget ml_X7_104 ck_X0 (fx13 F) ⟨Nat.le_of_ble_eq_true rfl, Nat.le_of_ble_eq_true rfl⟩ rfl rfl (Nat.le_of_ble_eq_true rfl) dX7_lay_71 (fn_v ?_)
      obtain ⟨w_4, ew_4⟩ : ∃ q_ : Wd, q_ = up w_3 13 3 0 0 := ⟨_, rfl⟩
      refine g_w (w' := w_4) ew_4 ?_
      refine g_aload_n X dX7_lay_74 rfl 0 rfl ?_
      refine g_geto (o' := 2) X ck_X7 (fx0 F) 1 (by decide) fl_X7_19 rfl (fl0_1 F) dX7_lay_75 ?_
      refine g_geti X ck_X2 (fx2 F) 0 (by decide) fl_X7_105 (Or.inl rfl) dX7_lay_78 ?_
      exact g_iret X rfl rfl dX7_lay_81 (by
          rw [e11, e10] at c_19 gpl
          refine Or.inr ⟨by omega, c_19, ?_, rfl, ?_, ?_, ?_, ?_, ?_, ?_, ?_, ?_, ?_, ?_⟩
          · rw [ew_4, ew_3, ew_2, ew_1, up_o (by decide), up_o (by decide), up_o (by decide), up_o (by decide), rfr 2 (by decide), gpl, e2]
          · rw [ew_4, ew_3, ew_2, ew_1, up_o (by decide), up_o (by decide), up_o (by decide), up_o (by decide)]; exact rres
          · intro j; rw [ew_4, ew_3, ew_2, ew_1, up_o (by decide), up_o (by decide), up_o (by decide), up_o (by decide), r13 j, gfr 3 13 j (by decide) (fun z => absurd z.1 (by decide)), e3]
          · rw [ew_4, ew_3, ew_2, ew_1, up_o (by decide), up_o (by decide), up_o (by decide), up_at]
          · rw [ew_4, ew_3, ew_2, ew_1, up_o (by decide), up_o (by decide), up_o (by decide), up_ne (by decide), rfr 9 (by decide), gfr 9 1 0 (by decide) (by decide), e9]
          · rw [ew_4, ew_3, ew_2, ew_1, up_o (by decide), up_o (by decide), up_at]
          · rw [ew_4, ew_3, ew_2, ew_1, up_o (by decide), up_at]
          · rw [ew_4, ew_3, ew_2, ew_1, up_at]
          · rw [ew_4, ew_3, ew_2, ew_1, up_o (by decide), up_o (by decide), up_o (by decide), up_o (by decide), rfr 1 (by decide)]; funext j; rw [gfr 1 0 j (by decide) (by decide), e10]
          · rw [ew_4, ew_3, ew_2, ew_1, up_o (by decide), up_o (by decide), up_o (by decide), up_o (by decide), rfr 1 (by decide)]; funext j; rw [gfr 1 1 j (by decide) (by decide), e11]
          · intro j hj; rw [ew_4, ew_3, ew_2, ew_1, up_o (by decide), up_o (by decide), up_o (by decide), up_o (by decide), rfr 1 (by decide)]; exact gn j hj)
    · skip
      refine g_bipush X dX7_lay_22 (by decide) ?_
      exact g_iret X rfl rfl dX7_lay_24 (by refine Or.inl ⟨?_, rfl, hfr, hn1⟩; first | exact Or.inl (by omega) | (rw [e11, e10] at c_19; exact Or.inr (by omega)))
set_option maxHeartbeats 4000000 in
set_option maxRecDepth 100000 in
theorem c_X7_tell (l : Launch) (G : Ly) (what : Int) (v : Int) (w : Wd) (F : FX G) (hX : XI w) (hr_what : InR what) (hr_v : InR v) : Mi l yX7_tell cX7_tell 4 (some .int) 3 77 G [.ref (gAd G 0), .int (iI what), .int (iI v)] w (fun z w2 => (¬ okTell what v ∧ z = -1 ∧ w2 = w) ∨ (okTell what v ∧ w 3 0 what.toNat = v ∧ z = -2 ∧ w2 = w) ∨ (okTell what v ∧ w 3 0 what.toNat ≠ v ∧ z = w 3 0 what.toNat ∧ KP w w2 (fun _ => False) ∧ w2 3 = fu (w 3) 0 what.toNat v)) := by
  refine mi_of (lv := [(0, .ref (gAd G 0)), (1, .int (iI what)), (2, .int (iI v))]) (by decide) (Nat.le_of_ble_eq_true rfl) rfl ?_
  intro p_ e_ s_ m_ b_ h_ c_ X
  obtain ⟨hp, hS, htk, hcl, ⟨hnx, hhd⟩, ⟨hC1, hC2, hC3⟩, ⟨hL, hT, hN⟩⟩ := id hX
  have hp0 := hp.1
  have sT := hS.1
  have sB := hS.2.1
  have sC := hS.2.2.1
  have sD := hS.2.2.2.1
  have sE := hS.2.2.2.2.1
  have sF := hS.2.2.2.2.2.1
  have hrun := bt_or (s := w 3 6 0) (t := w 3 7 0) (by omega) (by omega) (by omega) (by omega)
  have hopn := open_in hp sC.1
  have tl : ∀ q, q < 4 → (0 ≤ (slX 0).getD q 0 ∧ (slX 0).getD q 0 ≤ 480) ∧ 0 ≤ (slX 1).getD q 0 ∧ (slX 1).getD q 0 ≤ 480 := by decide +kernel
  have tl2 := tl what.toNat
  have tw : ∀ q : Nat, q < 4 → 0 ≤ w 3 0 q ∧ w 3 0 q ≤ 480 := by
    intro q hq
    rcases (show q = 0 ∨ q = 1 ∨ q = 2 ∨ q = 3 by omega) with rfl | rfl | rfl | rfl <;> omega
  refine g_iload_n X dX7_tell_0 rfl 1 rfl ?_
  refine g_if_lt (tgt := 27) X dX7_tell_1 (by decide) (by exact hr_what) (fun c_1 => ?_) (fun c_1 => ?_)
  · skip
    refine g_iconst X dX7_tell_27 ?_
    exact g_iret X rfl rfl dX7_tell_28 (by exact Or.inl ⟨by unfold okTell; omega, rfl, rfl⟩)
  · skip
    refine g_iload_n X dX7_tell_4 rfl 1 rfl ?_
    refine g_iconst X dX7_tell_5 ?_
    refine g_icmp_ge (tgt := 27) X dX7_tell_6 (by decide) (by exact hr_what) ⟨by decide, by decide⟩ (fun c_6 => ?_) (fun c_6 => ?_)
    · skip
      refine g_iconst X dX7_tell_27 ?_
      exact g_iret X rfl rfl dX7_tell_28 (by exact Or.inl ⟨by unfold okTell; omega, rfl, rfl⟩)
    · skip
      refine g_iload_n X dX7_tell_9 rfl 2 rfl ?_
      refine g_gets X 0 (by decide) fl_X7_107 dX7_tell_10 ?_
      refine g_iload_n X dX7_tell_13 rfl 1 rfl ?_
      refine g_sald (v := (slX 0).getD (what).toNat 0) X 0 (by decide) (by omega) (by show _ < (4 : Int); omega) (by rfl) (by decide) dX7_tell_14 ?_
      refine g_icmp_lt (tgt := 27) X dX7_tell_15 (by decide) (by exact hr_v) (by have := tl2 (by omega); unfold InR; omega) (fun c_15 => ?_) (fun c_15 => ?_)
      · skip
        refine g_iconst X dX7_tell_27 ?_
        exact g_iret X rfl rfl dX7_tell_28 (by exact Or.inl ⟨by unfold okTell; omega, rfl, rfl⟩)
      · skip
        refine g_iload_n X dX7_tell_18 rfl 2 rfl ?_
        refine g_gets X 1 (by decide) fl_X7_111 dX7_tell_19 ?_
        refine g_iload_n X dX7_tell_22 rfl 1 rfl ?_
        refine g_sald (v := (slX 1).getD (what).toNat 0) X 1 (by decide) (by omega) (by show _ < (4 : Int); omega) (by rfl) (by decide) dX7_tell_23 ?_
        refine g_icmp_le (tgt := 29) X dX7_tell_24 (by decide) (by exact hr_v) (by have := tl2 (by omega); unfold InR; omega) (fun c_24 => ?_) (fun c_24 => ?_)
        · skip
          refine g_aload_n X dX7_tell_29 rfl 0 rfl ?_
          refine g_geto (o' := 3) X ck_X7 (fx0 F) 2 (by decide) fl_X7_26 rfl (fl0_2 F) dX7_tell_30 ?_
          refine g_geta X ck_X6 (fx3 F) 0 (by decide) fl_X7_114 rfl dX7_tell_33 ?_
          refine g_iload_n X dX7_tell_36 rfl 1 rfl ?_
          refine h_iald (a := what) (j := (what).toNat) X rfl (fx3 F) (by decide) (show fkX 6 0 = (1, 4) from rfl) (by decide) (by omega) (by omega) dX7_tell_37 ?_
          refine g_istore_n (lv' := [(3, .int (iI (w 3 0 (what).toNat))), (0, .ref (gAd G 0)), (1, .int (iI what)), (2, .int (iI v))]) X dX7_tell_38 rfl (by decide) rfl ?_
          refine g_iload_n X dX7_tell_39 rfl 0 rfl ?_
          refine g_iload_n X dX7_tell_40 rfl 3 rfl ?_
          refine g_icmp_ne (tgt := 47) X dX7_tell_41 (by decide) (by have := tw what.toNat (by omega); unfold InR; omega) (by exact hr_v) (fun c_41 => ?_) (fun c_41 => ?_)
          · skip
            refine g_aload_n X dX7_tell_47 rfl 1 rfl ?_
            refine g_geto (o' := 9) X ck_X7 (fx0 F) 4 (by decide) fl_X7_36 rfl (fl0_4 F) dX7_tell_48 ?_
            refine g_aload_n X dX7_tell_51 rfl 1 rfl ?_
            refine g_geto (o' := 3) X ck_X7 (fx0 F) 2 (by decide) fl_X7_26 rfl (fl0_2 F) dX7_tell_52 ?_
            refine g_callv (st := []) X (c_X1_keep l G  w F (by first | assumption | omega | (unfold InR; omega)) (by first | assumption | omega | (unfold InR; omega))) cm_X1_keep im_X1_keep se_X1_keep ml_X7_117 ck_X1 (fx9 F) ⟨Nat.le_of_ble_eq_true rfl, Nat.le_of_ble_eq_true rfl⟩ rfl rfl (Nat.le_of_ble_eq_true rfl) dX7_tell_55 ?_
            rintro u_55 h_55
            refine g_aload_n X dX7_tell_58 rfl 1 rfl ?_
            refine g_geto (o' := 3) X ck_X7 (fx0 F) 2 (by decide) fl_X7_26 rfl (fl0_2 F) dX7_tell_59 ?_
            refine g_geta X ck_X6 (fx3 F) 0 (by decide) fl_X7_114 rfl dX7_tell_62 ?_
            refine g_iload_n X dX7_tell_65 rfl 2 rfl ?_
            refine g_iload_n X dX7_tell_66 rfl 3 rfl ?_
            refine h_iast (a := what) (j := (what).toNat) X rfl (fx3 F) (by decide) (show fkX 6 0 = (1, 4) from rfl) (by decide) (by omega) (by omega) dX7_tell_67 ?_
            obtain ⟨w_1, ew_1⟩ : ∃ q_ : Wd, q_ = up u_55 3 0 (what).toNat v := ⟨_, rfl⟩
            refine g_w (w' := w_1) ew_1 ?_
            refine g_iload_n X dX7_tell_68 rfl 0 rfl ?_
            exact g_iret X rfl rfl dX7_tell_69 (by
                obtain ⟨k1, k2, k3, k4⟩ := h_55
                refine Or.inr (Or.inr ⟨⟨by omega, by omega, by omega, by omega⟩, c_41, rfl, ⟨fun f j h => ?_, ?_, ?_, fun o2 h1 h2 h3 _ => ?_⟩, ?_⟩)
                · rw [ew_1, up_o (by omega)]; exact k1 f j h
                · rw [ew_1, up_o (by decide)]; exact k2
                · rw [ew_1, up_o (by decide)]; exact k3
                · rw [ew_1, up_o h1]; exact k4 o2 h2 h3
                · rw [ew_1, up_setO, setO_at, k4 3 (by omega) (by decide)])
          · skip
            refine g_bipush X dX7_tell_44 (by decide) ?_
            exact g_iret X rfl rfl dX7_tell_46 (by exact Or.inr (Or.inl ⟨⟨by omega, by omega, by omega, by omega⟩, by omega, rfl, rfl⟩))
        · skip
          refine g_iconst X dX7_tell_27 ?_
          exact g_iret X rfl rfl dX7_tell_28 (by exact Or.inl ⟨by unfold okTell; omega, rfl, rfl⟩)
set_option maxHeartbeats 4000000 in
set_option maxRecDepth 100000 in
theorem c_X7_lock (l : Launch) (G : Ly) (m : Int) (is_ : Int) (w : Wd) (F : FX G) (hX : XI w) (hr_m : InR m) (hr_is_ : InR is_) : Mi l yX7_lock cX7_lock 4 (some .int) 3 77 G [.ref (gAd G 0), .int (iI m), .int (iI is_)] w (fun z w2 => (¬ ((0 ≤ m ∧ m < w 2 0 0) ∧ 0 ≤ is_ ∧ is_ ≤ 1) ∧ z = -1 ∧ w2 = w) ∨ (((0 ≤ m ∧ m < w 2 0 0) ∧ 0 ≤ is_ ∧ is_ ≤ 1) ∧ tb (w 3 5 0) m.toNat = is_ ∧ z = -2 ∧ w2 = w) ∨ (((0 ≤ m ∧ m < w 2 0 0) ∧ 0 ≤ is_ ∧ is_ ≤ 1) ∧ tb (w 3 5 0) m.toNat ≠ is_ ∧ z = cnt (w2 3 5 0) ∧ KP w w2 (fun _ => False) ∧ w2 3 = lockX (w 3) m is_)) := by
  refine mi_of (lv := [(0, .ref (gAd G 0)), (1, .int (iI m)), (2, .int (iI is_))]) (by decide) (Nat.le_of_ble_eq_true rfl) rfl ?_
  intro p_ e_ s_ m_ b_ h_ c_ X
  obtain ⟨hp, hS, htk, hcl, ⟨hnx, hhd⟩, ⟨hC1, hC2, hC3⟩, ⟨hL, hT, hN⟩⟩ := id hX
  have hp0 := hp.1
  have sT := hS.1
  have sB := hS.2.1
  have sC := hS.2.2.1
  have sD := hS.2.2.2.1
  have sE := hS.2.2.2.2.1
  have sF := hS.2.2.2.2.2.1
  have hrun := bt_or (s := w 3 6 0) (t := w 3 7 0) (by omega) (by omega) (by omega) (by omega)
  have hopn := open_in hp sC.1
  refine g_aload_n X dX7_lock_0 rfl 0 rfl ?_
  refine g_iload_n X dX7_lock_1 rfl 1 rfl ?_
  refine g_calli (st := []) X (c_X7_isMachine l G m w F (by first | assumption | omega | (unfold InR; omega)) (by first | assumption | omega | (unfold InR; omega))) cm_X7_isMachine im_X7_isMachine se_X7_isMachine ml_X7_121 ck_X7 (fx0 F) ⟨Nat.le_of_ble_eq_true rfl, Nat.le_of_ble_eq_true rfl⟩ rfl rfl (Nat.le_of_ble_eq_true rfl) dX7_lock_2 (fn_i ?_)
  refine g_if_eq (tgt := 17) X dX7_lock_5 (by decide) (by exact in01) (fun c_5 => ?_) (fun c_5 => ?_)
  · skip
    refine g_iconst X dX7_lock_17 ?_
    exact g_iret X rfl rfl dX7_lock_18 (by refine Or.inl ⟨?_, rfl, rfl⟩; first | exact fun h => of_zero c_5 h.1 | (intro h; omega))
  · skip
    refine g_iload_n X dX7_lock_8 rfl 2 rfl ?_
    refine g_if_lt (tgt := 17) X dX7_lock_9 (by decide) (by exact hr_is_) (fun c_9 => ?_) (fun c_9 => ?_)
    · skip
      refine g_iconst X dX7_lock_17 ?_
      exact g_iret X rfl rfl dX7_lock_18 (by refine Or.inl ⟨?_, rfl, rfl⟩; first | exact fun h => of_zero c_5 h.1 | (intro h; omega))
    · skip
      refine g_iload_n X dX7_lock_12 rfl 2 rfl ?_
      refine g_iconst X dX7_lock_13 ?_
      refine g_icmp_le (tgt := 19) X dX7_lock_14 (by decide) (by exact hr_is_) ⟨by decide, by decide⟩ (fun c_14 => ?_) (fun c_14 => ?_)
      · skip
        have hmm := of_one c_5
        have ht01 := tb01 (w 3 5 0) m.toNat
        have hba := bt_and (s := w 3 5 0) (m := m) (by omega) (by omega) hmm.1 (by omega)
        have hbs := bt_set (s := w 3 5 0) (m := m) (by omega) (by omega) hmm.1 (by omega)
        have hbc := bt_clr (s := w 3 5 0) (m := m) (by omega) (by omega) hmm.1 (by omega)
        refine g_iconst X dX7_lock_19 ?_
        refine g_iload_n X dX7_lock_20 rfl 1 rfl ?_
        refine g_ishl X dX7_lock_21 ?_
        refine g_cut1 (pc' := 40) (fun (a_ : Int) => [(0, .ref (gAd G 0)), (1, .int (iI m)), (2, .int (iI is_)), (3, .int (iI (bshl 1 m)))]) (fun (a_ : Int) => [.int (iI a_)]) (fun (a_ : Int) => w) (fun (a_ : Int) => (a_ = tb (w 3 5 0) m.toNat)) ?_ ?_
        · intro a_ hI_40
          have ha := hI_40
          try dsimp only at ha ⊢
          refine g_iload_n X dX7_lock_40 rfl 2 rfl ?_
          refine g_cut1 (pc' := 50) (fun (b_ : Int) => [(0, .ref (gAd G 0)), (1, .int (iI m)), (2, .int (iI is_)), (3, .int (iI (bshl 1 m)))]) (fun (b_ : Int) => [.int (iI b_), .int (iI a_)]) (fun (b_ : Int) => w) (fun (b_ : Int) => (b_ = is_)) ?_ ?_
          · intro b_ hI_50
            have hb := hI_50
            try dsimp only at hb ⊢
            refine g_icmp_ne (tgt := 56) X dX7_lock_50 (by decide) (by unfold InR; omega) (by unfold InR; omega) (fun c_50 => ?_) (fun c_50 => ?_)
            · skip
              refine g_aload_n X dX7_lock_56 rfl 0 rfl ?_
              refine g_geto (o' := 9) X ck_X7 (fx0 F) 4 (by decide) fl_X7_36 rfl (fl0_4 F) dX7_lock_57 ?_
              refine g_aload_n X dX7_lock_60 rfl 0 rfl ?_
              refine g_geto (o' := 3) X ck_X7 (fx0 F) 2 (by decide) fl_X7_26 rfl (fl0_2 F) dX7_lock_61 ?_
              refine g_callv (st := []) X (c_X1_keep l G  w F (by first | assumption | omega | (unfold InR; omega)) (by first | assumption | omega | (unfold InR; omega))) cm_X1_keep im_X1_keep se_X1_keep ml_X7_117 ck_X1 (fx9 F) ⟨Nat.le_of_ble_eq_true rfl, Nat.le_of_ble_eq_true rfl⟩ rfl rfl (Nat.le_of_ble_eq_true rfl) dX7_lock_64 ?_
              rintro u_64 h_64
              obtain ⟨k1, k2, k3, k4⟩ := id h_64
              have e3 : u_64 3 = w 3 := k4 3 (by omega) (by decide)
              have e35 : u_64 3 5 0 = w 3 5 0 := by rw [e3]
              refine g_iload_n X dX7_lock_67 rfl 2 rfl ?_
              refine g_cut1 (pc' := 119) (fun (w1 : Wd) => [(0, .ref (gAd G 0)), (1, .int (iI m)), (2, .int (iI is_)), (3, .int (iI (bshl 1 m)))]) (fun (w1 : Wd) => []) (fun (w1 : Wd) => w1) (fun (w1 : Wd) => (w1 = setO u_64 3 (lockX (w 3) m is_))) ?_ ?_
              · intro w1 hI_119
                have hw := hI_119
                try dsimp only at hw ⊢
                have hu : w1 3 = lockX (w 3) m is_ := by rw [hw, setO_at]
                have h5 : 0 ≤ w1 3 5 0 ∧ w1 3 5 0 < 64 := by
                  rw [hu]
                  unfold lockX
                  split
                  · rw [show tkX (spX (fu (w 3) 5 0 (setB (w 3 5 0) m)) m) m 5 0 = setB (w 3 5 0) m by rw [tk_5, sp_5, fu_at]]
                    exact ⟨hbs.1, hbs.2.1⟩
                  · rw [fu_at]
                    exact ⟨hbc.1, hbc.2.1⟩
                refine g_aload_n X dX7_lock_119 rfl 0 rfl ?_
                refine g_geto (o' := 3) X ck_X7 (fx0 F) 2 (by decide) fl_X7_26 rfl (fl0_2 F) dX7_lock_120 ?_
                refine g_geti X ck_X6 (fx3 F) 5 (by decide) fl_X7_125 (Or.inl rfl) dX7_lock_123 ?_
                refine g_callsi (st := []) X (c_J6_bitCount_0f7a4 l G (w1 3 5 0) w1 (by first | assumption | omega | (unfold InR; omega))) cm_J6_bitCount_0f7a4 sm_J6_bitCount_0f7a4 ml_X7_135 ⟨Nat.le_of_ble_eq_true rfl, Nat.le_of_ble_eq_true rfl⟩ rfl rfl (Nat.le_of_ble_eq_true rfl) dX7_lock_126 (fn_i ?_)
                exact g_iret X rfl rfl dX7_lock_129 (by
                    refine Or.inr (Or.inr ⟨⟨hmm, by omega, by omega⟩, by omega, rfl, ⟨fun f j h => ?_, ?_, ?_, fun o2 h1 h2 h3 _ => ?_⟩, hu⟩)
                    · rw [hw, setO_ne (by omega)]; exact k1 f j h
                    · rw [hw, setO_ne (by decide)]; exact k2
                    · rw [hw, setO_ne (by decide)]; exact k3
                    · rw [hw, setO_ne h1]; exact k4 o2 h2 h3)
              · intro J_119
                try dsimp only at J_119
                refine g_iconst X dX7_lock_68 ?_
                refine g_icmp_ne (tgt := 104) X dX7_lock_69 (by decide) (by exact hr_is_) ⟨by decide, by decide⟩ (fun c_69 => ?_) (fun c_69 => ?_)
                · skip
                  refine g_aload_n X dX7_lock_104 rfl 0 rfl ?_
                  refine g_geto (o' := 3) X ck_X7 (fx0 F) 2 (by decide) fl_X7_26 rfl (fl0_2 F) dX7_lock_105 ?_
                  refine g_dup X dX7_lock_108 rfl ?_
                  refine g_geti X ck_X6 (fx3 F) 5 (by decide) fl_X7_125 (Or.inl rfl) dX7_lock_109 ?_
                  refine g_iload_n X dX7_lock_112 rfl 3 rfl ?_
                  refine g_iconst X dX7_lock_113 ?_
                  refine g_ixor X dX7_lock_114 ?_
                  refine g_iand X dX7_lock_115 ?_
                  refine g_puti X ck_X6 (fx3 F) 5 (by decide) fl_X7_125 rfl rfl rfl dX7_lock_116 ?_
                  obtain ⟨w_1, ew_1⟩ : ∃ q_ : Wd, q_ = up u_64 3 5 0 (band (u_64 3 5 0) (bxor (bshl 1 m) (-1))) := ⟨_, rfl⟩
                  refine g_w (w' := w_1) ew_1 ?_
                  refine g_lv (lv' := [(0, .ref (gAd G 0)), (1, .int (iI m)), (2, .int (iI is_)), (3, .int (iI (bshl 1 m)))]) [0, 1, 2, 3] rfl ?_
                  exact J_119 w_1 (by
                      unfold lockX
                      first
                      | (rw [if_neg c_69, ew_1, up_setO, e3])
                      | (rw [if_pos (Classical.not_not.mp c_69), ew_1, tk_eq, sp_eq h_90, ew_2, up_setO, setO_setO, setO_at, setO_setO, setO_at, e3]))
                · skip
                  refine g_aload_n X dX7_lock_72 rfl 0 rfl ?_
                  refine g_geto (o' := 3) X ck_X7 (fx0 F) 2 (by decide) fl_X7_26 rfl (fl0_2 F) dX7_lock_73 ?_
                  refine g_dup X dX7_lock_76 rfl ?_
                  refine g_geti X ck_X6 (fx3 F) 5 (by decide) fl_X7_125 (Or.inl rfl) dX7_lock_77 ?_
                  refine g_iload_n X dX7_lock_80 rfl 3 rfl ?_
                  refine g_ior X dX7_lock_81 ?_
                  refine g_puti X ck_X6 (fx3 F) 5 (by decide) fl_X7_125 rfl rfl rfl dX7_lock_82 ?_
                  obtain ⟨w_2, ew_2⟩ : ∃ q_ : Wd, q_ = up u_64 3 5 0 (bor (u_64 3 5 0) (bshl 1 m)) := ⟨_, rfl⟩
                  refine g_w (w' := w_2) ew_2 ?_
                  refine g_aload_n X dX7_lock_85 rfl 0 rfl ?_
                  refine g_geto (o' := 3) X ck_X7 (fx0 F) 2 (by decide) fl_X7_26 rfl (fl0_2 F) dX7_lock_86 ?_
                  refine g_iload_n X dX7_lock_89 rfl 1 rfl ?_
                  refine g_callv (st := []) X (c_X6_stop l G 3 m w_2 (fx3 F) (by omega) (by rw [ew_2, up_setO, setO_at, e3]; simp [fu]; omega) (by rw [ew_2, up_setO, setO_at, e3]; simp [fu]; omega)) cm_X6_stop im_X6_stop se_X6_stop ml_X7_128 ck_X6 (fx3 F) ⟨Nat.le_of_ble_eq_true rfl, Nat.le_of_ble_eq_true rfl⟩ rfl rfl (Nat.le_of_ble_eq_true rfl) dX7_lock_90 ?_
                  rintro u_90 h_90
                  refine g_aload_n X dX7_lock_93 rfl 0 rfl ?_
                  refine g_geto (o' := 3) X ck_X7 (fx0 F) 2 (by decide) fl_X7_26 rfl (fl0_2 F) dX7_lock_94 ?_
                  refine g_iload_n X dX7_lock_97 rfl 1 rfl ?_
                  refine g_callv (st := []) X (c_X6_takeOffList l G 3 m u_90 (fx3 F) (by rw [sp_eq h_90, setO_at, (sp_1 _ _).2.2, ew_2, up_setO, setO_at, e3]; simp [fu]; omega) (by exact hr_m) (by
                      intro j hj
                      rw [sp_eq h_90, setO_at] at hj ⊢
                      rw [(sp_1 _ _).2.2, ew_2, up_setO, setO_at, e3, fu_ne (by decide)] at hj
                      rw [sp_10, ew_2, up_setO, setO_at, e3, fu_ne (fun z => absurd z.1 (by decide))]
                      have := sE j hj
                      unfold InR
                      omega)) cm_X6_takeOffList im_X6_takeOffList se_X6_takeOffList ml_X7_132 ck_X6 (fx3 F) ⟨Nat.le_of_ble_eq_true rfl, Nat.le_of_ble_eq_true rfl⟩ rfl rfl (Nat.le_of_ble_eq_true rfl) dX7_lock_98 (fn_v ?_)
                  obtain ⟨w_3, ew_3⟩ : ∃ q_ : Wd, q_ = up (upA u_90 3 10 (tol (u_90 3 10) m (u_90 3 9 0).toNat).1) 3 9 0 ((tol (u_90 3 10) m (u_90 3 9 0).toNat).2 : Int) := ⟨_, rfl⟩
                  refine g_w (w' := w_3) ew_3 ?_
                  refine g_goto (tgt := 119) X dX7_lock_101 (by decide) ?_
                  refine g_lv (lv' := [(0, .ref (gAd G 0)), (1, .int (iI m)), (2, .int (iI is_)), (3, .int (iI (bshl 1 m)))]) [0, 1, 2, 3] rfl ?_
                  exact J_119 w_3 (by
                      unfold lockX
                      first
                      | (rw [if_neg c_69, ew_3, up_setO, e3])
                      | (rw [if_pos (Classical.not_not.mp c_69), ew_3, tk_eq, sp_eq h_90, ew_2, up_setO, setO_setO, setO_at, setO_setO, setO_at, e3]))
            · skip
              refine g_bipush X dX7_lock_53 (by decide) ?_
              exact g_iret X rfl rfl dX7_lock_55 (by exact Or.inr (Or.inl ⟨⟨hmm, by omega, by omega⟩, by omega, rfl, rfl⟩))
          · intro J_50
            try dsimp only at J_50
            refine g_iconst X dX7_lock_41 ?_
            refine g_icmp_ne (tgt := 49) X dX7_lock_42 (by decide) (by exact hr_is_) ⟨by decide, by decide⟩ (fun c_42 => ?_) (fun c_42 => ?_)
            · skip
              refine g_iconst X dX7_lock_49 ?_
              refine g_lv (lv' := [(0, .ref (gAd G 0)), (1, .int (iI m)), (2, .int (iI is_)), (3, .int (iI (bshl 1 m)))]) [0, 1, 2, 3] rfl ?_
              exact J_50 0 (by omega)
            · skip
              refine g_iconst X dX7_lock_45 ?_
              refine g_goto (tgt := 50) X dX7_lock_46 (by decide) ?_
              refine g_lv (lv' := [(0, .ref (gAd G 0)), (1, .int (iI m)), (2, .int (iI is_)), (3, .int (iI (bshl 1 m)))]) [0, 1, 2, 3] rfl ?_
              exact J_50 1 (by omega)
        · intro J_40
          try dsimp only at J_40
          refine g_istore_n (lv' := [(3, .int (iI (bshl 1 m))), (0, .ref (gAd G 0)), (1, .int (iI m)), (2, .int (iI is_))]) X dX7_lock_22 rfl (by decide) rfl ?_
          refine g_aload_n X dX7_lock_23 rfl 1 rfl ?_
          refine g_geto (o' := 3) X ck_X7 (fx0 F) 2 (by decide) fl_X7_26 rfl (fl0_2 F) dX7_lock_24 ?_
          refine g_geti X ck_X6 (fx3 F) 5 (by decide) fl_X7_125 (Or.inl rfl) dX7_lock_27 ?_
          refine g_iload_n X dX7_lock_30 rfl 0 rfl ?_
          refine g_iand X dX7_lock_31 ?_
          refine g_if_eq (tgt := 39) X dX7_lock_32 (by decide) (by unfold InR; omega) (fun c_32 => ?_) (fun c_32 => ?_)
          · skip
            refine g_iconst X dX7_lock_39 ?_
            refine g_lv (lv' := [(0, .ref (gAd G 0)), (1, .int (iI m)), (2, .int (iI is_)), (3, .int (iI (bshl 1 m)))]) [1, 2, 3, 0] rfl ?_
            exact J_40 0 (by first | omega | (have := hba.1.not; omega))
          · skip
            refine g_iconst X dX7_lock_35 ?_
            refine g_goto (tgt := 40) X dX7_lock_36 (by decide) ?_
            refine g_lv (lv' := [(0, .ref (gAd G 0)), (1, .int (iI m)), (2, .int (iI is_)), (3, .int (iI (bshl 1 m)))]) [1, 2, 3, 0] rfl ?_
            exact J_40 1 (by first | omega | (have := hba.1.not; omega))
      · skip
        refine g_iconst X dX7_lock_17 ?_
        exact g_iret X rfl rfl dX7_lock_18 (by refine Or.inl ⟨?_, rfl, rfl⟩; first | exact fun h => of_zero c_5 h.1 | (intro h; omega))
set_option maxHeartbeats 4000000 in
set_option maxRecDepth 100000 in
theorem c_X7_dip (l : Launch) (G : Ly)  (w : Wd) (F : FX G) (hX : XI w) : Mi l yX7_dip cX7_dip 2 (some .int) 3 77 G [.ref (gAd G 0)] w (fun z w2 => z = cnt (runX (w 3)) ∧ KP w w2 (fun _ => False) ∧ w2 3 = dipX (w 2) (w 3)) := by
  refine mi_of (lv := [(0, .ref (gAd G 0))]) (by decide) (Nat.le_of_ble_eq_true rfl) rfl ?_
  intro p_ e_ s_ m_ b_ h_ c_ X
  obtain ⟨hp, hS, htk, hcl, ⟨hnx, hhd⟩, ⟨hC1, hC2, hC3⟩, ⟨hL, hT, hN⟩⟩ := id hX
  have hp0 := hp.1
  have sT := hS.1
  have sB := hS.2.1
  have sC := hS.2.2.1
  have sD := hS.2.2.2.1
  have sE := hS.2.2.2.2.1
  have sF := hS.2.2.2.2.2.1
  have hrun := bt_or (s := w 3 6 0) (t := w 3 7 0) (by omega) (by omega) (by omega) (by omega)
  have hopn := open_in hp sC.1
  refine g_aload_n X dX7_dip_0 rfl 0 rfl ?_
  refine g_geto (o' := 3) X ck_X7 (fx0 F) 2 (by decide) fl_X7_26 rfl (fl0_2 F) dX7_dip_1 ?_
  refine g_calli (st := []) X (c_X6_running l G 3 w (fx3 F)) cm_X6_running im_X6_running se_X6_running ml_X7_141 ck_X6 (fx3 F) ⟨Nat.le_of_ble_eq_true rfl, Nat.le_of_ble_eq_true rfl⟩ rfl rfl (Nat.le_of_ble_eq_true rfl) dX7_dip_4 (fn_i ?_)
  refine g_callsi (st := []) X (c_J6_bitCount_0f7a4 l G (bor (w 3 6 0) (w 3 7 0)) w (by first | assumption | omega | (unfold InR; omega))) cm_J6_bitCount_0f7a4 sm_J6_bitCount_0f7a4 ml_X7_135 ⟨Nat.le_of_ble_eq_true rfl, Nat.le_of_ble_eq_true rfl⟩ rfl rfl (Nat.le_of_ble_eq_true rfl) dX7_dip_7 (fn_i ?_)
  refine g_istore_n (lv' := [(1, .int (iI (cnt (bor (w 3 6 0) (w 3 7 0))))), (0, .ref (gAd G 0))]) X dX7_dip_10 rfl (by decide) rfl ?_
  refine g_aload_n X dX7_dip_11 rfl 1 rfl ?_
  refine g_geto (o' := 9) X ck_X7 (fx0 F) 4 (by decide) fl_X7_36 rfl (fl0_4 F) dX7_dip_12 ?_
  refine g_aload_n X dX7_dip_15 rfl 1 rfl ?_
  refine g_geto (o' := 3) X ck_X7 (fx0 F) 2 (by decide) fl_X7_26 rfl (fl0_2 F) dX7_dip_16 ?_
  refine g_callv (st := []) X (c_X1_keep l G  w F (by first | assumption | omega | (unfold InR; omega)) (by first | assumption | omega | (unfold InR; omega))) cm_X1_keep im_X1_keep se_X1_keep ml_X7_117 ck_X1 (fx9 F) ⟨Nat.le_of_ble_eq_true rfl, Nat.le_of_ble_eq_true rfl⟩ rfl rfl (Nat.le_of_ble_eq_true rfl) dX7_dip_19 ?_
  rintro u_19 h_19
  obtain ⟨k1, k2, k3, k4⟩ := id h_19
  have e3 : u_19 3 = w 3 := k4 3 (by omega) (by decide)
  have e2 : u_19 2 = w 2 := k4 2 (by omega) (by decide)
  refine g_aload_n X dX7_dip_22 rfl 1 rfl ?_
  refine g_geto (o' := 10) X ck_X7 (fx0 F) 5 (by decide) fl_X7_45 rfl (fl0_5 F) dX7_dip_23 ?_
  refine g_aload_n X dX7_dip_26 rfl 1 rfl ?_
  refine g_geto (o' := 3) X ck_X7 (fx0 F) 2 (by decide) fl_X7_26 rfl (fl0_2 F) dX7_dip_27 ?_
  refine g_callv (st := []) X (c_X5_fall l G 3 (9 * w 3 1 0) u_19 F (fx3 F) (by rw [e2]; exact hp) (by rw [e2, e3]; exact hS) (by omega) (by rw [e3]; exact hcl)) cm_X5_fall im_X5_fall se_X5_fall ml_X7_144 ck_X5 (fx10 F) ⟨Nat.le_of_ble_eq_true rfl, Nat.le_of_ble_eq_true rfl⟩ rfl rfl (Nat.le_of_ble_eq_true rfl) dX7_dip_30 (fn_v ?_)
  obtain ⟨w_1, ew_1⟩ : ∃ q_ : Wd, q_ = setO u_19 3 (fu (fu (flX (u_19 2) (u_19 3) 6).1 2 0 0) 3 0 0) := ⟨_, rfl⟩
  refine g_w (w' := w_1) ew_1 ?_
  refine g_iload_n X dX7_dip_33 rfl 0 rfl ?_
  exact g_iret X rfl rfl dX7_dip_34 (by
      refine ⟨rfl, ⟨fun f j h => ?_, ?_, ?_, fun o2 h1 h2 h3 _ => ?_⟩, ?_⟩
      · rw [ew_1, setO_ne (by omega)]; exact k1 f j h
      · rw [ew_1, setO_ne (by decide)]; exact k2
      · rw [ew_1, setO_ne (by decide)]; exact k3
      · rw [ew_1, setO_ne h1]; exact k4 o2 h2 h3
      · rw [ew_1, setO_at, e2, e3]; rfl)
set_option maxHeartbeats 4000000 in
set_option maxRecDepth 100000 in
theorem c_X7_tick (l : Launch) (G : Ly) (n : Int) (w : Wd) (F : FX G) (hX : XI w) (hr_n : InR n) : Mi l yX7_tick cX7_tick 4 (some .int) 7 155 G [.ref (gAd G 0), .int (iI n)] w (fun z w2 => ((n < 1 ∨ 60 < n) ∧ z = -1 ∧ w2 = w) ∨ (1 ≤ n ∧ n ≤ 60 ∧ 9999 < w 3 1 0 + n ∧ z = -2 ∧ w2 = w) ∨ (1 ≤ n ∧ n ≤ 60 ∧ w 3 1 0 + n ≤ 9999 ∧ z = sumN (w2 3 12) 6 - sumN (w 3 12) 6 ∧ KP w w2 (fun o2 => o2 = 11) ∧ ShC (w 2) (w2 11) ∧ TickR (w 2) (w 3) n.toNat (w2 3))) := by
  refine mi_of (lv := [(0, .ref (gAd G 0)), (1, .int (iI n))]) (by decide) (Nat.le_of_ble_eq_true rfl) rfl ?_
  intro p_ e_ s_ m_ b_ h_ c_ X
  obtain ⟨hp, hS, htk, hcl, ⟨hnx, hhd⟩, ⟨hC1, hC2, hC3⟩, ⟨hL, hT, hN⟩⟩ := id hX
  have hp0 := hp.1
  have sT := hS.1
  have sB := hS.2.1
  have sC := hS.2.2.1
  have sD := hS.2.2.2.1
  have sE := hS.2.2.2.2.1
  have sF := hS.2.2.2.2.2.1
  have hrun := bt_or (s := w 3 6 0) (t := w 3 7 0) (by omega) (by omega) (by omega) (by omega)
  have hopn := open_in hp sC.1
  refine g_iload_n X dX7_tick_0 rfl 1 rfl ?_
  refine g_iconst X dX7_tick_1 ?_
  refine g_icmp_lt (tgt := 11) X dX7_tick_2 (by decide) (by exact hr_n) ⟨by decide, by decide⟩ (fun c_2 => ?_) (fun c_2 => ?_)
  · skip
    refine g_iconst X dX7_tick_11 ?_
    exact g_iret X rfl rfl dX7_tick_12 (by exact Or.inl ⟨by omega, rfl, rfl⟩)
  · skip
    refine g_iload_n X dX7_tick_5 rfl 1 rfl ?_
    refine g_bipush X dX7_tick_6 (by decide) ?_
    refine g_icmp_le (tgt := 13) X dX7_tick_8 (by decide) (by exact hr_n) ⟨by decide, by decide⟩ (fun c_8 => ?_) (fun c_8 => ?_)
    · skip
      refine g_aload_n X dX7_tick_13 rfl 0 rfl ?_
      refine g_geto (o' := 3) X ck_X7 (fx0 F) 2 (by decide) fl_X7_26 rfl (fl0_2 F) dX7_tick_14 ?_
      refine g_geti X ck_X6 (fx3 F) 1 (by decide) fl_X7_147 (Or.inl rfl) dX7_tick_17 ?_
      refine g_iload_n X dX7_tick_20 rfl 1 rfl ?_
      refine g_iadd X dX7_tick_21 ?_
      refine g_sipush X dX7_tick_22 (by decide) ?_
      refine g_icmp_le (tgt := 31) X dX7_tick_25 (by decide) (by unfold InR; omega) ⟨by decide, by decide⟩ (fun c_25 => ?_) (fun c_25 => ?_)
      · skip
        refine g_aload_n X dX7_tick_31 rfl 0 rfl ?_
        refine g_geto (o' := 9) X ck_X7 (fx0 F) 4 (by decide) fl_X7_36 rfl (fl0_4 F) dX7_tick_32 ?_
        refine g_aload_n X dX7_tick_35 rfl 0 rfl ?_
        refine g_geto (o' := 3) X ck_X7 (fx0 F) 2 (by decide) fl_X7_26 rfl (fl0_2 F) dX7_tick_36 ?_
        refine g_callv (st := []) X (c_X1_keep l G  w F (by first | assumption | omega | (unfold InR; omega)) (by first | assumption | omega | (unfold InR; omega))) cm_X1_keep im_X1_keep se_X1_keep ml_X7_117 ck_X1 (fx9 F) ⟨Nat.le_of_ble_eq_true rfl, Nat.le_of_ble_eq_true rfl⟩ rfl rfl (Nat.le_of_ble_eq_true rfl) dX7_tick_39 ?_
        rintro u_39 h_39
        obtain ⟨k1, k2, k3, k4⟩ := id h_39
        have e3 : u_39 3 = w 3 := k4 3 (by omega) (by decide)
        have e2 : u_39 2 = w 2 := k4 2 (by omega) (by decide)
        have e11 : u_39 11 = w 11 := k4 11 (by omega) (by decide)
        have e12 : u_39 3 12 = w 3 12 := by rw [e3]
        refine g_aload_n X dX7_tick_42 rfl 0 rfl ?_
        refine g_geto (o' := 3) X ck_X7 (fx0 F) 2 (by decide) fl_X7_26 rfl (fl0_2 F) dX7_tick_43 ?_
        refine g_calli (st := []) X (c_X6_startedSoFar l G 3 u_39 (fx3 F)) cm_X6_startedSoFar im_X6_startedSoFar se_X6_startedSoFar ml_X7_150 ck_X6 (fx3 F) ⟨Nat.le_of_ble_eq_true rfl, Nat.le_of_ble_eq_true rfl⟩ rfl rfl (Nat.le_of_ble_eq_true rfl) dX7_tick_46 (fn_i ?_)
        refine g_istore_n (lv' := [(2, .int (iI (sumN (u_39 3 12) 6))), (0, .ref (gAd G 0)), (1, .int (iI n))]) X dX7_tick_49 rfl (by decide) rfl ?_
        refine g_iconst X dX7_tick_50 ?_
        refine g_istore_n (lv' := [(3, .int (iI 0)), (2, .int (iI (sumN (u_39 3 12) 6))), (0, .ref (gAd G 0)), (1, .int (iI n))]) X dX7_tick_51 rfl (by decide) rfl ?_
        refine g_lv (lv' := [(0, .ref (gAd G 0)), (1, .int (iI n)), (2, .int (iI (sumN (u_39 3 12) 6))), (3, .int (iI 0))]) [2, 3, 1, 0] rfl ?_
        refine g_loop2 (fun (k : Int) (w1 : Wd) => [(0, .ref (gAd G 0)), (1, .int (iI n)), (2, .int (iI (sumN (u_39 3 12) 6))), (3, .int (iI k))]) (fun (k : Int) (w1 : Wd) => w1) (fun (k : Int) (w1 : Wd) => (0 ≤ k) ∧ (k ≤ n) ∧ (TickR (w 2) (w 3) k.toNat (w1 3)) ∧ (SV (9 * (w 3 1 0 + k)) (w 2 0 0) (w1 3)) ∧ (∀ o2, o2 ≠ 3 → o2 ≠ 11 → w1 o2 = u_39 o2) ∧ (ShC (w 2) (w1 11))) (fun (k : Int) (w1 : Wd) => (n - k).toNat) 0 u_39 ⟨(by first | omega | rfl | assumption), (by first | omega | rfl | assumption), (by exact e3), (by rw [e3, Int.add_zero]; exact hS), (by intro _ _ _; rfl), (by rw [e11]; exact hC1)⟩ ?_
        intro k w1 hI_52 ih_52
        obtain ⟨h0, h1, hti, hsv, hfo, hsc⟩ := hI_52
        try dsimp only at ih_52 ⊢
        have f2 : w1 2 = w 2 := by rw [hfo 2 (by decide) (by decide)]; exact e2
        refine g_iload_n X dX7_tick_52 rfl 3 rfl ?_
        refine g_iload_n X dX7_tick_53 rfl 1 rfl ?_
        refine g_icmp_ge (tgt := 74) X dX7_tick_54 (by decide) (by unfold InR; omega) (by exact hr_n) (fun c_54 => ?_) (fun c_54 => ?_)
        · skip
          refine g_aload_n X dX7_tick_74 rfl 0 rfl ?_
          refine g_geto (o' := 3) X ck_X7 (fx0 F) 2 (by decide) fl_X7_26 rfl (fl0_2 F) dX7_tick_75 ?_
          refine g_calli (st := []) X (c_X6_startedSoFar l G 3 w1 (fx3 F)) cm_X6_startedSoFar im_X6_startedSoFar se_X6_startedSoFar ml_X7_150 ck_X6 (fx3 F) ⟨Nat.le_of_ble_eq_true rfl, Nat.le_of_ble_eq_true rfl⟩ rfl rfl (Nat.le_of_ble_eq_true rfl) dX7_tick_78 (fn_i ?_)
          refine g_iload_n X dX7_tick_81 rfl 2 rfl ?_
          refine g_isub X dX7_tick_82 ?_
          exact g_iret X rfl rfl dX7_tick_83 (by
              rw [e12]
              have hk : k = n := by omega
              rw [hk] at hti
              refine Or.inr (Or.inr ⟨by omega, by omega, by omega, rfl, ⟨fun f j h => ?_, ?_, ?_, fun o2 h1 h2 h3 h4 => ?_⟩, hsc, hti⟩)
              · rw [hfo _ (by omega) (by omega)]; exact k1 f j h
              · rw [hfo 9 (by decide) (by decide)]; exact k2
              · rw [hfo 9 (by decide) (by decide)]; exact k3
              · rw [hfo o2 h1 h4]; exact k4 o2 h2 h3)
        · skip
          refine g_aload_n X dX7_tick_57 rfl 0 rfl ?_
          refine g_geto (o' := 10) X ck_X7 (fx0 F) 5 (by decide) fl_X7_45 rfl (fl0_5 F) dX7_tick_58 ?_
          refine g_aload_n X dX7_tick_61 rfl 0 rfl ?_
          refine g_geto (o' := 3) X ck_X7 (fx0 F) 2 (by decide) fl_X7_26 rfl (fl0_2 F) dX7_tick_62 ?_
          refine g_callv (st := []) X (c_X5_pass l G 3 (9 * (w 3 1 0 + k)) w1 F (fx3 F) (by rw [f2]; exact hp) (by rw [f2]; exact hsv) (by first | assumption | omega | (unfold InR; omega)) (by rw [f2]; exact hsc) (by first | assumption | omega | (unfold InR; omega))) cm_X5_pass im_X5_pass se_X5_pass ml_X7_153 ck_X5 (fx10 F) ⟨Nat.le_of_ble_eq_true rfl, Nat.le_of_ble_eq_true rfl⟩ rfl rfl (Nat.le_of_ble_eq_true rfl) dX7_tick_65 ?_
          rintro u_65 ⟨e, hpw, hps, hpo, hpc⟩
          refine g_iinc (j := 3) (lv' := [(3, .int (iI (k + 1))), (0, .ref (gAd G 0)), (1, .int (iI n)), (2, .int (iI (sumN (u_39 3 12) 6)))]) X dX7_tick_68 rfl (by decide) rfl ?_
          refine g_goto (tgt := 52) X dX7_tick_71 (by decide) ?_
          refine g_lv (lv' := [(0, .ref (gAd G 0)), (1, .int (iI n)), (2, .int (iI (sumN (u_39 3 12) 6))), (3, .int (iI (k + 1)))]) [1, 2, 3, 0] rfl ?_
          exact ih_52 (k + 1) u_65 ⟨(by first | omega | rfl | assumption), (by first | omega | rfl | assumption), (by rw [show (k + 1).toNat = k.toNat + 1 by omega]; rw [f2] at hpw hps; exact ⟨w1 3, e, hti, hpw, hps⟩), (by rw [f2] at hps; rw [hps]; exact sv_mono (sv_ps hp hsv (by omega)) (by omega)), (by intro o2 a b; rw [hpo o2 a b]; exact hfo o2 a b), (by rw [f2] at hpc; exact hpc)⟩ (by omega)
      · skip
        refine g_bipush X dX7_tick_28 (by decide) ?_
        exact g_iret X rfl rfl dX7_tick_30 (by exact Or.inr (Or.inl ⟨by omega, by omega, by omega, rfl, rfl⟩))
    · skip
      refine g_iconst X dX7_tick_11 ?_
      exact g_iret X rfl rfl dX7_tick_12 (by exact Or.inl ⟨by omega, rfl, rfl⟩)
set_option maxHeartbeats 4000000 in
set_option maxRecDepth 100000 in
theorem c_X7_undo (l : Launch) (G : Ly)  (w : Wd) (F : FX G) (hX : XI w) : Mi l yX7_undo cX7_undo 1 (some .int) 3 77 G [.ref (gAd G 0)] w (fun z w2 => (w 9 0 0 = 0 ∧ z = -2 ∧ w2 = w) ∨ (w 9 0 0 ≠ 0 ∧ z = w 9 0 0 - 1 ∧ (∀ f j, inS f j → w2 3 f j = w (5 + ((w 9 1 0 + 3) % 4).toNat) f j) ∧ w2 9 1 0 = (w 9 1 0 + 3) % 4 ∧ w2 9 0 0 = w 9 0 0 - 1 ∧ ∀ o2, o2 ≠ 3 → o2 ≠ 9 → w2 o2 = w o2)) := by
  refine mi_of (lv := [(0, .ref (gAd G 0))]) (by decide) (Nat.le_of_ble_eq_true rfl) rfl ?_
  intro p_ e_ s_ m_ b_ h_ c_ X
  obtain ⟨hp, hS, htk, hcl, ⟨hnx, hhd⟩, ⟨hC1, hC2, hC3⟩, ⟨hL, hT, hN⟩⟩ := id hX
  have hp0 := hp.1
  have sT := hS.1
  have sB := hS.2.1
  have sC := hS.2.2.1
  have sD := hS.2.2.2.1
  have sE := hS.2.2.2.2.1
  have sF := hS.2.2.2.2.2.1
  have hrun := bt_or (s := w 3 6 0) (t := w 3 7 0) (by omega) (by omega) (by omega) (by omega)
  have hopn := open_in hp sC.1
  refine g_aload_n X dX7_undo_0 rfl 0 rfl ?_
  refine g_geto (o' := 9) X ck_X7 (fx0 F) 4 (by decide) fl_X7_36 rfl (fl0_4 F) dX7_undo_1 ?_
  refine g_aload_n X dX7_undo_4 rfl 0 rfl ?_
  refine g_geto (o' := 3) X ck_X7 (fx0 F) 2 (by decide) fl_X7_26 rfl (fl0_2 F) dX7_undo_5 ?_
  refine g_calli (st := []) X (c_X1_giveBack l G  w F (by first | assumption | omega | (unfold InR; omega)) (by first | assumption | omega | (unfold InR; omega))) cm_X1_giveBack im_X1_giveBack se_X1_giveBack ml_X7_156 ck_X1 (fx9 F) ⟨Nat.le_of_ble_eq_true rfl, Nat.le_of_ble_eq_true rfl⟩ rfl rfl (Nat.le_of_ble_eq_true rfl) dX7_undo_8 ?_
  rintro z_8 u_8 h_8
  refine g_if_eq (tgt := 24) X dX7_undo_11 (by decide) (by rcases h_8 with h | h <;> rw [h.1] <;> exact ⟨by decide, by decide⟩) (fun c_11 => ?_) (fun c_11 => ?_)
  · skip
    refine g_bipush X dX7_undo_24 (by decide) ?_
    exact g_iret X rfl rfl dX7_undo_26 (by
        rcases h_8 with ⟨h1, h2, h3⟩ | ⟨h1, h2, h3, h4, h5, h6⟩
        · first
          | exact absurd h1 c_11
          | exact Or.inl ⟨h2, rfl, h3⟩
        · first
          | exact absurd (h1.symm.trans c_11) (by decide)
          | exact Or.inr ⟨h2, h5, h3, h4, h5, h6⟩)
  · skip
    refine g_aload_n X dX7_undo_14 rfl 0 rfl ?_
    refine g_geto (o' := 9) X ck_X7 (fx0 F) 4 (by decide) fl_X7_36 rfl (fl0_4 F) dX7_undo_15 ?_
    refine g_geti X ck_X1 (fx9 F) 0 (by decide) fl_X7_160 (Or.inl rfl) dX7_undo_18 ?_
    refine g_goto (tgt := 26) X dX7_undo_21 (by decide) ?_
    exact g_iret X rfl rfl dX7_undo_26 (by
        rcases h_8 with ⟨h1, h2, h3⟩ | ⟨h1, h2, h3, h4, h5, h6⟩
        · first
          | exact absurd h1 c_11
          | exact Or.inl ⟨h2, rfl, h3⟩
        · first
          | exact absurd (h1.symm.trans c_11) (by decide)
          | exact Or.inr ⟨h2, h5, h3, h4, h5, h6⟩)
