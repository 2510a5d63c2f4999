theorem plr_cg {pl : Nat → Nat → Int} {T E : Nat → Int} (h : PlR pl T) (hE : ∀ j, j < 44 → E j = T j) (h6 : pl 0 0 ≤ 6) : PlR pl E :=
  ⟨by rw [hE 36 (by decide)]; exact h.1, fun m f hm hf => by rw [hE _ (by omega)]; exact h.2.1 m f hm hf, fun f h1 h2 => by rw [hE _ (by omega)]; exact h.2.2 f h1 h2⟩
set_option maxHeartbeats 4000000 in
set_option maxRecDepth 100000 in
theorem c_X8_fault (l : Launch) (G : Ly) (t : Nat → Int) (u0 : Nat → Nat → Int) (w : Wd) (FM : gOb G 20 = some 8) (ht : ∀ j : Nat, (j : Int) < w 20 1 0 → w 20 0 j = t j) (hL : 0 ≤ w 20 1 0 ∧ w 20 1 0 ≤ 200) (htr : ∀ j : Nat, j < 200 → 0 ≤ t j ∧ t j ≤ 126) (h9 : ∀ j : Nat, j < 6 → 0 ≤ w 20 9 j ∧ w 20 9 j ≤ 99) : Mi l yX8_fault cX8_fault 1 (some .int) 5 114 G [.ref (gAd G 20)] w (fun z w2 => (∀ o f, ¬ (o = 20 ∧ (f = 2 ∨ f = 3 ∨ f = 9)) → w2 o f = w o f) ∧ (0 ≤ w2 20 2 0 ∧ w2 20 2 0 ≤ w 20 1 0) ∧ (∀ j : Nat, j < 6 → 0 ≤ w2 20 9 j ∧ w2 20 9 j ≤ 99) ∧ z = (scX t (w 20 1 0) 200).2.2 ∧ (z = -4 → PlR (plX t (w 20 1 0) u0 200) (w2 20 3) ∧ plX t (w 20 1 0) u0 200 0 0 = (scX t (w 20 1 0) 200).2.1)) := by
  refine mi_of (lv := [(0, .ref (gAd G 20))]) (by decide) (Nat.le_of_ble_eq_true rfl) rfl ?_
  intro p_ e_ s_ m_ b_ h_ c_ X
  refine g_aload_n X dX8_fault_0 rfl 0 rfl ?_
  refine g_calli (st := []) X (c_X8_readText l G t u0 w FM (by first | assumption | omega | (unfold InR; omega)) (by first | assumption | omega | (unfold InR; omega)) (by first | assumption | omega | (unfold InR; omega)) (by first | assumption | omega | (unfold InR; omega))) cm_X8_readText im_X8_readText se_X8_readText ml_X8_82 ck_X8 FM ⟨Nat.le_of_ble_eq_true rfl, Nat.le_of_ble_eq_true rfl⟩ rfl rfl (Nat.le_of_ble_eq_true rfl) dX8_fault_1 ?_
  rintro z_1 u_1 h_1
  exact g_iret X rfl rfl dX8_fault_4 (by exact h_1)
set_option maxHeartbeats 4000000 in
set_option maxRecDepth 100000 in
theorem c_X8_lay (l : Launch) (G : Ly) (t : Nat → Int) (u0 : Nat → Nat → Int) (w : Wd) (FM : gOb G 20 = some 8) (ht : ∀ j : Nat, (j : Int) < w 20 1 0 → w 20 0 j = t j) (hL : 0 ≤ w 20 1 0 ∧ w 20 1 0 ≤ 200) (htr : ∀ j : Nat, j < 200 → 0 ≤ t j ∧ t j ≤ 126) (h9 : ∀ j : Nat, j < 6 → 0 ≤ w 20 9 j ∧ w 20 9 j ≤ 99) : Mi l yX8_lay cX8_lay 1 (some .int) 5 114 G [.ref (gAd G 20)] w (fun z w2 => ((scX t (w 20 1 0) 200).2.2 ≠ -4 ∨ (scX t (w 20 1 0) 200).2.1 = 0) ∧ z = -2 ∧ (∀ o f, ¬ (o = 20 ∧ (f = 2 ∨ f = 3 ∨ f = 9)) → w2 o f = w o f) ∧ (0 ≤ w2 20 2 0 ∧ w2 20 2 0 ≤ w 20 1 0) ∧ (∀ j : Nat, j < 6 → 0 ≤ w2 20 9 j ∧ w2 20 9 j ≤ 99) ∨ (scX t (w 20 1 0) 200).2.2 = -4 ∧ (scX t (w 20 1 0) 200).2.1 ≠ 0 ∧ z = (scX t (w 20 1 0) 200).2.1 ∧ PlR (plX t (w 20 1 0) u0 200) (w2 20 4) ∧ w2 20 8 0 = 0 ∧ w2 20 11 0 = 0 ∧ (∀ j : Nat, j < 101 → w2 20 5 j = d0X j) ∧ (∀ o f, ¬ (o = 20 ∧ (f = 2 ∨ f = 3 ∨ f = 4 ∨ f = 5 ∨ f = 8 ∨ f = 9 ∨ f = 11)) → w2 o f = w o f) ∧ (0 ≤ w2 20 2 0 ∧ w2 20 2 0 ≤ w 20 1 0) ∧ (∀ j : Nat, j < 6 → 0 ≤ w2 20 9 j ∧ w2 20 9 j ≤ 99)) := by
  refine mi_of (lv := [(0, .ref (gAd G 20))]) (by decide) (Nat.le_of_ble_eq_true rfl) rfl ?_
  intro p_ e_ s_ m_ b_ h_ c_ X
  refine g_aload_n X dX8_lay_0 rfl 0 rfl ?_
  refine g_calli (st := []) X (c_X8_readText l G t u0 w FM (by first | assumption | omega | (unfold InR; omega)) (by first | assumption | omega | (unfold InR; omega)) (by first | assumption | omega | (unfold InR; omega)) (by first | assumption | omega | (unfold InR; omega))) cm_X8_readText im_X8_readText se_X8_readText ml_X8_82 ck_X8 FM ⟨Nat.le_of_ble_eq_true rfl, Nat.le_of_ble_eq_true rfl⟩ rfl rfl (Nat.le_of_ble_eq_true rfl) dX8_lay_1 ?_
  rintro z_1 u_1 ⟨rfr, rat, r9, rz, rp⟩
  have hsi := scX_in (t := t) hL.1 200
  have rzr : z_1 = -4 ∨ (0 ≤ z_1 ∧ z_1 < 200) := by rw [rz]; omega
  refine g_bipush X dX8_lay_4 (by decide) ?_
  refine g_icmp_ne (tgt := 19) X dX8_lay_6 (by decide) (by unfold InR; omega) ⟨by decide, by decide⟩ (fun c_6 => ?_) (fun c_6 => ?_)
  · skip
    refine g_bipush X dX8_lay_19 (by decide) ?_
    exact g_iret X rfl rfl dX8_lay_21 (by refine Or.inl ⟨?_, rfl, rfr, rat, r9⟩; first | exact Or.inl (by omega) | exact Or.inr (by omega))
  · skip
    have rpp := rp (by omega)
    have e36 : u_1 20 3 36 = (scX t (w 20 1 0) 200).2.1 := by rw [rpp.1.1]; exact rpp.2
    refine g_aload_n X dX8_lay_9 rfl 0 rfl ?_
    refine g_geta X ck_X8 FM 3 (by decide) fl_X8_13 rfl dX8_lay_10 ?_
    refine g_bipush X dX8_lay_13 (by decide) ?_
    refine h_iald (a := 36) (j := 36) X rfl FM (by decide) (show fkX 8 3 = (1, 44) from rfl) (by decide) (by omega) (by omega) dX8_lay_15 ?_
    rw [show (u_1 20 3 36 : Int) = (scX t (w 20 1 0) 200).2.1 from e36]
    refine g_if_ne (tgt := 22) X dX8_lay_16 (by decide) (by unfold InR; omega) (fun c_16 => ?_) (fun c_16 => ?_)
    · skip
      refine g_aload_n X dX8_lay_22 rfl 0 rfl ?_
      refine g_callv (st := []) X (c_X8_takeRead l G  u_1 FM) cm_X8_takeRead im_X8_takeRead se_X8_takeRead ml_X8_44 ck_X8 FM ⟨Nat.le_of_ble_eq_true rfl, Nat.le_of_ble_eq_true rfl⟩ rfl rfl (Nat.le_of_ble_eq_true rfl) dX8_lay_23 ?_
      rintro u_23 ⟨tfr, t4, t8, t11, t5⟩
      refine g_aload_n X dX8_lay_26 rfl 0 rfl ?_
      refine g_geta X ck_X8 FM 4 (by decide) fl_X8_16 rfl dX8_lay_27 ?_
      refine g_bipush X dX8_lay_30 (by decide) ?_
      refine h_iald (a := 36) (j := 36) X rfl FM (by decide) (show fkX 8 4 = (1, 44) from rfl) (by decide) (by omega) (by omega) dX8_lay_32 ?_
      exact g_iret X rfl rfl dX8_lay_33 (by
          refine Or.inr ⟨by omega, by omega, ?_, plr_cg rpp.1 t4 (by omega), t8, t11, t5, fun o f h => ?_, ?_, ?_⟩
          · rw [t4 36 (by decide)]; exact e36
          · rw [tfr o f (fun z => h ⟨z.1, by omega⟩)]; exact rfr o f (fun z => h ⟨z.1, by omega⟩)
          · rw [tfr 20 2 (by decide)]; exact rat
          · rw [tfr 20 9 (by decide)]; exact r9)
    · skip
      refine g_bipush X dX8_lay_19 (by decide) ?_
      exact g_iret X rfl rfl dX8_lay_21 (by refine Or.inl ⟨?_, rfl, rfr, rat, r9⟩; first | exact Or.inl (by omega) | exact Or.inr (by omega))
