theorem ta_00 (pl : Nat → Nat → Int) (c : Int) (v : Nat → Int) : taX pl c v 0 0 = if c = 99 ∧ pl 0 0 < 6 then pl 0 0 + 1 else pl 0 0 := by
  unfold taX
  by_cases a : c = 99
  · rw [if_pos a]
    unfold tmX
    by_cases b : pl 0 0 < 6
    · rw [if_pos b, if_pos ⟨a, b⟩, fu_at]
    · rw [if_neg b, if_neg (fun z => b z.2)]
  · rw [if_neg a, if_neg (show ¬ (c = 99 ∧ pl 0 0 < 6) from fun z => a z.1)]
    by_cases b : c = 114
    · rw [if_pos b]; simp [fu]
    · rw [if_neg b]
      by_cases d : c = 104
      · rw [if_pos d]; simp [fu]
      · rw [if_neg d]
set_option maxHeartbeats 4000000 in
set_option maxRecDepth 100000 in
theorem c_X8_readText (l : Launch) (G : Ly) (t : Nat → Int) (u0 : Nat → Nat → Int) (w : Wd) (FM : gOb G 20 = some 8) (ht : ∀ j : Nat, (j : Int) < w 20 1 0 → w 20 0 j = t j) (hL : 0 ≤ w 20 1 0 ∧ w 20 1 0 ≤ 200) (htr : ∀ j : Nat, j < 200 → 0 ≤ t j ∧ t j ≤ 126) (h9 : ∀ j : Nat, j < 6 → 0 ≤ w 20 9 j ∧ w 20 9 j ≤ 99) : Mi l yX8_readText cX8_readText 4 (some .int) 4 91 G [.ref (gAd G 20)] w (fun z w2 => (∀ o f, ¬ (o = 20 ∧ (f = 2 ∨ f = 3 ∨ f = 9)) → w2 o f = w o f) ∧ (0 ≤ w2 20 2 0 ∧ w2 20 2 0 ≤ w 20 1 0) ∧ (∀ j : Nat, j < 6 → 0 ≤ w2 20 9 j ∧ w2 20 9 j ≤ 99) ∧ z = (scX t (w 20 1 0) 200).2.2 ∧ (z = -4 → PlR (plX t (w 20 1 0) u0 200) (w2 20 3) ∧ plX t (w 20 1 0) u0 200 0 0 = (scX t (w 20 1 0) 200).2.1)) := by
  refine mi_of (lv := [(0, .ref (gAd G 20))]) (by decide) (Nat.le_of_ble_eq_true rfl) rfl ?_
  intro p_ e_ s_ m_ b_ h_ c_ X
  refine g_aload_n X dX8_readText_0 rfl 0 rfl ?_
  refine g_callv (st := []) X (c_X8_beginRead l G  w FM) cm_X8_beginRead im_X8_beginRead se_X8_beginRead ml_X8_37 ck_X8 FM ⟨Nat.le_of_ble_eq_true rfl, Nat.le_of_ble_eq_true rfl⟩ rfl rfl (Nat.le_of_ble_eq_true rfl) dX8_readText_1 ?_
  rintro u_1 ⟨bfr, b0⟩
  refine g_aload_n X dX8_readText_4 rfl 0 rfl ?_
  refine g_iconst X dX8_readText_5 ?_
  refine g_puti X ck_X8 FM 2 (by decide) fl_X8_55 rfl rfl rfl dX8_readText_6 ?_
  obtain ⟨w_1, ew_1⟩ : ∃ q_ : Wd, q_ = up u_1 20 2 0 0 := ⟨_, rfl⟩
  refine g_w (w' := w_1) ew_1 ?_
  refine g_lv (lv' := [(0, .ref (gAd G 20))]) [0] rfl ?_
  refine g_loop1 (fun (w1 : Wd) => [(0, .ref (gAd G 20))]) (fun (w1 : Wd) => w1) (fun (w1 : Wd) => (Hid (∃ k : Nat, (k : Int) ≤ w1 20 2 0 ∧ w1 20 2 0 = (scX t (w 20 1 0) k).1 ∧ (scX t (w 20 1 0) k).2.2 = -4 ∧ PlR (plX t (w 20 1 0) u0 k) (w1 20 3) ∧ plX t (w 20 1 0) u0 k 0 0 = (scX t (w 20 1 0) k).2.1)) ∧ ((∀ o f, ¬ (o = 20 ∧ (f = 2 ∨ f = 3 ∨ f = 9)) → w1 o f = w o f)) ∧ (0 ≤ w1 20 2 0 ∧ w1 20 2 0 ≤ w 20 1 0) ∧ (∀ j : Nat, j < 6 → 0 ≤ w1 20 9 j ∧ w1 20 9 j ≤ 99)) (fun (w1 : Wd) => (w 20 1 0 - w1 20 2 0).toNat) w_1 ⟨(by
      refine ⟨0, by rw [ew_1, up_at]; exact Int.le_refl _, by rw [ew_1, up_at]; rfl, rfl, ?_, ?_⟩
      · rw [ew_1, up_fn (by decide)]; exact b0 u0
      · show p0X u0 0 0 = 0
        simp [p0X, fu]), (by intro o f h; rw [ew_1, up_fn (fun z => h ⟨z.1, by omega⟩)]; exact bfr o f (fun z => h ⟨z.1, by omega⟩)), (by rw [ew_1, up_at]; omega), (by rw [ew_1, up_fn (by decide), bfr 20 9 (by decide)]; exact h9)⟩ ?_
  intro w1 hI_9 ih_9
  obtain ⟨hk, hfr, hr, h91⟩ := hI_9
  try dsimp only at ih_9 ⊢
  have q1 : w1 20 1 0 = w 20 1 0 := by rw [hfr 20 1 (by decide)]
  have q0 : w1 20 0 = w 20 0 := hfr 20 0 (by decide)
  refine g_aload_n X dX8_readText_9 rfl 0 rfl ?_
  refine g_geti X ck_X8 FM 2 (by decide) fl_X8_55 (Or.inl rfl) dX8_readText_10 ?_
  refine g_aload_n X dX8_readText_13 rfl 0 rfl ?_
  refine g_geti X ck_X8 FM 1 (by decide) fl_X8_58 (Or.inl rfl) dX8_readText_14 ?_
  refine g_icmp_ge (tgt := 73) X dX8_readText_17 (by decide) (by unfold InR; omega) (by unfold InR; omega) (fun c_17 => ?_) (fun c_17 => ?_)
  · skip
    obtain ⟨k, k1, k2, k3, k4, k5⟩ := id hk
    have hstop : scX t (w 20 1 0) 200 = scX t (w 20 1 0) k := by
      have := scX_stop (t := t) (L := w 20 1 0) k (Or.inr (by omega)) (200 - k)
      rw [show k + (200 - k) = 200 by omega] at this
      exact this
    have hpst : plX t (w 20 1 0) u0 200 = plX t (w 20 1 0) u0 k := by
      have := plX_stop (t := t) (L := w 20 1 0) (u := u0) k (by omega) (200 - k)
      rw [show k + (200 - k) = 200 by omega] at this
      exact this
    refine g_bipush X dX8_readText_73 (by decide) ?_
    exact g_iret X rfl rfl dX8_readText_75 (by exact ⟨hfr, hr, h91, by rw [hstop, k3], fun _ => ⟨by rw [hpst]; exact k4, by rw [hpst, hstop]; exact k5⟩⟩)
  · skip
    obtain ⟨k, k1, k2, k3, k4, k5⟩ := id hk
    have hpl : w1 20 2 0 < w 20 1 0 := by omega
    have L0 := hL.1
    have hs := scX_s t (w 20 1 0) k
    rw [if_neg (by rintro (z | z); exact z k3; omega)] at hs
    rw [← k2] at hs
    have hlt : ltX t (w 20 1 0) (w1 20 2 0) = t (w1 20 2 0).toNat := by unfold ltX; rw [if_pos ⟨hr.1, hpl⟩]
    have hm := (scX_in (t := t) hL.1 k).2.1
    have hplx : plX t (w 20 1 0) u0 (k + 1) = taX (plX t (w 20 1 0) u0 k) (t (w1 20 2 0).toNat) (ivX t (w 20 1 0) (w1 20 2 0)) := by
      show (if w 20 1 0 ≤ (scX t (w 20 1 0) k).1 then _ else _) = _
      rw [if_neg (by omega), ← k2]
    have htp := htr (w1 20 2 0).toNat (by omega)
    have hti := itX_in (t := t) (p := w1 20 2 0) hL.1
    refine g_aload_n X dX8_readText_20 rfl 0 rfl ?_
    refine g_geti X ck_X8 FM 2 (by decide) fl_X8_55 (Or.inl rfl) dX8_readText_21 ?_
    refine g_istore_n (lv' := [(1, .int (iI (w1 20 2 0))), (0, .ref (gAd G 20))]) X dX8_readText_24 rfl (by decide) rfl ?_
    refine g_aload_n X dX8_readText_25 rfl 1 rfl ?_
    refine g_geta X ck_X8 FM 0 (by decide) fl_X8_7 rfl dX8_readText_26 ?_
    refine g_aload_n X dX8_readText_29 rfl 1 rfl ?_
    refine g_geti X ck_X8 FM 2 (by decide) fl_X8_55 (Or.inl rfl) dX8_readText_30 ?_
    refine h_iald (a := w1 20 2 0) (j := (w1 20 2 0).toNat) X rfl FM (by decide) (show fkX 8 0 = (1, 200) from rfl) (by decide) (by omega) (by omega) dX8_readText_33 ?_
    rw [show (w1 20 0 (w1 20 2 0).toNat : Int) = t (w1 20 2 0).toNat from (by rw [q0]; exact ht _ (by omega))]
    refine g_istore_n (lv' := [(2, .int (iI (t (w1 20 2 0).toNat))), (1, .int (iI (w1 20 2 0))), (0, .ref (gAd G 20))]) X dX8_readText_34 rfl (by decide) rfl ?_
    refine g_aload_n X dX8_readText_35 rfl 2 rfl ?_
    refine g_dup X dX8_readText_36 rfl ?_
    refine g_geti X ck_X8 FM 2 (by decide) fl_X8_55 (Or.inl rfl) dX8_readText_37 ?_
    refine g_iconst X dX8_readText_40 ?_
    refine g_iadd X dX8_readText_41 ?_
    refine g_puti X ck_X8 FM 2 (by decide) fl_X8_55 rfl rfl rfl dX8_readText_42 ?_
    obtain ⟨w_2, ew_2⟩ : ∃ q_ : Wd, q_ = up w1 20 2 0 ((w1 20 2 0) + 1) := ⟨_, rfl⟩
    refine g_w (w' := w_2) ew_2 ?_
    have w21 : w_2 20 1 0 = w 20 1 0 := by rw [ew_2, up_fn (by decide)]; exact q1
    have w2f : ∀ o f, ¬ (o = 20 ∧ (f = 2 ∨ f = 3 ∨ f = 9)) → w_2 o f = w o f := fun o f h => by rw [ew_2, up_fn (fun z => h ⟨z.1, Or.inl z.2⟩)]; exact hfr o f h
    refine g_iload_n X dX8_readText_45 rfl 0 rfl ?_
    refine g_cut2 (pc' := 63) (fun (go : Int) (w3 : Wd) => [(0, .ref (gAd G 20)), (1, .int (iI (w1 20 2 0))), (2, .int (iI (t (w1 20 2 0).toNat)))]) (fun (go : Int) (w3 : Wd) => [.int (iI go)]) (fun (go : Int) (w3 : Wd) => w3) (fun (go : Int) (w3 : Wd) => ((go = 1 ∧ scX t (w 20 1 0) (k + 1) = (itX t (w 20 1 0) (w1 20 2 0), mcX t (w1 20 2 0) (scX t (w 20 1 0) k).2.1, -4) ∧ w1 20 2 0 < w3 20 2 0 ∧ w3 20 2 0 = itX t (w 20 1 0) (w1 20 2 0) ∧ PlR (plX t (w 20 1 0) u0 (k + 1)) (w3 20 3) ∧ plX t (w 20 1 0) u0 (k + 1) 0 0 = mcX t (w1 20 2 0) (scX t (w 20 1 0) k).2.1) ∨ (go = 0 ∧ scX t (w 20 1 0) (k + 1) = (w1 20 2 0, (scX t (w 20 1 0) k).2.1, w1 20 2 0))) ∧ ((∀ o f, ¬ (o = 20 ∧ (f = 2 ∨ f = 3 ∨ f = 9)) → w3 o f = w o f)) ∧ (0 ≤ w3 20 2 0 ∧ w3 20 2 0 ≤ w 20 1 0) ∧ (∀ j : Nat, j < 6 → 0 ≤ w3 20 9 j ∧ w3 20 9 j ≤ 99)) ?_ ?_
    · intro go w3 hI_63
      obtain ⟨hg, gfr, gr, g9⟩ := hI_63
      try dsimp only
      refine g_istore_n (lv' := [(3, .int (iI go)), (0, .ref (gAd G 20)), (1, .int (iI (w1 20 2 0))), (2, .int (iI (t (w1 20 2 0).toNat)))]) X dX8_readText_63 rfl (by decide) rfl ?_
      refine g_iload_n X dX8_readText_64 rfl 0 rfl ?_
      refine g_if_ne (tgt := 70) X dX8_readText_65 (by decide) (by rcases hg with q | q <;> (rw [q.1]; exact ⟨by decide, by decide⟩)) (fun c_65 => ?_) (fun c_65 => ?_)
      · skip
        refine g_goto (tgt := 9) X dX8_readText_70 (by decide) ?_
        refine g_lv (lv' := [(0, .ref (gAd G 20))]) [1] rfl ?_
        exact ih_9 w3 ⟨(by
            rcases hg with q | q
            · refine ⟨k + 1, by omega, ?_, ?_, q.2.2.2.2.1, ?_⟩
              · rw [q.2.1]; exact q.2.2.2.1
              · rw [q.2.1]
              · rw [q.2.1]; exact q.2.2.2.2.2
            · exact absurd q.1 c_65), (by exact gfr), (by exact gr), (by exact g9)⟩ (by omega)
      · skip
        refine g_iload_n X dX8_readText_68 rfl 2 rfl ?_
        exact g_iret X rfl rfl dX8_readText_69 (by
            rcases hg with q | q
            · exact absurd (q.1.symm.trans (Classical.not_not.mp c_65)) (by decide)
            · have e2 : (scX t (w 20 1 0) (k + 1)).2.2 = w1 20 2 0 := by rw [q.2]
              have := scX_stop (t := t) (L := w 20 1 0) (k + 1) (Or.inl (by rw [e2]; omega)) (200 - (k + 1))
              rw [show k + 1 + (200 - (k + 1)) = 200 by omega] at this
              exact ⟨gfr, gr, g9, by rw [this, e2], fun z => by omega⟩)
    · intro J_63
      try dsimp only at J_63
      refine g_bipush X dX8_readText_46 (by decide) ?_
      refine g_icmp_ne (tgt := 58) X dX8_readText_48 (by decide) (by unfold InR; omega) ⟨by decide, by decide⟩ (fun c_48 => ?_) (fun c_48 => ?_)
      · skip
        refine g_aload_n X dX8_readText_58 rfl 2 rfl ?_
        refine g_iload_n X dX8_readText_59 rfl 0 rfl ?_
        refine g_calli (st := []) X (c_X8_readOther l G (t (w1 20 2 0).toNat) t (plX t (w 20 1 0) u0 k) (w1 20 2 0) w_2 FM (by rw [ew_2, up_fn (by decide), up_fn (by decide), q0, q1]; exact ht) (by rw [ew_2, up_fn (by decide), q1]; exact hL) (by first | assumption | omega | (unfold InR; omega)) (by rw [ew_2, up_fn (by decide), q1]; omega) (by rw [ew_2, up_at]) (by rw [ew_2, up_fn (by decide)]; exact k4) (by omega) (by rw [ew_2, up_fn (by decide)]; exact h91) (by rw [ew_2, up_fn (by decide), q1]; exact hlt) (by omega) (by unfold InR; omega)) cm_X8_readOther im_X8_readOther se_X8_readOther ml_X8_79 ck_X8 FM ⟨Nat.le_of_ble_eq_true rfl, Nat.le_of_ble_eq_true rfl⟩ rfl rfl (Nat.le_of_ble_eq_true rfl) dX8_readText_60 ?_
        rintro z_60 u_60 ⟨ifr, iat, i9, hz⟩
        rw [w21] at iat hz
        refine g_lv (lv' := [(0, .ref (gAd G 20)), (1, .int (iI (w1 20 2 0))), (2, .int (iI (t (w1 20 2 0).toNat)))]) [2, 1, 0] rfl ?_
        exact J_63 z_60 u_60 ⟨(by
            have mc := mcX_in t (w1 20 2 0) (scX t (w 20 1 0) k).2.1
            have t0 := ta_00 (plX t (w 20 1 0) u0 k) (t (w1 20 2 0).toNat) (ivX t (w 20 1 0) (w1 20 2 0))
            rcases hz with q | q
            · first
              | (have hc := c_48
                 have hmc : mcX t (w1 20 2 0) (scX t (w 20 1 0) k).2.1 = (scX t (w 20 1 0) k).2.1 := (by unfold mcX; rw [if_neg hc])
                 rw [if_neg (fun z => hc z.1)] at t0
                 refine Or.inl ⟨q.1, ?_, ?_, q.2.2.1, ?_, ?_⟩
                 · rw [hs, if_neg (by rintro (z | z); exact q.2.1 z; omega)]
                 · omega
                 · rw [hplx]; exact q.2.2.2
                 · rw [hplx, t0, k5, hmc])
              | (have hc : t (w1 20 2 0).toNat = 99 := Classical.not_not.mp c_48
                 have hmc : mcX t (w1 20 2 0) (scX t (w 20 1 0) k).2.1 = (scX t (w 20 1 0) k).2.1 + 1 := (by unfold mcX; rw [if_pos hc])
                 rw [if_pos ⟨hc, q.2.1⟩] at t0
                 refine Or.inl ⟨q.1, ?_, ?_, q.2.2.2.1, ?_, ?_⟩
                 · rw [hs, if_neg (by rintro (z | z); exact q.2.2.1 z; omega)]
                 · omega
                 · rw [hplx, hc]; exact q.2.2.2.2
                 · rw [hplx, t0, k5, hmc])
            · refine Or.inr ⟨q.1, ?_⟩
              rw [hs, if_pos]
              first
              | exact Or.inl q.2
              | (rcases q.2 with z | z
                 · right
                   unfold mcX
                   rw [if_pos (Classical.not_not.mp c_48)]
                   omega
                 · exact Or.inl z)), (by intro o f h; rw [ifr o f h]; exact w2f o f h), (by exact iat), (by exact i9)⟩
      · skip
        refine g_aload_n X dX8_readText_51 rfl 2 rfl ?_
        refine g_calli (st := []) X (c_X8_readMachine l G t (plX t (w 20 1 0) u0 k) (w1 20 2 0) w_2 FM (by rw [ew_2, up_fn (by decide), up_fn (by decide), q0, q1]; exact ht) (by rw [ew_2, up_fn (by decide), q1]; exact hL) (by first | assumption | omega | (unfold InR; omega)) (by rw [ew_2, up_fn (by decide), q1]; omega) (by rw [ew_2, up_at]) (by rw [ew_2, up_fn (by decide)]; exact k4) (by omega) (by rw [ew_2, up_fn (by decide)]; exact h91) (by rw [ew_2, up_fn (by decide), q1, hlt]; omega)) cm_X8_readMachine im_X8_readMachine se_X8_readMachine ml_X8_76 ck_X8 FM ⟨Nat.le_of_ble_eq_true rfl, Nat.le_of_ble_eq_true rfl⟩ rfl rfl (Nat.le_of_ble_eq_true rfl) dX8_readText_52 ?_
        rintro z_52 u_52 ⟨ifr, iat, i9, hz⟩
        rw [w21] at iat hz
        refine g_goto (tgt := 63) X dX8_readText_55 (by decide) ?_
        refine g_lv (lv' := [(0, .ref (gAd G 20)), (1, .int (iI (w1 20 2 0))), (2, .int (iI (t (w1 20 2 0).toNat)))]) [2, 1, 0] rfl ?_
        exact J_63 z_52 u_52 ⟨(by
            have mc := mcX_in t (w1 20 2 0) (scX t (w 20 1 0) k).2.1
            have t0 := ta_00 (plX t (w 20 1 0) u0 k) (t (w1 20 2 0).toNat) (ivX t (w 20 1 0) (w1 20 2 0))
            rcases hz with q | q
            · first
              | (have hc := c_48
                 have hmc : mcX t (w1 20 2 0) (scX t (w 20 1 0) k).2.1 = (scX t (w 20 1 0) k).2.1 := (by unfold mcX; rw [if_neg hc])
                 rw [if_neg (fun z => hc z.1)] at t0
                 refine Or.inl ⟨q.1, ?_, ?_, q.2.2.1, ?_, ?_⟩
                 · rw [hs, if_neg (by rintro (z | z); exact q.2.1 z; omega)]
                 · omega
                 · rw [hplx]; exact q.2.2.2
                 · rw [hplx, t0, k5, hmc])
              | (have hc : t (w1 20 2 0).toNat = 99 := Classical.not_not.mp c_48
                 have hmc : mcX t (w1 20 2 0) (scX t (w 20 1 0) k).2.1 = (scX t (w 20 1 0) k).2.1 + 1 := (by unfold mcX; rw [if_pos hc])
                 rw [if_pos ⟨hc, q.2.1⟩] at t0
                 refine Or.inl ⟨q.1, ?_, ?_, q.2.2.2.1, ?_, ?_⟩
                 · rw [hs, if_neg (by rintro (z | z); exact q.2.2.1 z; omega)]
                 · omega
                 · rw [hplx, hc]; exact q.2.2.2.2
                 · rw [hplx, t0, k5, hmc])
            · refine Or.inr ⟨q.1, ?_⟩
              rw [hs, if_pos]
              first
              | exact Or.inl q.2
              | (rcases q.2 with z | z
                 · right
                   unfold mcX
                   rw [if_pos (Classical.not_not.mp c_48)]
                   omega
                 · exact Or.inl z)), (by intro o f h; rw [ifr o f h]; exact w2f o f h), (by exact iat), (by exact i9)⟩
