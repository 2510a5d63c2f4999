theorem bor_0 {s : Int} (h0 : 0 ≤ s) (h1 : s < 64) : bor s 0 = s :=
  fin1 (P := fun s => bor s 0 = s) (by decide +kernel) h0 h1
theorem nev_in {a b : Int} (h : nev a b) : a = b ∨ (a = -100000 ∧ b = -1000) := h
/-- so many of the last starts lie within the window -/
theorem many_ok {r : Nat → Int} {s : Int → Int} {t : Int} (ht : 0 ≤ t) (h : ∀ k : Nat, k < 9 → (s ((k : Int) + 1) = r k ∨ (s ((k : Int) + 1) = -100000 ∧ r k = -1000)) ∧ -100000 ≤ s ((k : Int) + 1) ∧ s ((k : Int) + 1) ≤ 100000) (hm : ∀ k : Nat, 1 ≤ k → k ≤ 8 → s ((k : Int) + 1) ≤ s k) {p : Int} (p1 : 1 ≤ p) (p2 : p ≤ 9) :
    sumN (fun i => if t - 59 ≤ r i then 1 else 0) 9 < p ↔ 60 ≤ t - s p := by
  have e : ∀ k : Nat, k < 9 → (if t - 59 ≤ r k then (1 : Int) else 0) = (if t - 59 ≤ s ((k : Int) + 1) then 1 else 0) := by
    intro k hk
    have := h k hk
    by_cases q : t - 59 ≤ r k
    · rw [if_pos q, if_pos (by omega)]
    · rw [if_neg q, if_neg (by omega)]
  rw [sumN_congr 9 e]
  have h1 : s 2 ≤ s 1 := hm 1 (by decide) (by decide)
  have h2 : s 3 ≤ s 2 := hm 2 (by decide) (by decide)
  have h3 : s 4 ≤ s 3 := hm 3 (by decide) (by decide)
  have h4 : s 5 ≤ s 4 := hm 4 (by decide) (by decide)
  have h5 : s 6 ≤ s 5 := hm 5 (by decide) (by decide)
  have h6 : s 7 ≤ s 6 := hm 6 (by decide) (by decide)
  have h7 : s 8 ≤ s 7 := hm 7 (by decide) (by decide)
  have h8 : s 9 ≤ s 8 := hm 8 (by decide) (by decide)
  show 0 + (if t - 59 ≤ s 1 then (1 : Int) else 0) + (if t - 59 ≤ s 2 then 1 else 0) + (if t - 59 ≤ s 3 then 1 else 0) + (if t - 59 ≤ s 4 then 1 else 0) + (if t - 59 ≤ s 5 then 1 else 0) + (if t - 59 ≤ s 6 then 1 else 0) + (if t - 59 ≤ s 7 then 1 else 0) + (if t - 59 ≤ s 8 then 1 else 0) + (if t - 59 ≤ s 9 then 1 else 0) < p ↔ _
  rcases (show p = 1 ∨ p = 2 ∨ p = 3 ∨ p = 4 ∨ p = 5 ∨ p = 6 ∨ p = 7 ∨ p = 8 ∨ p = 9 by omega) with rfl | rfl | rfl | rfl | rfl | rfl | rfl | rfl | rfl <;> omega
set_option maxHeartbeats 4000000 in
set_option maxRecDepth 100000 in
theorem c_X8_lockedOnes (l : Launch) (G : Ly) (pl : Nat → Nat → Int) (u : Nat → Nat → Int) (B : Int) (w : Wd) (FM : gOb G 20 = some 8) (hT : PlR pl (w 20 4)) (hp : PV pl) (hR : RS u (w 20 5)) (hS : SV B (pl 0 0) u) (hU : SU (pl 0 0) u) (hB : B ≤ 99000) : Mi l yX8_lockedOnes cX8_lockedOnes 3 (some .int) 1 22 G [.ref (gAd G 20)] w (fun z w2 => z = (u 5 0) ∧ w2 = w) := by
  refine mi_of (lv := [(0, .ref (gAd G 20))]) (by decide) (Nat.le_of_ble_eq_true rfl) rfl ?_
  intro p_ e_ s_ m_ b_ h_ c_ X
  have hp0 := hp.1
  have hp7 := hp.2.2
  have t36 := hT.1
  have sT := hS.1
  have sB := hS.2.1
  have sC := hS.2.2.1
  have sD := hS.2.2.2.1
  have sE := hS.2.2.2.2.1
  have sF := hS.2.2.2.2.2.1
  have sG := hS.2.2.2.2.2.2.1
  have sH := hS.2.2.2.2.2.2.2
  have rT := hR.1
  have rB := hR.2.1
  have rL := hR.2.2.1
  have rM := hR.2.2.2
  have uA := hU.1
  have hrun := bt_or (s := u 6 0) (t := u 7 0) (by omega) (by omega) (by omega) (by omega)
  have hbig : ∀ j : Nat, pl 0 0 ≤ (j : Int) → j < 6 → tb (u 5 0) j = 0 := by
    intro j a b
    exact hU.2.2.2.1 j a b
  refine g_iconst X dX8_lockedOnes_0 ?_
  refine g_istore_n (lv' := [(1, .int (iI 0)), (0, .ref (gAd G 20))]) X dX8_lockedOnes_1 rfl (by decide) rfl ?_
  refine g_iconst X dX8_lockedOnes_2 ?_
  refine g_istore_n (lv' := [(2, .int (iI 0)), (1, .int (iI 0)), (0, .ref (gAd G 20))]) X dX8_lockedOnes_3 rfl (by decide) rfl ?_
  refine g_lv (lv' := [(0, .ref (gAd G 20)), (1, .int (iI 0)), (2, .int (iI 0))]) [2, 1, 0] rfl ?_
  refine g_loop2 (fun (set : Int) (k : Int) => [(0, .ref (gAd G 20)), (1, .int (iI set)), (2, .int (iI k))]) (fun (set : Int) (k : Int) => w) (fun (set : Int) (k : Int) => (0 ≤ k) ∧ (k ≤ pl 0 0) ∧ (0 ≤ set ∧ set < 64) ∧ (∀ j : Nat, j < 6 → tb set j = if (j : Int) < k then tb (u 5 0) j else 0)) (fun (set : Int) (k : Int) => (pl 0 0 - k).toNat) 0 0 ⟨(by first | omega | rfl | assumption), (by first | omega | rfl | assumption), (by first | omega | rfl | assumption), (by intro j hj; rw [if_neg (by omega), tb_0])⟩ ?_
  intro set k hI_4 ih_4
  obtain ⟨h0, h1, hs, hb⟩ := hI_4
  try dsimp only at ih_4 ⊢
  refine g_iload_n X dX8_lockedOnes_4 rfl 2 rfl ?_
  refine g_aload_n X dX8_lockedOnes_5 rfl 0 rfl ?_
  refine g_geta X ck_X8 FM 4 (by decide) fl_X8_16 rfl dX8_lockedOnes_6 ?_
  refine g_bipush X dX8_lockedOnes_9 (by decide) ?_
  refine h_iald (a := 36) (j := 36) X rfl FM (by decide) (show fkX 8 4 = (1, 44) from rfl) (by decide) (by omega) (by omega) dX8_lockedOnes_11 ?_
  refine g_icmp_ge (tgt := 41) X dX8_lockedOnes_12 (by decide) (by unfold InR; omega) (by unfold InR; omega) (fun c_12 => ?_) (fun c_12 => ?_)
  · skip
    refine g_iload_n X dX8_lockedOnes_41 rfl 1 rfl ?_
    exact g_iret X rfl rfl dX8_lockedOnes_42 (by
        refine ⟨?_, rfl⟩
        refine bt_ext hs.1 hs.2 (by omega) (by omega) (fun j hj => ?_)
        rw [hb j hj]
        by_cases e : (j : Int) < k
        · rw [if_pos e]
        · rw [if_neg e]
          have hz := hbig j (by omega) hj
          omega)
  · skip
    have hkn : k < pl 0 0 := by omega
    have ho := rM k.toNat (by omega)
    have t5 := tb01 (u 5 0) k.toNat
    have t6 := tb01 (u 6 0) k.toNat
    have t7 := tb01 (u 7 0) k.toNat
    have ua := uA k.toNat (by omega)
    have hrk := hrun.2.2 k.toNat (by omega)
    refine g_iload_n X dX8_lockedOnes_15 rfl 1 rfl ?_
    refine g_cut1 (pc' := 33) (fun (x : Int) => [(0, .ref (gAd G 20)), (1, .int (iI set)), (2, .int (iI k))]) (fun (x : Int) => [.int (iI x), .int (iI set)]) (fun (x : Int) => w) (fun (x : Int) => ((tb (u 5 0) k.toNat = 1 ∧ x = bshl 1 k) ∨ (tb (u 5 0) k.toNat = 0 ∧ x = 0))) ?_ ?_
    · intro x hI_33
      have hx := hI_33
      try dsimp only at hx ⊢
      have hst := bt_set hs.1 hs.2 h0 (show k < 6 by omega)
      have hz := bor_0 hs.1 hs.2
      have hn : (0 ≤ bor set x ∧ bor set x < 64) ∧ ∀ j : Nat, j < 6 → tb (bor set x) j = if (j : Int) < k + 1 then tb (u 5 0) j else 0 := by
        rcases hx with ⟨q1, q2⟩ | ⟨q1, q2⟩
        · rw [q2]
          refine ⟨⟨hst.1, hst.2.1⟩, fun j hj => ?_⟩
          rw [hst.2.2 j hj]
          by_cases e : j = k.toNat
          · rw [if_pos e, if_pos (by omega), e, q1]
          · rw [if_neg e, hb j hj]
            by_cases e2 : (j : Int) < k
            · rw [if_pos e2, if_pos (by omega)]
            · rw [if_neg e2, if_neg (by omega)]
        · rw [q2, hz]
          refine ⟨hs, fun j hj => ?_⟩
          rw [hb j hj]
          by_cases e2 : (j : Int) < k
          · rw [if_pos e2, if_pos (by omega)]
          · rw [if_neg e2]
            by_cases e : j = k.toNat
            · rw [if_pos (by omega), e, q1]
            · rw [if_neg (by omega)]
      refine g_ior X dX8_lockedOnes_33 ?_
      refine g_istore_n (lv' := [(1, .int (iI (bor set x))), (0, .ref (gAd G 20)), (2, .int (iI k))]) X dX8_lockedOnes_34 rfl (by decide) rfl ?_
      refine g_iinc (j := 2) (lv' := [(2, .int (iI (k + 1))), (1, .int (iI (bor set x))), (0, .ref (gAd G 20))]) X dX8_lockedOnes_35 rfl (by decide) rfl ?_
      refine g_goto (tgt := 4) X dX8_lockedOnes_38 (by decide) ?_
      refine g_lv (lv' := [(0, .ref (gAd G 20)), (1, .int (iI (bor set x))), (2, .int (iI (k + 1)))]) [2, 1, 0] rfl ?_
      exact ih_4 (bor set x) (k + 1) ⟨(by first | omega | rfl | assumption), (by first | omega | rfl | assumption), (by exact hn.1), (by exact hn.2)⟩ (by omega)
    · intro J_33
      try dsimp only at J_33
      refine g_aload_n X dX8_lockedOnes_16 rfl 0 rfl ?_
      refine g_iload_n X dX8_lockedOnes_17 rfl 2 rfl ?_
      refine g_iconst X dX8_lockedOnes_18 ?_
      refine g_calli (st := [.int (iI set)]) X (c_X8_own l G k 3 w FM (by first | assumption | omega | (unfold InR; omega)) (by first | assumption | omega | (unfold InR; omega))) cm_X8_own im_X8_own se_X8_own ml_X8_122 ck_X8 FM ⟨Nat.le_of_ble_eq_true rfl, Nat.le_of_ble_eq_true rfl⟩ rfl rfl (Nat.le_of_ble_eq_true rfl) dX8_lockedOnes_19 (fn_i ?_)
      rw [show (w 20 5 (17 + 14 * k + 3).toNat : Int) = tb (u 5 0) k.toNat from (by rw [show (17 + 14 * k + 3).toNat = 20 + 14 * k.toNat by omega]; exact ho.2.2.2.1)]
      refine g_iconst X dX8_lockedOnes_22 ?_
      refine g_icmp_ne (tgt := 32) X dX8_lockedOnes_23 (by decide) (by unfold InR; omega) (by unfold InR; omega) (fun c_23 => ?_) (fun c_23 => ?_)
      · skip
        refine g_iconst X dX8_lockedOnes_32 ?_
        refine g_lv (lv' := [(0, .ref (gAd G 20)), (1, .int (iI set)), (2, .int (iI k))]) [0, 1, 2] rfl ?_
        exact J_33 0 (by first | exact Or.inl ⟨by omega, rfl⟩ | exact Or.inr ⟨by omega, rfl⟩)
      · skip
        refine g_iconst X dX8_lockedOnes_26 ?_
        refine g_iload_n X dX8_lockedOnes_27 rfl 2 rfl ?_
        refine g_ishl X dX8_lockedOnes_28 ?_
        refine g_goto (tgt := 33) X dX8_lockedOnes_29 (by decide) ?_
        refine g_lv (lv' := [(0, .ref (gAd G 20)), (1, .int (iI set)), (2, .int (iI k))]) [0, 1, 2] rfl ?_
        exact J_33 (bshl 1 k) (by first | exact Or.inl ⟨by omega, rfl⟩ | exact Or.inr ⟨by omega, rfl⟩)
set_option maxHeartbeats 4000000 in
set_option maxRecDepth 100000 in
theorem c_X8_standing (l : Launch) (G : Ly) (least : Int) (pl : Nat → Nat → Int) (u : Nat → Nat → Int) (B : Int) (sx : Int) (w : Wd) (FM : gOb G 20 = some 8) (hT : PlR pl (w 20 4)) (hp : PV pl) (hR : RS u (w 20 5)) (hS : SV B (pl 0 0) u) (hU : SU (pl 0 0) u) (hB : B ≤ 99000) (hsx : (least = 1 ∧ sx = runX u) ∨ (least = 2 ∧ sx = u 7 0)) : Mi l yX8_standing cX8_standing 4 (some .int) 1 22 G [.ref (gAd G 20), .int (iI least)] w (fun z w2 => z = sx ∧ w2 = w) := by
  refine mi_of (lv := [(0, .ref (gAd G 20)), (1, .int (iI least))]) (by decide) (Nat.le_of_ble_eq_true rfl) rfl ?_
  intro p_ e_ s_ m_ b_ h_ c_ X
  have hp0 := hp.1
  have hp7 := hp.2.2
  have t36 := hT.1
  have sT := hS.1
  have sB := hS.2.1
  have sC := hS.2.2.1
  have sD := hS.2.2.2.1
  have sE := hS.2.2.2.2.1
  have sF := hS.2.2.2.2.2.1
  have sG := hS.2.2.2.2.2.2.1
  have sH := hS.2.2.2.2.2.2.2
  have rT := hR.1
  have rB := hR.2.1
  have rL := hR.2.2.1
  have rM := hR.2.2.2
  have uA := hU.1
  have hrun := bt_or (s := u 6 0) (t := u 7 0) (by omega) (by omega) (by omega) (by omega)
  have hsxr : 0 ≤ sx ∧ sx < 64 := by rcases hsx with ⟨q1, q2⟩ | ⟨q1, q2⟩ <;> rw [q2] <;> first | exact ⟨hrun.1, hrun.2.1⟩ | omega
  have hbig : ∀ j : Nat, pl 0 0 ≤ (j : Int) → j < 6 → tb (sx) j = 0 := by
    intro j a b
    have h1 := sH j a b
    have h2 := hrun.2.2 j b
    rcases hsx with ⟨q1, q2⟩ | ⟨q1, q2⟩ <;> rw [q2]
    · show tb (bor (u 6 0) (u 7 0)) j = 0
      rw [h2, h1.1, h1.2]
      rfl
    · exact h1.2
  refine g_iconst X dX8_standing_0 ?_
  refine g_istore_n (lv' := [(2, .int (iI 0)), (0, .ref (gAd G 20)), (1, .int (iI least))]) X dX8_standing_1 rfl (by decide) rfl ?_
  refine g_iconst X dX8_standing_2 ?_
  refine g_istore_n (lv' := [(3, .int (iI 0)), (2, .int (iI 0)), (0, .ref (gAd G 20)), (1, .int (iI least))]) X dX8_standing_3 rfl (by decide) rfl ?_
  refine g_lv (lv' := [(0, .ref (gAd G 20)), (1, .int (iI least)), (2, .int (iI 0)), (3, .int (iI 0))]) [2, 3, 1, 0] rfl ?_
  refine g_loop2 (fun (set : Int) (k : Int) => [(0, .ref (gAd G 20)), (1, .int (iI least)), (2, .int (iI set)), (3, .int (iI k))]) (fun (set : Int) (k : Int) => w) (fun (set : Int) (k : Int) => (0 ≤ k) ∧ (k ≤ pl 0 0) ∧ (0 ≤ set ∧ set < 64) ∧ (∀ j : Nat, j < 6 → tb set j = if (j : Int) < k then tb (sx) j else 0)) (fun (set : Int) (k : Int) => (pl 0 0 - k).toNat) 0 0 ⟨(by first | omega | rfl | assumption), (by first | omega | rfl | assumption), (by first | omega | rfl | assumption), (by intro j hj; rw [if_neg (by omega), tb_0])⟩ ?_
  intro set k hI_4 ih_4
  obtain ⟨h0, h1, hs, hb⟩ := hI_4
  try dsimp only at ih_4 ⊢
  refine g_iload_n X dX8_standing_4 rfl 3 rfl ?_
  refine g_aload_n X dX8_standing_5 rfl 0 rfl ?_
  refine g_geta X ck_X8 FM 4 (by decide) fl_X8_16 rfl dX8_standing_6 ?_
  refine g_bipush X dX8_standing_9 (by decide) ?_
  refine h_iald (a := 36) (j := 36) X rfl FM (by decide) (show fkX 8 4 = (1, 44) from rfl) (by decide) (by omega) (by omega) dX8_standing_11 ?_
  refine g_icmp_ge (tgt := 41) X dX8_standing_12 (by decide) (by unfold InR; omega) (by unfold InR; omega) (fun c_12 => ?_) (fun c_12 => ?_)
  · skip
    refine g_iload_n X dX8_standing_41 rfl 2 rfl ?_
    exact g_iret X rfl rfl dX8_standing_42 (by
        refine ⟨?_, rfl⟩
        refine bt_ext hs.1 hs.2 (by omega) (by omega) (fun j hj => ?_)
        rw [hb j hj]
        by_cases e : (j : Int) < k
        · rw [if_pos e]
        · rw [if_neg e]
          have hz := hbig j (by omega) hj
          omega)
  · skip
    have hkn : k < pl 0 0 := by omega
    have ho := rM k.toNat (by omega)
    have t5 := tb01 (u 5 0) k.toNat
    have t6 := tb01 (u 6 0) k.toNat
    have t7 := tb01 (u 7 0) k.toNat
    have ua := uA k.toNat (by omega)
    have hrk := hrun.2.2 k.toNat (by omega)
    have tsx : (least ≤ tb (u 6 0) k.toNat + 2 * tb (u 7 0) k.toNat → tb sx k.toNat = 1) ∧ (¬ least ≤ tb (u 6 0) k.toNat + 2 * tb (u 7 0) k.toNat → tb sx k.toNat = 0) := by
      rcases hsx with ⟨q1, q2⟩ | ⟨q1, q2⟩ <;> rw [q1, q2]
      · have hrk2 : tb (runX u) k.toNat = max (tb (u 6 0) k.toNat) (tb (u 7 0) k.toNat) := hrk
        omega
      · omega
    refine g_iload_n X dX8_standing_15 rfl 2 rfl ?_
    refine g_cut1 (pc' := 33) (fun (x : Int) => [(0, .ref (gAd G 20)), (1, .int (iI least)), (2, .int (iI set)), (3, .int (iI k))]) (fun (x : Int) => [.int (iI x), .int (iI set)]) (fun (x : Int) => w) (fun (x : Int) => ((tb (sx) k.toNat = 1 ∧ x = bshl 1 k) ∨ (tb (sx) k.toNat = 0 ∧ x = 0))) ?_ ?_
    · intro x hI_33
      have hx := hI_33
      try dsimp only at hx ⊢
      have hst := bt_set hs.1 hs.2 h0 (show k < 6 by omega)
      have hz := bor_0 hs.1 hs.2
      have hn : (0 ≤ bor set x ∧ bor set x < 64) ∧ ∀ j : Nat, j < 6 → tb (bor set x) j = if (j : Int) < k + 1 then tb (sx) j else 0 := by
        rcases hx with ⟨q1, q2⟩ | ⟨q1, q2⟩
        · rw [q2]
          refine ⟨⟨hst.1, hst.2.1⟩, fun j hj => ?_⟩
          rw [hst.2.2 j hj]
          by_cases e : j = k.toNat
          · rw [if_pos e, if_pos (by omega), e, q1]
          · rw [if_neg e, hb j hj]
            by_cases e2 : (j : Int) < k
            · rw [if_pos e2, if_pos (by omega)]
            · rw [if_neg e2, if_neg (by omega)]
        · rw [q2, hz]
          refine ⟨hs, fun j hj => ?_⟩
          rw [hb j hj]
          by_cases e2 : (j : Int) < k
          · rw [if_pos e2, if_pos (by omega)]
          · rw [if_neg e2]
            by_cases e : j = k.toNat
            · rw [if_pos (by omega), e, q1]
            · rw [if_neg (by omega)]
      refine g_ior X dX8_standing_33 ?_
      refine g_istore_n (lv' := [(2, .int (iI (bor set x))), (0, .ref (gAd G 20)), (1, .int (iI least)), (3, .int (iI k))]) X dX8_standing_34 rfl (by decide) rfl ?_
      refine g_iinc (j := 3) (lv' := [(3, .int (iI (k + 1))), (2, .int (iI (bor set x))), (0, .ref (gAd G 20)), (1, .int (iI least))]) X dX8_standing_35 rfl (by decide) rfl ?_
      refine g_goto (tgt := 4) X dX8_standing_38 (by decide) ?_
      refine g_lv (lv' := [(0, .ref (gAd G 20)), (1, .int (iI least)), (2, .int (iI (bor set x))), (3, .int (iI (k + 1)))]) [2, 3, 1, 0] rfl ?_
      exact ih_4 (bor set x) (k + 1) ⟨(by first | omega | rfl | assumption), (by first | omega | rfl | assumption), (by exact hn.1), (by exact hn.2)⟩ (by omega)
    · intro J_33
      try dsimp only at J_33
      refine g_aload_n X dX8_standing_16 rfl 0 rfl ?_
      refine g_iload_n X dX8_standing_17 rfl 3 rfl ?_
      refine g_iconst X dX8_standing_18 ?_
      refine g_calli (st := [.int (iI set)]) X (c_X8_own l G k 0 w FM (by first | assumption | omega | (unfold InR; omega)) (by first | assumption | omega | (unfold InR; omega))) cm_X8_own im_X8_own se_X8_own ml_X8_122 ck_X8 FM ⟨Nat.le_of_ble_eq_true rfl, Nat.le_of_ble_eq_true rfl⟩ rfl rfl (Nat.le_of_ble_eq_true rfl) dX8_standing_19 (fn_i ?_)
      rw [show (w 20 5 (17 + 14 * k + 0).toNat : Int) = tb (u 6 0) k.toNat + 2 * tb (u 7 0) k.toNat from (by rw [show (17 + 14 * k + 0).toNat = 17 + 14 * k.toNat by omega]; exact ho.1)]
      refine g_iload_n X dX8_standing_22 rfl 1 rfl ?_
      refine g_icmp_lt (tgt := 32) X dX8_standing_23 (by decide) (by unfold InR; omega) (by unfold InR; omega) (fun c_23 => ?_) (fun c_23 => ?_)
      · skip
        refine g_iconst X dX8_standing_32 ?_
        refine g_lv (lv' := [(0, .ref (gAd G 20)), (1, .int (iI least)), (2, .int (iI set)), (3, .int (iI k))]) [0, 1, 2, 3] rfl ?_
        exact J_33 0 (by first | exact Or.inl ⟨tsx.1 (by omega), rfl⟩ | exact Or.inr ⟨tsx.2 (by omega), rfl⟩)
      · skip
        refine g_iconst X dX8_standing_26 ?_
        refine g_iload_n X dX8_standing_27 rfl 3 rfl ?_
        refine g_ishl X dX8_standing_28 ?_
        refine g_goto (tgt := 33) X dX8_standing_29 (by decide) ?_
        refine g_lv (lv' := [(0, .ref (gAd G 20)), (1, .int (iI least)), (2, .int (iI set)), (3, .int (iI k))]) [0, 1, 2, 3] rfl ?_
        exact J_33 (bshl 1 k) (by first | exact Or.inl ⟨tsx.1 (by omega), rfl⟩ | exact Or.inr ⟨tsx.2 (by omega), rfl⟩)
set_option maxHeartbeats 4000000 in
set_option maxRecDepth 100000 in
theorem c_X8_isGapOver (l : Launch) (G : Ly) (tick : Int) (pl : Nat → Nat → Int) (u : Nat → Nat → Int) (B : Int) (w : Wd) (FM : gOb G 20 = some 8) (hT : PlR pl (w 20 4)) (hp : PV pl) (hR : RS u (w 20 5)) (hS : SV B (pl 0 0) u) (hU : SU (pl 0 0) u) (hB : B ≤ 99000) (ht : 0 ≤ tick ∧ tick ≤ 200000) : Mi l yX8_isGapOver cX8_isGapOver 2 (some .boolean) 0 0 G [.ref (gAd G 20), .int (iI tick)] w (fun z w2 => z = (if pl 10 0 < tick - u 8 0 then 1 else 0) ∧ w2 = w) := by
  refine mi_of (lv := [(0, .ref (gAd G 20)), (1, .int (iI tick))]) (by decide) (Nat.le_of_ble_eq_true rfl) rfl ?_
  intro p_ e_ s_ m_ b_ h_ c_ X
  have hp0 := hp.1
  have hp7 := hp.2.2
  have t36 := hT.1
  have sT := hS.1
  have sB := hS.2.1
  have sC := hS.2.2.1
  have sD := hS.2.2.2.1
  have sE := hS.2.2.2.2.1
  have sF := hS.2.2.2.2.2.1
  have sG := hS.2.2.2.2.2.2.1
  have sH := hS.2.2.2.2.2.2.2
  have rT := hR.1
  have rB := hR.2.1
  have rL := hR.2.2.1
  have rM := hR.2.2.2
  have uA := hU.1
  have hrun := bt_or (s := u 6 0) (t := u 7 0) (by omega) (by omega) (by omega) (by omega)
  have h9 := nev_in rB.2.2.2.2.2.1
  have t40 : w 20 4 40 = pl 10 0 := hT.2.2 10 (by decide) (by decide)
  refine g_iload_n X dX8_isGapOver_0 rfl 1 rfl ?_
  refine g_aload_n X dX8_isGapOver_1 rfl 0 rfl ?_
  refine g_geta X ck_X8 FM 5 (by decide) fl_X8_19 rfl dX8_isGapOver_2 ?_
  refine g_bipush X dX8_isGapOver_5 (by decide) ?_
  refine h_iald (a := 9) (j := 9) X rfl FM (by decide) (show fkX 8 5 = (1, 101) from rfl) (by decide) (by omega) (by omega) dX8_isGapOver_7 ?_
  refine g_isub X dX8_isGapOver_8 ?_
  refine g_aload_n X dX8_isGapOver_9 rfl 0 rfl ?_
  refine g_geta X ck_X8 FM 4 (by decide) fl_X8_16 rfl dX8_isGapOver_10 ?_
  refine g_bipush X dX8_isGapOver_13 (by decide) ?_
  refine h_iald (a := 40) (j := 40) X rfl FM (by decide) (show fkX 8 4 = (1, 44) from rfl) (by decide) (by omega) (by omega) dX8_isGapOver_15 ?_
  refine g_icmp_le (tgt := 23) X dX8_isGapOver_16 (by decide) (by unfold InR; omega) (by unfold InR; omega) (fun c_16 => ?_) (fun c_16 => ?_)
  · skip
    refine g_iconst X dX8_isGapOver_23 ?_
    exact g_iret X rfl (by decide) dX8_isGapOver_24 (by first | exact ⟨by rw [if_pos (by omega)], rfl⟩ | exact ⟨by rw [if_neg (by omega)], rfl⟩)
  · skip
    refine g_iconst X dX8_isGapOver_19 ?_
    refine g_goto (tgt := 24) X dX8_isGapOver_20 (by decide) ?_
    exact g_iret X rfl (by decide) dX8_isGapOver_24 (by first | exact ⟨by rw [if_pos (by omega)], rfl⟩ | exact ⟨by rw [if_neg (by omega)], rfl⟩)
set_option maxHeartbeats 4000000 in
set_option maxRecDepth 100000 in
theorem c_X8_mayStart (l : Launch) (G : Ly) (m : Int) (tick : Int) (pl : Nat → Nat → Int) (u : Nat → Nat → Int) (B : Int) (w : Wd) (FM : gOb G 20 = some 8) (hT : PlR pl (w 20 4)) (hp : PV pl) (hR : RS u (w 20 5)) (hS : SV B (pl 0 0) u) (hU : SU (pl 0 0) u) (hB : B ≤ 99000) (hm : 0 ≤ m ∧ m < pl 0 0) (ht : 0 ≤ tick ∧ tick ≤ 200000) : Mi l yX8_mayStart cX8_mayStart 5 (some .boolean) 1 22 G [.ref (gAd G 20), .int (iI m), .int (iI tick)] w (fun z w2 => z = (if mayX pl u m tick then 1 else 0) ∧ w2 = w) := by
  refine mi_of (lv := [(0, .ref (gAd G 20)), (1, .int (iI m)), (2, .int (iI tick))]) (by decide) (Nat.le_of_ble_eq_true rfl) rfl ?_
  intro p_ e_ s_ m_ b_ h_ c_ X
  have hp0 := hp.1
  have hp7 := hp.2.2
  have t36 := hT.1
  have sT := hS.1
  have sB := hS.2.1
  have sC := hS.2.2.1
  have sD := hS.2.2.2.1
  have sE := hS.2.2.2.2.1
  have sF := hS.2.2.2.2.2.1
  have sG := hS.2.2.2.2.2.2.1
  have sH := hS.2.2.2.2.2.2.2
  have rT := hR.1
  have rB := hR.2.1
  have rL := hR.2.2.1
  have rM := hR.2.2.2
  have uA := hU.1
  have hrun := bt_or (s := u 6 0) (t := u 7 0) (by omega) (by omega) (by omega) (by omega)
  have t38 : w 20 4 38 = pl 8 0 := hT.2.2 8 (by decide) (by decide)
  have t39 : w 20 4 39 = pl 9 0 := hT.2.2 9 (by decide) (by decide)
  have ho := rM m.toNat (by omega)
  have h14 := nev_in ho.2.2.2.2.1
  have t5 := tb01 (u 5 0) m.toNat
  have t6 := tb01 (u 6 0) m.toNat
  have t7 := tb01 (u 7 0) m.toNat
  have sfm := sF m.toNat (by omega)
  have hro := (bt_or (s := bor (u 6 0) (u 7 0)) (t := u 5 0) hrun.1 hrun.2.1 (by omega) (by omega)).2.2 m.toNat (by omega)
  rw [hrun.2.2 m.toNat (by omega)] at hro
  have hrr : ∀ k : Nat, k < 9 → (sbX u m ((k : Int) + 1) = w 20 5 (22 + 14 * m.toNat + k) ∨ (sbX u m ((k : Int) + 1) = -100000 ∧ w 20 5 (22 + 14 * m.toNat + k) = -1000)) ∧ -100000 ≤ sbX u m ((k : Int) + 1) ∧ sbX u m ((k : Int) + 1) ≤ 100000 := by
    intro k hk
    have h1 := (rM m.toNat (by omega)).2.2.2.2.2 k hk
    rw [show ((m.toNat : Nat) : Int) = m by omega] at h1
    refine ⟨h1, ?_⟩
    unfold sbX
    have := sF m.toNat (by omega)
    split
    · omega
    · have := sG (m * 9 + (u 12 m.toNat - ((k : Int) + 1)) % 9).toNat (by omega)
      omega
  refine g_iconst X dX8_mayStart_0 ?_
  refine g_istore_n (lv' := [(3, .int (iI 0)), (0, .ref (gAd G 20)), (1, .int (iI m)), (2, .int (iI tick))]) X dX8_mayStart_1 rfl (by decide) rfl ?_
  refine g_iconst X dX8_mayStart_2 ?_
  refine g_istore (lv' := [(4, .int (iI 5)), (3, .int (iI 0)), (0, .ref (gAd G 20)), (1, .int (iI m)), (2, .int (iI tick))]) X dX8_mayStart_3 (by decide) rfl ?_
  refine g_lv (lv' := [(0, .ref (gAd G 20)), (1, .int (iI m)), (2, .int (iI tick)), (3, .int (iI 0)), (4, .int (iI 5))]) [2, 3, 4, 1, 0] rfl ?_
  refine g_loop2 (fun (many : Int) (k : Int) => [(0, .ref (gAd G 20)), (1, .int (iI m)), (2, .int (iI tick)), (3, .int (iI many)), (4, .int (iI k))]) (fun (many : Int) (k : Int) => w) (fun (many : Int) (k : Int) => (5 ≤ k) ∧ (k ≤ 14) ∧ (many = sumN (fun i => if tick - 59 ≤ w 20 5 (22 + 14 * m.toNat + i) then 1 else 0) (k - 5).toNat) ∧ (0 ≤ many ∧ many ≤ k - 5)) (fun (many : Int) (k : Int) => (14 - k).toNat) 0 5 ⟨(by first | omega | rfl | assumption), (by first | omega | rfl | assumption), (by rfl), (by first | omega | rfl | assumption)⟩ ?_
  intro many k hI_5 ih_5
  obtain ⟨h0, h1, hc, hcr⟩ := hI_5
  try dsimp only at ih_5 ⊢
  refine g_iload X dX8_mayStart_5 4 rfl ?_
  refine g_bipush X dX8_mayStart_7 (by decide) ?_
  refine g_icmp_ge (tgt := 40) X dX8_mayStart_9 (by decide) (by unfold InR; omega) ⟨by decide, by decide⟩ (fun c_9 => ?_) (fun c_9 => ?_)
  · skip
    have hk14 : k = 14 := by omega
    rw [hk14, show (14 - 5 : Int).toNat = 9 from rfl] at hc
    have hmany := many_ok (r := fun i => w 20 5 (22 + 14 * m.toNat + i)) (s := fun k => sbX u m k) (t := tick) ht.1 (fun i hi => hrr i hi) (fun i a b => by have g := (hU.2.2.2.2.1 m.toNat (by omega)).2 i a b; rw [show ((m.toNat : Nat) : Int) = m by omega] at g; exact g) (p := pl 9 0) (by omega) (by omega)
    rw [← hc] at hmany
    refine g_aload_n X dX8_mayStart_40 rfl 0 rfl ?_
    refine g_iload_n X dX8_mayStart_41 rfl 1 rfl ?_
    refine g_iconst X dX8_mayStart_42 ?_
    refine g_calli (st := []) X (c_X8_own l G m 0 w FM (by first | assumption | omega | (unfold InR; omega)) (by first | assumption | omega | (unfold InR; omega))) cm_X8_own im_X8_own se_X8_own ml_X8_122 ck_X8 FM ⟨Nat.le_of_ble_eq_true rfl, Nat.le_of_ble_eq_true rfl⟩ rfl rfl (Nat.le_of_ble_eq_true rfl) dX8_mayStart_43 (fn_i ?_)
    rw [show (w 20 5 (17 + 14 * m + 0).toNat : Int) = tb (u 6 0) m.toNat + 2 * tb (u 7 0) m.toNat from (by rw [show (17 + 14 * m + 0).toNat = 17 + 14 * m.toNat by omega]; exact ho.1)]
    refine g_if_ne (tgt := 99) X dX8_mayStart_46 (by decide) (by unfold InR; omega) (fun c_46 => ?_) (fun c_46 => ?_)
    · skip
      refine g_iconst X dX8_mayStart_99 ?_
      exact g_iret X rfl (by decide) dX8_mayStart_100 (by
          refine ⟨?_, rfl⟩
          have hro2 : tb (bor (runX u) (u 5 0)) m.toNat = max (max (tb (u 6 0) m.toNat) (tb (u 7 0) m.toNat)) (tb (u 5 0) m.toNat) := hro
          first
          | rw [if_pos (show mayX pl u m tick from ⟨by omega, by omega, hmany.mp (by omega), of_one c_92⟩)]
          | rw [if_neg (show ¬ mayX pl u m tick from fun h => of_zero c_92 h.2.2.2)]
          | rw [if_neg (show ¬ mayX pl u m tick from fun h => by have := hmany.mpr h.2.2.1; omega)]
          | rw [if_neg (show ¬ mayX pl u m tick from fun h => by have := h.2.1; omega)]
          | rw [if_neg (show ¬ mayX pl u m tick from fun h => by have := h.1; omega)])
    · skip
      refine g_aload_n X dX8_mayStart_49 rfl 0 rfl ?_
      refine g_iload_n X dX8_mayStart_50 rfl 1 rfl ?_
      refine g_iconst X dX8_mayStart_51 ?_
      refine g_calli (st := []) X (c_X8_own l G m 3 w FM (by first | assumption | omega | (unfold InR; omega)) (by first | assumption | omega | (unfold InR; omega))) cm_X8_own im_X8_own se_X8_own ml_X8_122 ck_X8 FM ⟨Nat.le_of_ble_eq_true rfl, Nat.le_of_ble_eq_true rfl⟩ rfl rfl (Nat.le_of_ble_eq_true rfl) dX8_mayStart_52 (fn_i ?_)
      rw [show (w 20 5 (17 + 14 * m + 3).toNat : Int) = tb (u 5 0) m.toNat from (by rw [show (17 + 14 * m + 3).toNat = 20 + 14 * m.toNat by omega]; exact ho.2.2.2.1)]
      refine g_if_ne (tgt := 99) X dX8_mayStart_55 (by decide) (by unfold InR; omega) (fun c_55 => ?_) (fun c_55 => ?_)
      · skip
        refine g_iconst X dX8_mayStart_99 ?_
        exact g_iret X rfl (by decide) dX8_mayStart_100 (by
            refine ⟨?_, rfl⟩
            have hro2 : tb (bor (runX u) (u 5 0)) m.toNat = max (max (tb (u 6 0) m.toNat) (tb (u 7 0) m.toNat)) (tb (u 5 0) m.toNat) := hro
            first
            | rw [if_pos (show mayX pl u m tick from ⟨by omega, by omega, hmany.mp (by omega), of_one c_92⟩)]
            | rw [if_neg (show ¬ mayX pl u m tick from fun h => of_zero c_92 h.2.2.2)]
            | rw [if_neg (show ¬ mayX pl u m tick from fun h => by have := hmany.mpr h.2.2.1; omega)]
            | rw [if_neg (show ¬ mayX pl u m tick from fun h => by have := h.2.1; omega)]
            | rw [if_neg (show ¬ mayX pl u m tick from fun h => by have := h.1; omega)])
      · skip
        refine g_iload_n X dX8_mayStart_58 rfl 2 rfl ?_
        refine g_aload_n X dX8_mayStart_59 rfl 0 rfl ?_
        refine g_iload_n X dX8_mayStart_60 rfl 1 rfl ?_
        refine g_iconst X dX8_mayStart_61 ?_
        refine g_calli (st := [.int (iI tick)]) X (c_X8_own l G m 4 w FM (by first | assumption | omega | (unfold InR; omega)) (by first | assumption | omega | (unfold InR; omega))) cm_X8_own im_X8_own se_X8_own ml_X8_122 ck_X8 FM ⟨Nat.le_of_ble_eq_true rfl, Nat.le_of_ble_eq_true rfl⟩ rfl rfl (Nat.le_of_ble_eq_true rfl) dX8_mayStart_62 (fn_i ?_)
        rw [show (w 20 5 (17 + 14 * m + 4).toNat : Int) = w 20 5 (21 + 14 * m.toNat) from (by congr 1; omega)]
        refine g_isub X dX8_mayStart_65 ?_
        refine g_aload_n X dX8_mayStart_66 rfl 0 rfl ?_
        refine g_geta X ck_X8 FM 4 (by decide) fl_X8_16 rfl dX8_mayStart_67 ?_
        refine g_bipush X dX8_mayStart_70 (by decide) ?_
        refine h_iald (a := 38) (j := 38) X rfl FM (by decide) (show fkX 8 4 = (1, 44) from rfl) (by decide) (by omega) (by omega) dX8_mayStart_72 ?_
        refine g_icmp_le (tgt := 99) X dX8_mayStart_73 (by decide) (by unfold InR; omega) (by unfold InR; omega) (fun c_73 => ?_) (fun c_73 => ?_)
        · skip
          refine g_iconst X dX8_mayStart_99 ?_
          exact g_iret X rfl (by decide) dX8_mayStart_100 (by
              refine ⟨?_, rfl⟩
              have hro2 : tb (bor (runX u) (u 5 0)) m.toNat = max (max (tb (u 6 0) m.toNat) (tb (u 7 0) m.toNat)) (tb (u 5 0) m.toNat) := hro
              first
              | rw [if_pos (show mayX pl u m tick from ⟨by omega, by omega, hmany.mp (by omega), of_one c_92⟩)]
              | rw [if_neg (show ¬ mayX pl u m tick from fun h => of_zero c_92 h.2.2.2)]
              | rw [if_neg (show ¬ mayX pl u m tick from fun h => by have := hmany.mpr h.2.2.1; omega)]
              | rw [if_neg (show ¬ mayX pl u m tick from fun h => by have := h.2.1; omega)]
              | rw [if_neg (show ¬ mayX pl u m tick from fun h => by have := h.1; omega)])
        · skip
          refine g_iload_n X dX8_mayStart_76 rfl 3 rfl ?_
          refine g_aload_n X dX8_mayStart_77 rfl 0 rfl ?_
          refine g_geta X ck_X8 FM 4 (by decide) fl_X8_16 rfl dX8_mayStart_78 ?_
          refine g_bipush X dX8_mayStart_81 (by decide) ?_
          refine h_iald (a := 39) (j := 39) X rfl FM (by decide) (show fkX 8 4 = (1, 44) from rfl) (by decide) (by omega) (by omega) dX8_mayStart_83 ?_
          refine g_icmp_ge (tgt := 99) X dX8_mayStart_84 (by decide) (by unfold InR; omega) (by unfold InR; omega) (fun c_84 => ?_) (fun c_84 => ?_)
          · skip
            refine g_iconst X dX8_mayStart_99 ?_
            exact g_iret X rfl (by decide) dX8_mayStart_100 (by
                refine ⟨?_, rfl⟩
                have hro2 : tb (bor (runX u) (u 5 0)) m.toNat = max (max (tb (u 6 0) m.toNat) (tb (u 7 0) m.toNat)) (tb (u 5 0) m.toNat) := hro
                first
                | rw [if_pos (show mayX pl u m tick from ⟨by omega, by omega, hmany.mp (by omega), of_one c_92⟩)]
                | rw [if_neg (show ¬ mayX pl u m tick from fun h => of_zero c_92 h.2.2.2)]
                | rw [if_neg (show ¬ mayX pl u m tick from fun h => by have := hmany.mpr h.2.2.1; omega)]
                | rw [if_neg (show ¬ mayX pl u m tick from fun h => by have := h.2.1; omega)]
                | rw [if_neg (show ¬ mayX pl u m tick from fun h => by have := h.1; omega)])
          · skip
            refine g_aload_n X dX8_mayStart_87 rfl 0 rfl ?_
            refine g_iload_n X dX8_mayStart_88 rfl 2 rfl ?_
            refine g_calli (st := []) X (c_X8_isGapOver l G tick pl u B w FM (by first | assumption | omega | (unfold InR; omega)) (by first | assumption | omega | (unfold InR; omega)) (by first | assumption | omega | (unfold InR; omega)) (by first | assumption | omega | (unfold InR; omega)) (by first | assumption | omega | (unfold InR; omega)) (by first | assumption | omega | (unfold InR; omega)) (by first | assumption | omega | (unfold InR; omega))) cm_X8_isGapOver im_X8_isGapOver se_X8_isGapOver ml_X8_150 ck_X8 FM ⟨Nat.le_of_ble_eq_true rfl, Nat.le_of_ble_eq_true rfl⟩ rfl rfl (Nat.le_of_ble_eq_true rfl) dX8_mayStart_89 (fn_i ?_)
            refine g_if_eq (tgt := 99) X dX8_mayStart_92 (by decide) (by exact in01) (fun c_92 => ?_) (fun c_92 => ?_)
            · skip
              refine g_iconst X dX8_mayStart_99 ?_
              exact g_iret X rfl (by decide) dX8_mayStart_100 (by
                  refine ⟨?_, rfl⟩
                  have hro2 : tb (bor (runX u) (u 5 0)) m.toNat = max (max (tb (u 6 0) m.toNat) (tb (u 7 0) m.toNat)) (tb (u 5 0) m.toNat) := hro
                  first
                  | rw [if_pos (show mayX pl u m tick from ⟨by omega, by omega, hmany.mp (by omega), of_one c_92⟩)]
                  | rw [if_neg (show ¬ mayX pl u m tick from fun h => of_zero c_92 h.2.2.2)]
                  | rw [if_neg (show ¬ mayX pl u m tick from fun h => by have := hmany.mpr h.2.2.1; omega)]
                  | rw [if_neg (show ¬ mayX pl u m tick from fun h => by have := h.2.1; omega)]
                  | rw [if_neg (show ¬ mayX pl u m tick from fun h => by have := h.1; omega)])
            · skip
              refine g_iconst X dX8_mayStart_95 ?_
              refine g_goto (tgt := 100) X dX8_mayStart_96 (by decide) ?_
              exact g_iret X rfl (by decide) dX8_mayStart_100 (by
                  refine ⟨?_, rfl⟩
                  have hro2 : tb (bor (runX u) (u 5 0)) m.toNat = max (max (tb (u 6 0) m.toNat) (tb (u 7 0) m.toNat)) (tb (u 5 0) m.toNat) := hro
                  first
                  | rw [if_pos (show mayX pl u m tick from ⟨by omega, by omega, hmany.mp (by omega), of_one c_92⟩)]
                  | rw [if_neg (show ¬ mayX pl u m tick from fun h => of_zero c_92 h.2.2.2)]
                  | rw [if_neg (show ¬ mayX pl u m tick from fun h => by have := hmany.mpr h.2.2.1; omega)]
                  | rw [if_neg (show ¬ mayX pl u m tick from fun h => by have := h.2.1; omega)]
                  | rw [if_neg (show ¬ mayX pl u m tick from fun h => by have := h.1; omega)])
  · skip
    have hk9 := hrr (k - 5).toNat (by omega)
    refine g_iload_n X dX8_mayStart_12 rfl 3 rfl ?_
    refine g_cut1 (pc' := 32) (fun (x : Int) => [(0, .ref (gAd G 20)), (1, .int (iI m)), (2, .int (iI tick)), (3, .int (iI many)), (4, .int (iI k))]) (fun (x : Int) => [.int (iI x), .int (iI many)]) (fun (x : Int) => w) (fun (x : Int) => (x = if tick - 59 ≤ w 20 5 (22 + 14 * m.toNat + (k - 5).toNat) then 1 else 0)) ?_ ?_
    · intro x hI_32
      have hx := hI_32
      try dsimp only at hx ⊢
      have hx01 : 0 ≤ x ∧ x ≤ 1 := by rw [hx]; split <;> omega
      refine g_iadd X dX8_mayStart_32 ?_
      refine g_istore_n (lv' := [(3, .int (iI (many + x))), (0, .ref (gAd G 20)), (1, .int (iI m)), (2, .int (iI tick)), (4, .int (iI k))]) X dX8_mayStart_33 rfl (by decide) rfl ?_
      refine g_iinc (j := 4) (lv' := [(4, .int (iI (k + 1))), (3, .int (iI (many + x))), (0, .ref (gAd G 20)), (1, .int (iI m)), (2, .int (iI tick))]) X dX8_mayStart_34 rfl (by decide) rfl ?_
      refine g_goto (tgt := 5) X dX8_mayStart_37 (by decide) ?_
      refine g_lv (lv' := [(0, .ref (gAd G 20)), (1, .int (iI m)), (2, .int (iI tick)), (3, .int (iI (many + x))), (4, .int (iI (k + 1)))]) [2, 3, 4, 1, 0] rfl ?_
      exact ih_5 (many + x) (k + 1) ⟨(by first | omega | rfl | assumption), (by first | omega | rfl | assumption), (by rw [show (k + 1 - 5).toNat = (k - 5).toNat + 1 by omega]; show many + x = sumN _ (k - 5).toNat + _; rw [hc, hx]), (by first | omega | rfl | assumption)⟩ (by omega)
    · intro J_32
      try dsimp only at J_32
      refine g_aload_n X dX8_mayStart_13 rfl 0 rfl ?_
      refine g_iload_n X dX8_mayStart_14 rfl 1 rfl ?_
      refine g_iload X dX8_mayStart_15 4 rfl ?_
      refine g_calli (st := [.int (iI many)]) X (c_X8_own l G m k w FM (by first | assumption | omega | (unfold InR; omega)) (by first | assumption | omega | (unfold InR; omega))) cm_X8_own im_X8_own se_X8_own ml_X8_122 ck_X8 FM ⟨Nat.le_of_ble_eq_true rfl, Nat.le_of_ble_eq_true rfl⟩ rfl rfl (Nat.le_of_ble_eq_true rfl) dX8_mayStart_17 (fn_i ?_)
      rw [show (w 20 5 (17 + 14 * m + k).toNat : Int) = w 20 5 (22 + 14 * m.toNat + (k - 5).toNat) from (by congr 1; omega)]
      refine g_iload_n X dX8_mayStart_20 rfl 2 rfl ?_
      refine g_bipush X dX8_mayStart_21 (by decide) ?_
      refine g_isub X dX8_mayStart_23 ?_
      refine g_icmp_lt (tgt := 31) X dX8_mayStart_24 (by decide) (by unfold InR; omega) (by unfold InR; omega) (fun c_24 => ?_) (fun c_24 => ?_)
      · skip
        refine g_iconst X dX8_mayStart_31 ?_
        refine g_lv (lv' := [(0, .ref (gAd G 20)), (1, .int (iI m)), (2, .int (iI tick)), (3, .int (iI many)), (4, .int (iI k))]) [0, 1, 2, 3, 4] rfl ?_
        exact J_32 0 (by first | rw [if_pos (by omega)] | rw [if_neg (by omega)])
      · skip
        refine g_iconst X dX8_mayStart_27 ?_
        refine g_goto (tgt := 32) X dX8_mayStart_28 (by decide) ?_
        refine g_lv (lv' := [(0, .ref (gAd G 20)), (1, .int (iI m)), (2, .int (iI tick)), (3, .int (iI many)), (4, .int (iI k))]) [0, 1, 2, 3, 4] rfl ?_
        exact J_32 1 (by first | rw [if_pos (by omega)] | rw [if_neg (by omega)])
