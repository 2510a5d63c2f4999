/-- the row as it begins: blocks below m, and of block m the places below q -/
def dmX (m q j : Nat) : Int := if j = 9 then -1000 else if j = 3 then 7 else if j = 2 then 25 else if 17 ≤ j ∧ 4 ≤ (j - 17) % 14 ∧ ((j - 17) / 14 < m ∨ ((j - 17) / 14 = m ∧ (j - 17) % 14 < q)) then -1000 else 0
def d0X (j : Nat) : Int := dmX 6 4 j
theorem rs_res {u : Nat → Nat → Int} {D : Nat → Int} (h : ResX u) (hD : ∀ j, j < 101 → D j = d0X j) : RS u D := by
  obtain ⟨⟨a0, a1, a2, a3⟩, ⟨b1, b2, b3, b4, b5, b6, b7, b8, b9⟩, c⟩ := h
  have c0 := c 0 (by decide)
  have c1 := c 1 (by decide)
  have c2 := c 2 (by decide)
  have c3 := c 3 (by decide)
  have c4 := c 4 (by decide)
  have c5 := c 5 (by decide)
  have bl : ∀ m q, m < 6 → q < 14 → D (17 + 14 * m + q) = if 4 ≤ q then -1000 else 0 := by
    intro m q hm hq
    rw [hD _ (by omega)]
    unfold d0X dmX
    rw [if_neg (by omega), if_neg (by omega), if_neg (by omega)]
    by_cases e : 4 ≤ q
    · rw [if_pos e, if_pos (by omega)]
    · rw [if_neg e, if_neg (by omega)]
  refine ⟨fun j hj => ?_, ⟨?_, ?_, ?_, ?_, ?_, ?_, ?_⟩, fun j _ hj => by omega, fun m hm => ?_⟩
  · rcases (show j = 0 ∨ j = 1 ∨ j = 2 ∨ j = 3 by omega) with rfl | rfl | rfl | rfl
    · rw [hD 0 (by decide), a0]; rfl
    · rw [hD 1 (by decide), a1]; rfl
    · rw [hD 2 (by decide), a2]; rfl
    · rw [hD 3 (by decide), a3]; rfl
  · rw [hD 4 (by decide), b1]; rfl
  · rw [hD 5 (by decide), b2]; rfl
  · rw [hD 6 (by decide), b3]; rfl
  · rw [hD 7 (by decide)]
    show (0 : Int) = 0 + u 12 0 + u 12 1 + u 12 2 + u 12 3 + u 12 4 + u 12 5
    omega
  · rw [hD 8 (by decide), b4]; rfl
  · rw [hD 9 (by decide), b8]; exact Or.inr ⟨rfl, rfl⟩
  · rw [hD 10 (by decide), b9]; rfl
  · have cm := c m hm
    refine ⟨?_, ?_, ?_, ?_, ?_, fun k hk => ?_⟩
    · have := bl m 0 hm (by decide)
      rw [if_neg (by decide)] at this
      rw [b6, b7, tb_0]; exact this
    · have := bl m 1 hm (by decide)
      rw [if_neg (by decide), show 17 + 14 * m + 1 = 18 + 14 * m by omega] at this
      rw [this]; exact cm.1.symm
    · have := bl m 2 hm (by decide)
      rw [if_neg (by decide), show 17 + 14 * m + 2 = 19 + 14 * m by omega] at this
      rw [this]; exact cm.2.1.symm
    · have := bl m 3 hm (by decide)
      rw [if_neg (by decide), show 17 + 14 * m + 3 = 20 + 14 * m by omega] at this
      rw [this, b5, tb_0]
    · have := bl m 4 hm (by decide)
      rw [if_pos (by decide), show 17 + 14 * m + 4 = 21 + 14 * m by omega] at this
      rw [this]; exact Or.inr ⟨cm.2.2, rfl⟩
    · have := bl m (5 + k) hm (by omega)
      rw [if_pos (by omega), show 17 + 14 * m + (5 + k) = 22 + 14 * m + k by omega] at this
      rw [this]
      refine Or.inr ⟨?_, rfl⟩
      unfold sbX
      rw [show ((m : Nat) : Int).toNat = m from rfl, if_pos (by omega)]
set_option maxHeartbeats 4000000 in
set_option maxRecDepth 100000 in
theorem c_X8_takeRead (l : Launch) (G : Ly)  (w : Wd) (FM : gOb G 20 = some 8) : Mv l yX8_takeRead cX8_takeRead 3 none 0 0 G [.ref (gAd G 20)] w (fun w2 => (∀ o f, ¬ (o = 20 ∧ (f = 4 ∨ f = 5 ∨ f = 8 ∨ f = 11)) → w2 o f = w o f) ∧ (∀ j : Nat, j < 44 → w2 20 4 j = w 20 3 j) ∧ w2 20 8 0 = 0 ∧ w2 20 11 0 = 0 ∧ ∀ j : Nat, j < 101 → w2 20 5 j = d0X j) := by
  refine mv_of (lv := [(0, .ref (gAd G 20))]) (by decide) (Nat.le_of_ble_eq_true rfl) rfl ?_
  intro p_ e_ s_ m_ b_ h_ c_ X
  refine g_iconst X dX8_takeRead_0 ?_
  refine g_istore_n (lv' := [(1, .int (iI 0)), (0, .ref (gAd G 20))]) X dX8_takeRead_1 rfl (by decide) rfl ?_
  refine g_lv (lv' := [(0, .ref (gAd G 20)), (1, .int (iI 0))]) [1, 0] rfl ?_
  refine g_loop2 (fun (k : Int) (w1 : Wd) => [(0, .ref (gAd G 20)), (1, .int (iI k))]) (fun (k : Int) (w1 : Wd) => w1) (fun (k : Int) (w1 : Wd) => (0 ≤ k) ∧ (k ≤ 44) ∧ (∀ o f, ¬ (o = 20 ∧ f = 4) → w1 o f = w o f) ∧ (∀ j : Nat, (j : Int) < k → w1 20 4 j = w 20 3 j)) (fun (k : Int) (w1 : Wd) => (44 - k).toNat) 0 w ⟨(by first | omega | rfl | assumption), (by first | omega | rfl | assumption), (by intro _ _ _; rfl), (by intro j hj; omega)⟩ ?_
  intro k w1 hI_2 ih_2
  obtain ⟨h0, h1, hf, hz⟩ := hI_2
  try dsimp only at ih_2 ⊢
  refine g_iload_n X dX8_takeRead_2 rfl 1 rfl ?_
  refine g_bipush X dX8_takeRead_3 (by decide) ?_
  refine g_icmp_ge (tgt := 26) X dX8_takeRead_5 (by decide) (by unfold InR; omega) ⟨by decide, by decide⟩ (fun c_5 => ?_) (fun c_5 => ?_)
  · skip
    refine g_iconst X dX8_takeRead_26 ?_
    refine g_istore_n (lv' := [(1, .int (iI 0)), (0, .ref (gAd G 20))]) X dX8_takeRead_27 rfl (by decide) rfl ?_
    refine g_lv (lv' := [(0, .ref (gAd G 20)), (1, .int (iI 0))]) [1, 0] rfl ?_
    refine g_loop2 (fun (i : Int) (w3 : Wd) => [(0, .ref (gAd G 20)), (1, .int (iI i))]) (fun (i : Int) (w3 : Wd) => w3) (fun (i : Int) (w3 : Wd) => (0 ≤ i) ∧ (i ≤ 101) ∧ (∀ o f, ¬ (o = 20 ∧ f = 5) → w3 o f = w1 o f) ∧ (∀ j : Nat, (j : Int) < i → w3 20 5 j = 0)) (fun (i : Int) (w3 : Wd) => (101 - i).toNat) 0 w1 ⟨(by first | omega | rfl | assumption), (by first | omega | rfl | assumption), (by intro _ _ _; rfl), (by intro j hj; omega)⟩ ?_
    intro i w3 hI_28 ih_28
    obtain ⟨i0, i1, gf, gz⟩ := hI_28
    try dsimp only at ih_28 ⊢
    refine g_iload_n X dX8_takeRead_28 rfl 1 rfl ?_
    refine g_bipush X dX8_takeRead_29 (by decide) ?_
    refine g_icmp_ge (tgt := 47) X dX8_takeRead_31 (by decide) (by unfold InR; omega) ⟨by decide, by decide⟩ (fun c_31 => ?_) (fun c_31 => ?_)
    · skip
      refine g_aload_n X dX8_takeRead_47 rfl 0 rfl ?_
      refine g_geta X ck_X8 FM 5 (by decide) fl_X8_19 rfl dX8_takeRead_48 ?_
      refine g_iconst X dX8_takeRead_51 ?_
      refine g_bipush X dX8_takeRead_52 (by decide) ?_
      refine h_iast (a := 2) (j := 2) X rfl FM (by decide) (show fkX 8 5 = (1, 101) from rfl) (by decide) (by omega) (by omega) dX8_takeRead_54 ?_
      obtain ⟨w_1, ew_1⟩ : ∃ q_ : Wd, q_ = up w3 20 5 2 25 := ⟨_, rfl⟩
      refine g_w (w' := w_1) ew_1 ?_
      refine g_aload_n X dX8_takeRead_55 rfl 0 rfl ?_
      refine g_geta X ck_X8 FM 5 (by decide) fl_X8_19 rfl dX8_takeRead_56 ?_
      refine g_iconst X dX8_takeRead_59 ?_
      refine g_bipush X dX8_takeRead_60 (by decide) ?_
      refine h_iast (a := 3) (j := 3) X rfl FM (by decide) (show fkX 8 5 = (1, 101) from rfl) (by decide) (by omega) (by omega) dX8_takeRead_62 ?_
      obtain ⟨w_2, ew_2⟩ : ∃ q_ : Wd, q_ = up w_1 20 5 3 7 := ⟨_, rfl⟩
      refine g_w (w' := w_2) ew_2 ?_
      refine g_aload_n X dX8_takeRead_63 rfl 0 rfl ?_
      refine g_geta X ck_X8 FM 5 (by decide) fl_X8_19 rfl dX8_takeRead_64 ?_
      refine g_bipush X dX8_takeRead_67 (by decide) ?_
      refine g_sipush X dX8_takeRead_69 (by decide) ?_
      refine h_iast (a := 9) (j := 9) X rfl FM (by decide) (show fkX 8 5 = (1, 101) from rfl) (by decide) (by omega) (by omega) dX8_takeRead_72 ?_
      obtain ⟨w_3, ew_3⟩ : ∃ q_ : Wd, q_ = up w_2 20 5 9 (-1000) := ⟨_, rfl⟩
      refine g_w (w' := w_3) ew_3 ?_
      refine g_iconst X dX8_takeRead_73 ?_
      refine g_istore_n (lv' := [(1, .int (iI 0)), (0, .ref (gAd G 20))]) X dX8_takeRead_74 rfl (by decide) rfl ?_
      refine g_lv (lv' := [(0, .ref (gAd G 20)), (1, .int (iI 0))]) [1, 0] rfl ?_
      refine g_loop2 (fun (m : Int) (w5 : Wd) => [(0, .ref (gAd G 20)), (1, .int (iI m))]) (fun (m : Int) (w5 : Wd) => w5) (fun (m : Int) (w5 : Wd) => (0 ≤ m) ∧ (m ≤ 6) ∧ (∀ o f, ¬ (o = 20 ∧ f = 5) → w5 o f = w1 o f) ∧ (∀ j : Nat, j < 101 → w5 20 5 j = dmX m.toNat 4 j)) (fun (m : Int) (w5 : Wd) => (6 - m).toNat) 0 w_3 ⟨(by first | omega | rfl | assumption), (by first | omega | rfl | assumption), (by intro o f h; rw [ew_3, ew_2, ew_1, up_fn h, up_fn h, up_fn h]; exact gf o f h), (by
          intro j hj
          rw [ew_3, ew_2, ew_1, up_row, up_row, up_row]
          unfold dmX fup
          by_cases e9 : j = 9
          · rw [if_pos e9, if_pos e9]
          · rw [if_neg e9, if_neg e9]
            by_cases e3 : j = 3
            · rw [if_pos e3, if_pos e3]
            · rw [if_neg e3, if_neg e3]
              by_cases e2 : j = 2
              · rw [if_pos e2, if_pos e2]
              · rw [if_neg e2, if_neg e2, if_neg (by omega), gz j (by omega)])⟩ ?_
      intro m w5 hI_75 ih_75
      obtain ⟨m0, m1, kf, kz⟩ := hI_75
      try dsimp only at ih_75 ⊢
      refine g_iload_n X dX8_takeRead_75 rfl 1 rfl ?_
      refine g_bipush X dX8_takeRead_76 (by decide) ?_
      refine g_icmp_ge (tgt := 118) X dX8_takeRead_78 (by decide) (by unfold InR; omega) ⟨by decide, by decide⟩ (fun c_78 => ?_) (fun c_78 => ?_)
      · skip
        refine g_aload_n X dX8_takeRead_118 rfl 0 rfl ?_
        refine g_iconst X dX8_takeRead_119 ?_
        refine g_puti X ck_X8 FM 8 (by decide) fl_X8_47 rfl rfl rfl dX8_takeRead_120 ?_
        obtain ⟨w_4, ew_4⟩ : ∃ q_ : Wd, q_ = up w5 20 8 0 0 := ⟨_, rfl⟩
        refine g_w (w' := w_4) ew_4 ?_
        refine g_aload_n X dX8_takeRead_123 rfl 0 rfl ?_
        refine g_iconst X dX8_takeRead_124 ?_
        refine g_putf X ck_X8 FM 11 (by decide) fl_X8_51 (Or.inr rfl) rfl (by decide) (by decide) dX8_takeRead_125 ?_
        obtain ⟨w_5, ew_5⟩ : ∃ q_ : Wd, q_ = up w_4 20 11 0 0 := ⟨_, rfl⟩
        refine g_w (w' := w_5) ew_5 ?_
        exact g_vret X rfl dX8_takeRead_128 (by
            refine ⟨fun o f h => ?_, fun j hj => ?_, ?_, ?_, fun j hj => ?_⟩
            · rw [ew_5, ew_4, up_fn (fun z => h ⟨z.1, by omega⟩), up_fn (fun z => h ⟨z.1, by omega⟩), kf o f (fun z => h ⟨z.1, by omega⟩)]; exact hf o f (fun z => h ⟨z.1, by omega⟩)
            · rw [ew_5, ew_4, up_fn (by decide), up_fn (by decide), kf 20 4 (by decide)]; exact hz j (by omega)
            · rw [ew_5, ew_4, up_fn (by decide), up_at]
            · rw [ew_5, ew_4, up_at]
            · rw [ew_5, ew_4, up_fn (by decide), up_fn (by decide), kz j hj, show m.toNat = 6 by omega]
              rfl)
      · skip
        refine g_iconst X dX8_takeRead_81 ?_
        refine g_istore_n (lv' := [(2, .int (iI 4)), (0, .ref (gAd G 20)), (1, .int (iI m))]) X dX8_takeRead_82 rfl (by decide) rfl ?_
        refine g_lv (lv' := [(0, .ref (gAd G 20)), (1, .int (iI m)), (2, .int (iI 4))]) [1, 2, 0] rfl ?_
        refine g_loop2 (fun (q : Int) (w7 : Wd) => [(0, .ref (gAd G 20)), (1, .int (iI m)), (2, .int (iI q))]) (fun (q : Int) (w7 : Wd) => w7) (fun (q : Int) (w7 : Wd) => (4 ≤ q) ∧ (q ≤ 14) ∧ (∀ o f, ¬ (o = 20 ∧ f = 5) → w7 o f = w1 o f) ∧ (∀ j : Nat, j < 101 → w7 20 5 j = dmX m.toNat q.toNat j)) (fun (q : Int) (w7 : Wd) => (14 - q).toNat) 4 w5 ⟨(by first | omega | rfl | assumption), (by first | omega | rfl | assumption), (by exact kf), (by exact kz)⟩ ?_
        intro q w7 hI_83 ih_83
        obtain ⟨q0, q1, nf, nz⟩ := hI_83
        try dsimp only at ih_83 ⊢
        refine g_iload_n X dX8_takeRead_83 rfl 2 rfl ?_
        refine g_bipush X dX8_takeRead_84 (by decide) ?_
        refine g_icmp_ge (tgt := 112) X dX8_takeRead_86 (by decide) (by unfold InR; omega) ⟨by decide, by decide⟩ (fun c_86 => ?_) (fun c_86 => ?_)
        · skip
          refine g_iinc (j := 1) (lv' := [(1, .int (iI (m + 1))), (0, .ref (gAd G 20)), (2, .int (iI q))]) X dX8_takeRead_112 rfl (by decide) rfl ?_
          refine g_goto (tgt := 75) X dX8_takeRead_115 (by decide) ?_
          refine g_lv (lv' := [(0, .ref (gAd G 20)), (1, .int (iI (m + 1)))]) [1, 0] rfl ?_
          exact ih_75 (m + 1) w7 ⟨(by first | omega | rfl | assumption), (by first | omega | rfl | assumption), (by exact nf), (by
              intro j hj
              rw [nz j hj]
              unfold dmX
              by_cases c : 17 ≤ j ∧ 4 ≤ (j - 17) % 14 ∧ ((j - 17) / 14 < m.toNat ∨ ((j - 17) / 14 = m.toNat ∧ (j - 17) % 14 < q.toNat))
              · rw [if_pos c, if_pos (show 17 ≤ j ∧ 4 ≤ (j - 17) % 14 ∧ ((j - 17) / 14 < (m + 1).toNat ∨ ((j - 17) / 14 = (m + 1).toNat ∧ (j - 17) % 14 < 4)) by omega)]
              · rw [if_neg c, if_neg (show ¬ (17 ≤ j ∧ 4 ≤ (j - 17) % 14 ∧ ((j - 17) / 14 < (m + 1).toNat ∨ ((j - 17) / 14 = (m + 1).toNat ∧ (j - 17) % 14 < 4))) by omega)])⟩ (by omega)
        · skip
          refine g_aload_n X dX8_takeRead_89 rfl 0 rfl ?_
          refine g_geta X ck_X8 FM 5 (by decide) fl_X8_19 rfl dX8_takeRead_90 ?_
          refine g_bipush X dX8_takeRead_93 (by decide) ?_
          refine g_bipush X dX8_takeRead_95 (by decide) ?_
          refine g_iload_n X dX8_takeRead_97 rfl 1 rfl ?_
          refine g_imul X dX8_takeRead_98 ?_
          refine g_iadd X dX8_takeRead_99 ?_
          refine g_iload_n X dX8_takeRead_100 rfl 2 rfl ?_
          refine g_iadd X dX8_takeRead_101 ?_
          refine g_sipush X dX8_takeRead_102 (by decide) ?_
          refine h_iast (a := (17 + (14 * m)) + q) (j := ((17 + (14 * m)) + q).toNat) X rfl FM (by decide) (show fkX 8 5 = (1, 101) from rfl) (by decide) (by omega) (by omega) dX8_takeRead_105 ?_
          obtain ⟨w_6, ew_6⟩ : ∃ q_ : Wd, q_ = up w7 20 5 ((17 + (14 * m)) + q).toNat (-1000) := ⟨_, rfl⟩
          refine g_w (w' := w_6) ew_6 ?_
          refine g_iinc (j := 2) (lv' := [(2, .int (iI (q + 1))), (0, .ref (gAd G 20)), (1, .int (iI m))]) X dX8_takeRead_106 rfl (by decide) rfl ?_
          refine g_goto (tgt := 83) X dX8_takeRead_109 (by decide) ?_
          refine g_lv (lv' := [(0, .ref (gAd G 20)), (1, .int (iI m)), (2, .int (iI (q + 1)))]) [1, 2, 0] rfl ?_
          exact ih_83 (q + 1) w_6 ⟨(by first | omega | rfl | assumption), (by first | omega | rfl | assumption), (by intro o f h; rw [ew_6, up_fn h]; exact nf o f h), (by
              intro j hj
              rw [ew_6]
              by_cases e : j = (17 + 14 * m + q).toNat
              · rw [e, up_at]
                unfold dmX
                rw [if_neg (by omega), if_neg (by omega), if_neg (by omega), if_pos (by omega)]
              · rw [up_ne (fun z => e z.2.2), nz j hj]
                unfold dmX
                by_cases c : 17 ≤ j ∧ 4 ≤ (j - 17) % 14 ∧ ((j - 17) / 14 < m.toNat ∨ ((j - 17) / 14 = m.toNat ∧ (j - 17) % 14 < q.toNat))
                · rw [if_pos c, if_pos (show 17 ≤ j ∧ 4 ≤ (j - 17) % 14 ∧ ((j - 17) / 14 < m.toNat ∨ ((j - 17) / 14 = m.toNat ∧ (j - 17) % 14 < (q + 1).toNat)) by omega)]
                · rw [if_neg c, if_neg (show ¬ (17 ≤ j ∧ 4 ≤ (j - 17) % 14 ∧ ((j - 17) / 14 < m.toNat ∨ ((j - 17) / 14 = m.toNat ∧ (j - 17) % 14 < (q + 1).toNat))) by omega)])⟩ (by omega)
    · skip
      refine g_aload_n X dX8_takeRead_34 rfl 0 rfl ?_
      refine g_geta X ck_X8 FM 5 (by decide) fl_X8_19 rfl dX8_takeRead_35 ?_
      refine g_iload_n X dX8_takeRead_38 rfl 1 rfl ?_
      refine g_iconst X dX8_takeRead_39 ?_
      refine h_iast (a := i) (j := (i).toNat) X rfl FM (by decide) (show fkX 8 5 = (1, 101) from rfl) (by decide) (by omega) (by omega) dX8_takeRead_40 ?_
      obtain ⟨w_7, ew_7⟩ : ∃ q_ : Wd, q_ = up w3 20 5 (i).toNat 0 := ⟨_, rfl⟩
      refine g_w (w' := w_7) ew_7 ?_
      refine g_iinc (j := 1) (lv' := [(1, .int (iI (i + 1))), (0, .ref (gAd G 20))]) X dX8_takeRead_41 rfl (by decide) rfl ?_
      refine g_goto (tgt := 28) X dX8_takeRead_44 (by decide) ?_
      refine g_lv (lv' := [(0, .ref (gAd G 20)), (1, .int (iI (i + 1)))]) [1, 0] rfl ?_
      exact ih_28 (i + 1) w_7 ⟨(by first | omega | rfl | assumption), (by first | omega | rfl | assumption), (by intro o f h; rw [ew_7, up_fn h]; exact gf o f h), (by intro j hj; rw [ew_7]; rcases Int.lt_or_le (j : Int) i with e | e; (rw [up_ne (by omega)]; exact gz j e); (have e2 : j = i.toNat := (by omega)); subst e2; rw [up_at])⟩ (by omega)
  · skip
    refine g_aload_n X dX8_takeRead_8 rfl 0 rfl ?_
    refine g_geta X ck_X8 FM 4 (by decide) fl_X8_16 rfl dX8_takeRead_9 ?_
    refine g_iload_n X dX8_takeRead_12 rfl 1 rfl ?_
    refine g_aload_n X dX8_takeRead_13 rfl 0 rfl ?_
    refine g_geta X ck_X8 FM 3 (by decide) fl_X8_13 rfl dX8_takeRead_14 ?_
    refine g_iload_n X dX8_takeRead_17 rfl 1 rfl ?_
    refine h_iald (a := k) (j := (k).toNat) X rfl FM (by decide) (show fkX 8 3 = (1, 44) from rfl) (by decide) (by omega) (by omega) dX8_takeRead_18 ?_
    refine h_iast (a := k) (j := (k).toNat) X rfl FM (by decide) (show fkX 8 4 = (1, 44) from rfl) (by decide) (by omega) (by omega) dX8_takeRead_19 ?_
    obtain ⟨w_8, ew_8⟩ : ∃ q_ : Wd, q_ = up w1 20 4 (k).toNat (w1 20 3 (k).toNat) := ⟨_, rfl⟩
    refine g_w (w' := w_8) ew_8 ?_
    refine g_iinc (j := 1) (lv' := [(1, .int (iI (k + 1))), (0, .ref (gAd G 20))]) X dX8_takeRead_20 rfl (by decide) rfl ?_
    refine g_goto (tgt := 2) X dX8_takeRead_23 (by decide) ?_
    refine g_lv (lv' := [(0, .ref (gAd G 20)), (1, .int (iI (k + 1)))]) [1, 0] rfl ?_
    exact ih_2 (k + 1) w_8 ⟨(by first | omega | rfl | assumption), (by first | omega | rfl | assumption), (by intro o f h; rw [ew_8, up_fn h]; exact hf o f h), (by intro j hj; rw [ew_8]; rcases Int.lt_or_le (j : Int) k with e | e; (rw [up_ne (by omega)]; exact hz j e); (have e2 : j = k.toNat := (by omega)); subst e2; rw [up_at, hf 20 3 (by decide)])⟩ (by omega)
