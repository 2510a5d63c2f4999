theorem ins_odd {q : Int} {n : Nat} (h0 : 0 ≤ q) (h1 : q < 64) (h2 : q % 2 ≠ 0) (hn : 1 ≤ n) (hn6 : n ≤ 6) : InsS q (q - 1) 0 n := by
  have h := fin1 (P := fun q => q % 2 ≠ 0 → tb q 0 = 1 ∧ tb (q - 1) 0 = 0 ∧ ∀ k, k < 6 → k ≠ 0 → tb (q - 1) k = tb q k) (by decide +kernel) h0 h1 h2
  exact ⟨hn, h.1, h.2.1, fun k hk => h.2.2 k (by omega)⟩
theorem bt_sub {s m : Int} (h0 : 0 ≤ s) (h1 : s < 64) (h2 : 0 ≤ m) (h3 : m < 6) (hb : tb s m.toNat = 1) : 0 ≤ s - 2 ^ m.toNat ∧ s - 2 ^ m.toNat < s ∧ ∀ k, k < 6 → tb (s - 2 ^ m.toNat) k = if k = m.toNat then 0 else tb s k :=
  fin2 (P := fun s m => tb s m.toNat = 1 → 0 ≤ s - 2 ^ m.toNat ∧ s - 2 ^ m.toNat < s ∧ ∀ k, k < 6 → tb (s - 2 ^ m.toNat) k = if k = m.toNat then 0 else tb s k) (by decide +kernel) h0 h1 h2 h3 hb
theorem best_z {pl : Nat → Nat → Int} {c : Nat → Int → Int} {n : Nat} {t v : Int} (h : BestC pl c 0 n t v) : t = 0 ∧ v = 0 := by
  obtain ⟨⟨x, a, b, d⟩, -⟩ := h
  rw [sumB_0] at d
  have := fea_sum a
  rw [sumB_0, sumB_0] at this
  omega
set_option maxHeartbeats 4000000 in
set_option maxRecDepth 100000 in
theorem c_X8_leastPower (l : Launch) (G : Ly) (set : Int) (load : Int) (pl : Nat → Nat → Int) (w : Wd) (FM : gOb G 20 = some 8) (hT : PlR pl (w 20 4)) (hp : PV pl) (hC : TbC pl (w 20)) (hlaid : w 20 11 0 = 1) (hset : 0 ≤ set ∧ set < bshl 1 (pl 0 0)) (hld : 0 ≤ load ∧ load ≤ 480) : Mi l yX8_leastPower cX8_leastPower 3 (some .int) 2 52 G [.ref (gAd G 20), .int (iI set), .int (iI load)] w (fun z w2 => w2 = w ∧ (TV pl (w 20 12 0) set load z)) := by
  refine mi_of (lv := [(0, .ref (gAd G 20)), (1, .int (iI set)), (2, .int (iI load))]) (by decide) (Nat.le_of_ble_eq_true rfl) rfl ?_
  intro p_ e_ s_ m_ b_ h_ c_ X
  have hp0 := hp.1
  have hp7 := hp.2.2
  have t36 := hT.1
  have hall := bt_all (pl 0 0) (by omega) (by omega)
  obtain ⟨-, hlf, htab⟩ : w 20 11 0 = 1 ∧ (0 ≤ w 20 12 0 ∧ w 20 12 0 ≤ 45) ∧ ∀ s t : Int, 0 ≤ s → s < bshl 1 (pl 0 0) → s % 2 = 0 → 0 ≤ t → t ≤ 480 → TV pl (w 20 12 0) s t (w 20 10 (481 * (s / 2) + t).toNat) := by
    rcases hC with q | q
    · omega
    · exact q
  refine g_iload_n X dX8_leastPower_0 rfl 1 rfl ?_
  refine g_iconst X dX8_leastPower_1 ?_
  refine g_irem X dX8_leastPower_2 ⟨by decide, by decide⟩ (by omega) ?_
  rw [show (jrem set 2 : Int) = set % 2 from (jrem_pos (by unfold InR; omega) hset.1 (by decide) (by decide))]
  refine g_if_ne (tgt := 23) X dX8_leastPower_3 (by decide) (by unfold InR; omega) (fun c_3 => ?_) (fun c_3 => ?_)
  · skip
    refine g_aload_n X dX8_leastPower_23 rfl 0 rfl ?_
    refine g_iconst X dX8_leastPower_24 ?_
    refine g_iload_n X dX8_leastPower_25 rfl 1 rfl ?_
    refine g_iconst X dX8_leastPower_26 ?_
    refine g_isub X dX8_leastPower_27 ?_
    refine g_iload_n X dX8_leastPower_28 rfl 2 rfl ?_
    refine g_aload_n X dX8_leastPower_29 rfl 0 rfl ?_
    refine g_geti X ck_X8 FM 12 (by decide) fl_X8_109 (Or.inl rfl) dX8_leastPower_30 ?_
    refine g_calli (st := []) X (c_X8_leastBy l G 0 (set - 1) load (w 20 12 0) pl set w FM (by first | assumption | omega | (unfold InR; omega)) (by first | assumption | omega | (unfold InR; omega)) (by omega) (by omega) (by first | assumption | omega | (unfold InR; omega)) (by first | assumption | omega | (unfold InR; omega)) (by exact fun t a b => htab (set - 1) t (by omega) (by omega) (by omega) a b) (by exact ins_odd hset.1 (by omega) (by omega) (show 1 ≤ (pl 0 0).toNat by omega) (by omega))) cm_X8_leastBy im_X8_leastBy se_X8_leastBy ml_X8_115 ck_X8 FM ⟨Nat.le_of_ble_eq_true rfl, Nat.le_of_ble_eq_true rfl⟩ rfl rfl (Nat.le_of_ble_eq_true rfl) dX8_leastPower_33 (fn_p ?_)
    rintro z_33 h_33
    exact g_iret X rfl rfl dX8_leastPower_36 (by first | exact ⟨rfl, htab set load hset.1 hset.2 (by omega) hld.1 hld.2⟩ | exact ⟨rfl, h_33⟩)
  · skip
    refine g_aload_n X dX8_leastPower_6 rfl 0 rfl ?_
    refine g_geta X ck_X8 FM 10 (by decide) fl_X8_31 rfl dX8_leastPower_7 ?_
    refine g_sipush X dX8_leastPower_10 (by decide) ?_
    refine g_iload_n X dX8_leastPower_13 rfl 1 rfl ?_
    refine g_iconst X dX8_leastPower_14 ?_
    refine g_idiv X dX8_leastPower_15 ⟨by decide, by decide⟩ (by omega) ?_
    rw [show (jdiv set 2 : Int) = set / 2 from (jdiv_pos (by unfold InR; omega) hset.1 (by decide) (by decide))]
    refine g_imul X dX8_leastPower_16 ?_
    refine g_iload_n X dX8_leastPower_17 rfl 2 rfl ?_
    refine g_iadd X dX8_leastPower_18 ?_
    refine h_iald (a := (481 * (set / 2)) + load) (j := ((481 * (set / 2)) + load).toNat) X rfl FM (by decide) (show fkX 8 10 = (1, 15392) from rfl) (by decide) (by omega) (by omega) dX8_leastPower_19 ?_
    refine g_goto (tgt := 36) X dX8_leastPower_20 (by decide) ?_
    exact g_iret X rfl rfl dX8_leastPower_36 (by first | exact ⟨rfl, htab set load hset.1 hset.2 (by omega) hld.1 hld.2⟩ | exact ⟨rfl, h_33⟩)
set_option maxHeartbeats 4000000 in
set_option maxRecDepth 100000 in
theorem c_X8_layShare (l : Launch) (G : Ly) (set : Int) (load : Int) (pl : Nat → Nat → Int) (v : Int) (w : Wd) (FM : gOb G 20 = some 8) (hT : PlR pl (w 20 4)) (hp : PV pl) (hC : TbC pl (w 20)) (hlaid : w 20 11 0 = 1) (hset : 0 ≤ set ∧ set < bshl 1 (pl 0 0)) (hld : 0 ≤ load ∧ load ≤ 480) (hv : BestC pl (pkX pl (w 20 12 0)) set (pl 0 0).toNat load v) : Mv l yX8_layShare cX8_layShare 8 none 3 74 G [.ref (gAd G 20), .int (iI set), .int (iI load)] w (fun w2 => (∀ o f, ¬ (o = 20 ∧ f = 13) → w2 o f = w o f) ∧ Att pl (w 20 12 0) set load v (w2 20 13)) := by
  refine mv_of (lv := [(0, .ref (gAd G 20)), (1, .int (iI set)), (2, .int (iI load))]) (by decide) (Nat.le_of_ble_eq_true rfl) rfl ?_
  intro p_ e_ s_ m_ b_ h_ c_ X
  have hp0 := hp.1
  have hp7 := hp.2.2
  have t36 := hT.1
  have hall := bt_all (pl 0 0) (by omega) (by omega)
  obtain ⟨-, hlf, htab⟩ : w 20 11 0 = 1 ∧ (0 ≤ w 20 12 0 ∧ w 20 12 0 ≤ 45) ∧ ∀ s t : Int, 0 ≤ s → s < bshl 1 (pl 0 0) → s % 2 = 0 → 0 ≤ t → t ≤ 480 → TV pl (w 20 12 0) s t (w 20 10 (481 * (s / 2) + t).toNat) := by
    rcases hC with q | q
    · omega
    · exact q
  refine g_iload_n X dX8_layShare_0 rfl 1 rfl ?_
  refine g_istore_n (lv' := [(3, .int (iI set)), (0, .ref (gAd G 20)), (1, .int (iI set)), (2, .int (iI load))]) X dX8_layShare_1 rfl (by decide) rfl ?_
  refine g_iload_n X dX8_layShare_2 rfl 3 rfl ?_
  refine g_istore (lv' := [(4, .int (iI load)), (3, .int (iI set)), (0, .ref (gAd G 20)), (1, .int (iI set)), (2, .int (iI load))]) X dX8_layShare_3 (by decide) rfl ?_
  refine g_iconst X dX8_layShare_5 ?_
  refine g_istore (lv' := [(5, .int (iI 0)), (4, .int (iI load)), (3, .int (iI set)), (0, .ref (gAd G 20)), (1, .int (iI set)), (2, .int (iI load))]) X dX8_layShare_6 (by decide) rfl ?_
  refine g_lv (lv' := [(0, .ref (gAd G 20)), (1, .int (iI set)), (2, .int (iI load)), (3, .int (iI set)), (4, .int (iI load)), (5, .int (iI 0))]) [3, 4, 5, 2, 1, 0] rfl ?_
  refine g_loop4 (fun (rest : Int) (left : Int) (k : Int) (w1 : Wd) => [(0, .ref (gAd G 20)), (1, .int (iI set)), (2, .int (iI load)), (3, .int (iI rest)), (4, .int (iI left)), (5, .int (iI k))]) (fun (rest : Int) (left : Int) (k : Int) (w1 : Wd) => w1) (fun (rest : Int) (left : Int) (k : Int) (w1 : Wd) => (0 ≤ k) ∧ (k ≤ pl 0 0) ∧ (0 ≤ rest ∧ rest < bshl 1 (pl 0 0)) ∧ (∀ j : Nat, j < 6 → tb rest j = if (j : Int) < k then 0 else tb set j) ∧ (0 ≤ left ∧ left ≤ 480) ∧ (Hid (∃ v2, BestC pl (pkX pl (w 20 12 0)) rest (pl 0 0).toNat left v2 ∧ sumB set (fun m => pkX pl (w 20 12 0) m (w1 20 13 m)) k.toNat + v2 = v)) ∧ (fea pl set (w1 20 13) k.toNat) ∧ (sumN (w1 20 13) k.toNat + left = load) ∧ (∀ o f, ¬ (o = 20 ∧ f = 13) → w1 o f = w o f)) (fun (rest : Int) (left : Int) (k : Int) (w1 : Wd) => (pl 0 0 - k).toNat) set load 0 w ⟨(by first | omega | rfl | assumption), (by first | omega | rfl | assumption), (by first | omega | rfl | assumption), (by intro j hj; rw [if_neg (by omega)]), (by first | omega | rfl | assumption), (by exact ⟨v, hv, Int.zero_add _⟩), (by intro j hj; exact absurd hj (by omega)), (by exact Int.zero_add _), (by intro _ _ _; rfl)⟩ ?_
  intro rest left k w1 hI_8 ih_8
  obtain ⟨h0, h1, hr, hrb, hlr, hvv, hf, hsm, hfr⟩ := hI_8
  try dsimp only at ih_8 ⊢
  have q4 : w1 20 4 = w 20 4 := hfr 20 4 (by decide)
  have q36 : w1 20 4 36 = pl 0 0 := by rw [q4]; exact t36
  have q10 : w1 20 10 = w 20 10 := hfr 20 10 (by decide)
  have q11 : w1 20 11 0 = 1 := by rw [hfr 20 11 (by decide)]; exact hlaid
  have q12 : w1 20 12 0 = w 20 12 0 := by rw [hfr 20 12 (by decide)]
  have qC : TbC pl (w1 20) := by unfold TbC; rw [hfr 20 11 (by decide), hfr 20 12 (by decide), q10]; exact hC
  refine g_iload X dX8_layShare_8 5 rfl ?_
  refine g_aload_n X dX8_layShare_10 rfl 0 rfl ?_
  refine g_geta X ck_X8 FM 4 (by decide) fl_X8_16 rfl dX8_layShare_11 ?_
  refine g_bipush X dX8_layShare_14 (by decide) ?_
  refine h_iald (a := 36) (j := 36) X rfl FM (by decide) (show fkX 8 4 = (1, 44) from rfl) (by decide) (by omega) (by omega) dX8_layShare_16 ?_
  refine g_icmp_ge (tgt := 155) X dX8_layShare_17 (by decide) (by unfold InR; omega) (by unfold InR; omega) (fun c_17 => ?_) (fun c_17 => ?_)
  · skip
    exact g_vret X rfl dX8_layShare_155 (by
        have hkn : k = pl 0 0 := by omega
        have hr0 : rest = 0 := by
          refine bt_ext hr.1 (by omega) (by decide) (by decide) (fun j hj => ?_)
          rw [hrb j hj, tb_0]
          by_cases e : (j : Int) < k
          · rw [if_pos e]
          · rw [if_neg e]; exact tb_big (by omega) (by omega) hset.1 hset.2 (by omega)
        obtain ⟨v2, a, b⟩ := hvv
        rw [hr0] at a
        have hz := best_z a
        rw [hkn] at hf hsm b
        exact ⟨hfr, hf, by omega, by omega⟩)
  · skip
    refine g_aload_n X dX8_layShare_20 rfl 0 rfl ?_
    refine g_geta X ck_X8 FM 13 (by decide) fl_X8_34 rfl dX8_layShare_21 ?_
    refine g_iload X dX8_layShare_24 5 rfl ?_
    refine g_iconst X dX8_layShare_26 ?_
    refine h_iast (a := k) (j := (k).toNat) X rfl FM (by decide) (show fkX 8 13 = (1, 6) from rfl) (by decide) (by omega) (by omega) dX8_layShare_27 ?_
    obtain ⟨w_1, ew_1⟩ : ∃ q_ : Wd, q_ = up w1 20 13 (k).toNat 0 := ⟨_, rfl⟩
    refine g_w (w' := w_1) ew_1 ?_
    have hk6 : k < 6 := by omega
    have s4 : w_1 20 4 = w 20 4 := by rw [ew_1, up_fn (by decide)]; exact q4
    have s10 : w_1 20 10 = w 20 10 := by rw [ew_1, up_fn (by decide)]; exact q10
    have s11 : w_1 20 11 = w 20 11 := by rw [ew_1, up_fn (by decide)]; exact hfr 20 11 (by decide)
    have s12 : w_1 20 12 = w 20 12 := by rw [ew_1, up_fn (by decide)]; exact hfr 20 12 (by decide)
    have s120 : w_1 20 12 0 = w 20 12 0 := by rw [s12]
    have sC : TbC pl (w_1 20) := by unfold TbC; rw [s11, s12, s10]; exact hC
    have sfr : ∀ o f, ¬ (o = 20 ∧ f = 13) → w_1 o f = w o f := fun o f h => by rw [ew_1, up_fn h]; exact hfr o f h
    have sM : ∀ j, j < k.toNat → w_1 20 13 j = w1 20 13 j := fun j hj => by rw [ew_1, up_ne (by omega)]
    have ht01 := tb01 set k.toNat
    refine g_iload_n X dX8_layShare_28 rfl 1 rfl ?_
    refine g_cut3 (pc' := 149) (fun (rest3 : Int) (left3 : Int) (w3 : Wd) => [(0, .ref (gAd G 20)), (1, .int (iI set)), (2, .int (iI load)), (3, .int (iI rest3)), (4, .int (iI left3)), (5, .int (iI k))]) (fun (rest3 : Int) (left3 : Int) (w3 : Wd) => []) (fun (rest3 : Int) (left3 : Int) (w3 : Wd) => w3) (fun (rest3 : Int) (left3 : Int) (w3 : Wd) => (0 ≤ rest3 ∧ rest3 < bshl 1 (pl 0 0)) ∧ (∀ j : Nat, j < 6 → tb rest3 j = if (j : Int) < k + 1 then 0 else tb set j) ∧ (0 ≤ left3 ∧ left3 ≤ 480) ∧ (Hid (∃ v2, BestC pl (pkX pl (w 20 12 0)) rest3 (pl 0 0).toNat left3 v2 ∧ sumB set (fun m => pkX pl (w 20 12 0) m (w3 20 13 m)) (k.toNat + 1) + v2 = v)) ∧ (fea pl set (w3 20 13) (k.toNat + 1)) ∧ (sumN (w3 20 13) (k.toNat + 1) + left3 = load) ∧ (∀ o f, ¬ (o = 20 ∧ f = 13) → w3 o f = w o f)) ?_ ?_
    · intro rest3 left3 w3 hI_149
      obtain ⟨gr, grb, glr, gvv, gf, gsm, gfr⟩ := hI_149
      try dsimp only
      refine g_iinc (j := 5) (lv' := [(5, .int (iI (k + 1))), (0, .ref (gAd G 20)), (1, .int (iI set)), (2, .int (iI load)), (3, .int (iI rest3)), (4, .int (iI left3))]) X dX8_layShare_149 rfl (by decide) rfl ?_
      refine g_goto (tgt := 8) X dX8_layShare_152 (by decide) ?_
      refine g_lv (lv' := [(0, .ref (gAd G 20)), (1, .int (iI set)), (2, .int (iI load)), (3, .int (iI rest3)), (4, .int (iI left3)), (5, .int (iI (k + 1)))]) [1, 2, 3, 4, 5, 0] rfl ?_
      exact ih_8 rest3 left3 (k + 1) w3 ⟨(by first | omega | rfl | assumption), (by first | omega | rfl | assumption), (by first | omega | rfl | assumption), (by exact grb), (by first | omega | rfl | assumption), (by rw [show (k + 1).toNat = k.toNat + 1 by omega]; exact gvv), (by rw [show (k + 1).toNat = k.toNat + 1 by omega]; exact gf), (by rw [show (k + 1).toNat = k.toNat + 1 by omega]; exact gsm), (by exact gfr)⟩ (by omega)
    · intro J_149
      try dsimp only at J_149
      refine g_iload X dX8_layShare_29 5 rfl ?_
      refine g_callsi (st := []) X (c_X8_has l G set k w_1 (by omega) (by omega)) cm_X8_has sm_X8_has ml_X8_86 ⟨Nat.le_of_ble_eq_true rfl, Nat.le_of_ble_eq_true rfl⟩ rfl rfl (Nat.le_of_ble_eq_true rfl) dX8_layShare_31 (fn_i ?_)
      refine g_if_eq (tgt := 149) X dX8_layShare_34 (by decide) (by unfold InR; omega) (fun c_34 => ?_) (fun c_34 => ?_)
      · skip
        refine g_lv (lv' := [(0, .ref (gAd G 20)), (1, .int (iI set)), (2, .int (iI load)), (3, .int (iI rest)), (4, .int (iI left)), (5, .int (iI k))]) [0, 1, 2, 3, 4, 5] rfl ?_
        exact J_149 rest left w_1 ⟨(by omega), (by
            first
            | exact r2b
            | (intro j hj
               rw [hrb j hj]
               by_cases e : (j : Int) < k
               rw [if_pos e, if_pos (by omega)]
               by_cases e2 : (j : Int) < k + 1
               rw [if_neg e, if_pos e2, show j = k.toNat by omega]; omega
               rw [if_neg e, if_neg e2])), (by omega), (by
            have hcs : sumB set (fun m => pkX pl (w 20 12 0) m (w_1 20 13 m)) k.toNat = sumB set (fun m => pkX pl (w 20 12 0) m (w1 20 13 m)) k.toNat := by
              first
              | exact sumB_congr _ (fun _ _ => rfl) (fun j hj _ => congrArg (pkX pl (w 20 12 0) j) (sM j hj))
              | exact sumB_congr _ (fun _ _ => rfl) (fun j hj _ => congrArg (pkX pl (w 20 12 0) j) (by rw [ew_1, up_ne (by omega)]; exact sM j hj))
            have hck : sumB set (fun m => pkX pl (w 20 12 0) m (w_1 20 13 m)) (k.toNat + 1) = sumB set (fun m => pkX pl (w 20 12 0) m (w1 20 13 m)) k.toNat + (if tb set k.toNat = 1 then pkX pl (w 20 12 0) k.toNat (w_1 20 13 k.toNat) else 0) := by
              rw [← hcs]; rfl
            first
            | (have hxe : x = xs := (by
                 rcases Int.lt_or_le x xs with e | e
                 exact absurd ⟨Int.not_lt.mp c_65, Int.not_le.mp c_88, c_124⟩ (hx3 x x0 e)
                 exact Int.le_antisymm x1 e)
               rw [← hxe] at hx4 hx5
               refine ⟨v3, hx4, ?_⟩
               rw [hck, if_pos hbk, ew_1, up_at]
               omega)
            | (obtain ⟨v2, a, b⟩ := hvv
               refine ⟨v2, a, ?_⟩
               rw [hck, if_neg (by omega)]
               omega)), (by
            intro j hj
            by_cases e : j = k.toNat
            · subst e
              rw [ew_1, up_at]
              first
              | exact ⟨fun z => absurd z (by omega), fun _ => rfl⟩
              | exact ⟨fun _ => ⟨x0, by omega⟩, fun z => absurd z (by omega)⟩
            · rw [ew_1, up_ne (by omega)]
              first
              | exact hf j (by omega)
              | (rw [sM j (by omega)]; exact hf j (by omega))), (by
            have hcs : sumN (w_1 20 13) k.toNat = sumN (w1 20 13) k.toNat := by
              first
              | exact sumN_congr _ sM
              | exact sumN_congr _ (fun j hj => by rw [ew_1, up_ne (by omega)]; exact sM j hj)
            have hck : w_1 20 13 k.toNat = load - load + w_1 20 13 k.toNat := by omega
            show sumN (w_1 20 13) k.toNat + w_1 20 13 k.toNat + _ = load
            rw [hcs, ew_1, up_at]
            omega), (by first | exact sfr | (intro o f h; rw [ew_1, up_fn h]; exact sfr o f h))⟩
      · skip
        refine g_aload_n X dX8_layShare_37 rfl 0 rfl ?_
        refine g_iload_n X dX8_layShare_38 rfl 3 rfl ?_
        refine g_iload X dX8_layShare_39 4 rfl ?_
        refine g_calli (st := []) X (c_X8_leastPower l G rest left pl w_1 FM (by rw [s4]; exact hT) (by first | assumption | omega | (unfold InR; omega)) (by first | assumption | omega | (unfold InR; omega)) (by rw [s11]; exact hlaid) (by first | assumption | omega | (unfold InR; omega)) (by first | assumption | omega | (unfold InR; omega))) cm_X8_leastPower im_X8_leastPower se_X8_leastPower ml_X8_119 ck_X8 FM ⟨Nat.le_of_ble_eq_true rfl, Nat.le_of_ble_eq_true rfl⟩ rfl rfl (Nat.le_of_ble_eq_true rfl) dX8_layShare_41 (fn_p ?_)
        rintro z_41 h_41
        refine g_istore (lv' := [(6, .int (iI z_41)), (0, .ref (gAd G 20)), (1, .int (iI set)), (2, .int (iI load)), (3, .int (iI rest)), (4, .int (iI left)), (5, .int (iI k))]) X dX8_layShare_44 (by decide) rfl ?_
        have hbk : tb set k.toNat = 1 := by omega
        have hrk : tb rest k.toNat = 1 := by rw [hrb _ (by omega), if_neg (by omega)]; exact hbk
        have hsub := bt_sub hr.1 (show rest < 64 by omega) h0 hk6 hrk
        have hone := bt_one h0 hk6
        obtain ⟨r2, er2⟩ : ∃ q, q = rest - 2 ^ k.toNat := ⟨_, rfl⟩
        rw [← er2] at hsub
        have r2b : ∀ j : Nat, j < 6 → tb r2 j = if (j : Int) < k + 1 then 0 else tb set j := fun j hj => by
          rw [hsub.2.2 j hj]
          by_cases e : j = k.toNat
          · rw [if_pos e, if_pos (by omega)]
          · rw [if_neg e, hrb j hj]
            by_cases e2 : (j : Int) < k
            · rw [if_pos e2, if_pos (by omega)]
            · rw [if_neg e2, if_neg (by omega)]
        have r2e : r2 % 2 = 0 := by
          have := r2b 0 (by decide)
          rw [if_pos (by omega)] at this
          unfold tb at this
          omega
        have hi : InsS rest r2 k.toNat (pl 0 0).toNat := ⟨by omega, hrk, by rw [r2b _ (by omega), if_pos (by omega)], fun j hj e => by rw [hsub.2.2 j (by omega), if_neg e]⟩
        obtain ⟨v2, hv2, hvs⟩ := id hvv
        rw [s120] at h_41
        obtain ⟨xs, v3, hx1, hx2, hx3, hx4, hx5⟩ := greedy hp hlf hi (fun j hj => by rw [r2b j (by omega), if_pos (by omega)]) (A := fun t => w 20 10 (481 * (r2 / 2) + t).toNat) (fun t a b => htab r2 t hsub.1 (by omega) r2e a b) hlr.2 h_41 hv2
        have hkb := hp.2.1 k.toNat (by omega)
        have htvz := tv_rng hp hlf h_41
        refine g_iload_n X dX8_layShare_46 rfl 4 rfl ?_
        refine g_iconst X dX8_layShare_47 ?_
        refine g_iload X dX8_layShare_48 6 rfl ?_
        refine g_ishl X dX8_layShare_50 ?_
        rw [show (bshl 1 k : Int) = 2 ^ k.toNat from hone.1]
        refine g_isub X dX8_layShare_51 ?_
        rw [show (rest - (2 ^ k.toNat) : Int) = r2 from er2.symm]
        refine g_istore_n (lv' := [(3, .int (iI r2)), (6, .int (iI z_41)), (0, .ref (gAd G 20)), (1, .int (iI set)), (2, .int (iI load)), (4, .int (iI left)), (5, .int (iI k))]) X dX8_layShare_52 rfl (by decide) rfl ?_
        refine g_aload_n X dX8_layShare_53 rfl 2 rfl ?_
        refine g_iload X dX8_layShare_54 6 rfl ?_
        refine g_calli (st := []) X (c_X8_leastOf l G k pl w_1 FM (by rw [s4]; exact hT) (by first | assumption | omega | (unfold InR; omega)) (by omega)) cm_X8_leastOf im_X8_leastOf se_X8_leastOf ml_X8_95 ck_X8 FM ⟨Nat.le_of_ble_eq_true rfl, Nat.le_of_ble_eq_true rfl⟩ rfl rfl (Nat.le_of_ble_eq_true rfl) dX8_layShare_56 (fn_i ?_)
        refine g_istore (lv' := [(7, .int (iI (pl 1 k.toNat))), (3, .int (iI r2)), (6, .int (iI z_41)), (0, .ref (gAd G 20)), (1, .int (iI set)), (2, .int (iI load)), (4, .int (iI left)), (5, .int (iI k))]) X dX8_layShare_59 (by decide) rfl ?_
        refine g_lv (lv' := [(0, .ref (gAd G 20)), (1, .int (iI set)), (2, .int (iI load)), (3, .int (iI r2)), (4, .int (iI left)), (5, .int (iI k)), (6, .int (iI z_41)), (7, .int (iI (pl 1 k.toNat)))]) [3, 4, 5, 1, 6, 7, 2, 0] rfl ?_
        refine g_loop1 (fun (x : Int) => [(0, .ref (gAd G 20)), (1, .int (iI set)), (2, .int (iI load)), (3, .int (iI r2)), (4, .int (iI left)), (5, .int (iI k)), (6, .int (iI z_41)), (7, .int (iI x))]) (fun (x : Int) => w_1) (fun (x : Int) => (pl 1 k.toNat ≤ x) ∧ (x ≤ xs)) (fun (x : Int) => (xs - x).toNat) (pl 1 k.toNat) ⟨(by first | omega | rfl | assumption), (by first | omega | rfl | assumption)⟩ ?_
        intro x hI_61 ih_61
        obtain ⟨x0, x1⟩ := hI_61
        try dsimp only at ih_61 ⊢
        refine g_iload X dX8_layShare_61 7 rfl ?_
        refine g_iload X dX8_layShare_63 4 rfl ?_
        refine g_icmp_gt (tgt := 127) X dX8_layShare_65 (by decide) (by unfold InR; omega) (by unfold InR; omega) (fun c_65 => ?_) (fun c_65 => ?_)
        · skip
          have hlt : x < xs := by
            rcases Int.lt_or_le x xs with e | e
            · exact e
            · have e2 : xs = x := by omega
              rw [e2] at hx2
              have a1 := hx2.1
              have a2 : w 20 10 (481 * (r2 / 2) + (left - x)).toNat < 1000000000 := hx2.2.1
              have a3 : pwX pl (w 20 12 0) k.toNat x + w 20 10 (481 * (r2 / 2) + (left - x)).toNat = z_41 := hx2.2.2
              omega
          refine g_iinc (j := 7) (lv' := [(7, .int (iI (x + 1))), (0, .ref (gAd G 20)), (1, .int (iI set)), (2, .int (iI load)), (3, .int (iI r2)), (4, .int (iI left)), (5, .int (iI k)), (6, .int (iI z_41))]) X dX8_layShare_127 rfl (by decide) rfl ?_
          refine g_goto (tgt := 61) X dX8_layShare_130 (by decide) ?_
          refine g_lv (lv' := [(0, .ref (gAd G 20)), (1, .int (iI set)), (2, .int (iI load)), (3, .int (iI r2)), (4, .int (iI left)), (5, .int (iI k)), (6, .int (iI z_41)), (7, .int (iI (x + 1)))]) [1, 2, 3, 4, 5, 6, 7, 0] rfl ?_
          exact ih_61 (x + 1) ⟨(by first | omega | rfl | assumption), (by first | omega | rfl | assumption)⟩ (by omega)
        · skip
          have hpw := pw_rng hp (m := k.toNat) (by omega) (x := x) (lift := w 20 12 0) ⟨by omega, by omega⟩ hlf
          have htv := tv_rng hp hlf (htab r2 (left - x) hsub.1 (by omega) r2e (by omega) (by omega))
          have hdv : 0 ≤ r2 / 2 ∧ r2 / 2 ≤ 31 := by omega
          refine g_aload_n X dX8_layShare_68 rfl 0 rfl ?_
          refine g_geta X ck_X8 FM 10 (by decide) fl_X8_31 rfl dX8_layShare_69 ?_
          refine g_sipush X dX8_layShare_72 (by decide) ?_
          refine g_iload_n X dX8_layShare_75 rfl 3 rfl ?_
          refine g_iconst X dX8_layShare_76 ?_
          refine g_idiv X dX8_layShare_77 ⟨by decide, by decide⟩ (by omega) ?_
          rw [show (jdiv r2 2 : Int) = r2 / 2 from (jdiv_pos (by unfold InR; omega) hsub.1 (by decide) (by decide))]
          refine g_imul X dX8_layShare_78 ?_
          refine g_iload X dX8_layShare_79 4 rfl ?_
          refine g_iadd X dX8_layShare_81 ?_
          refine g_iload X dX8_layShare_82 7 rfl ?_
          refine g_isub X dX8_layShare_84 ?_
          refine h_iald (a := ((481 * (r2 / 2)) + left) - x) (j := (((481 * (r2 / 2)) + left) - x).toNat) X rfl FM (by decide) (show fkX 8 10 = (1, 15392) from rfl) (by decide) (by omega) (by omega) dX8_layShare_85 ?_
          rw [show (w_1 20 10 (((481 * (r2 / 2)) + left) - x).toNat : Int) = w 20 10 (481 * (r2 / 2) + (left - x)).toNat from (by rw [s10, show 481 * (r2 / 2) + left - x = 481 * (r2 / 2) + (left - x) by omega])]
          refine g_ldc (n := 1000000000) X cst_X8_94 (by decide) dX8_layShare_86 ?_
          refine g_icmp_ge (tgt := 127) X dX8_layShare_88 (by decide) (by rcases htv with q | q <;> (unfold InR; omega)) ⟨by decide, by decide⟩ (fun c_88 => ?_) (fun c_88 => ?_)
          · skip
            have hlt : x < xs := by
              rcases Int.lt_or_le x xs with e | e
              · exact e
              · have e2 : xs = x := by omega
                rw [e2] at hx2
                have a1 := hx2.1
                have a2 : w 20 10 (481 * (r2 / 2) + (left - x)).toNat < 1000000000 := hx2.2.1
                have a3 : pwX pl (w 20 12 0) k.toNat x + w 20 10 (481 * (r2 / 2) + (left - x)).toNat = z_41 := hx2.2.2
                omega
            refine g_iinc (j := 7) (lv' := [(7, .int (iI (x + 1))), (0, .ref (gAd G 20)), (1, .int (iI set)), (2, .int (iI load)), (3, .int (iI r2)), (4, .int (iI left)), (5, .int (iI k)), (6, .int (iI z_41))]) X dX8_layShare_127 rfl (by decide) rfl ?_
            refine g_goto (tgt := 61) X dX8_layShare_130 (by decide) ?_
            refine g_lv (lv' := [(0, .ref (gAd G 20)), (1, .int (iI set)), (2, .int (iI load)), (3, .int (iI r2)), (4, .int (iI left)), (5, .int (iI k)), (6, .int (iI z_41)), (7, .int (iI (x + 1)))]) [1, 2, 3, 4, 5, 6, 7, 0] rfl ?_
            exact ih_61 (x + 1) ⟨(by first | omega | rfl | assumption), (by first | omega | rfl | assumption)⟩ (by omega)
          · skip
            refine g_aload_n X dX8_layShare_91 rfl 0 rfl ?_
            refine g_iload X dX8_layShare_92 5 rfl ?_
            refine g_iload X dX8_layShare_94 7 rfl ?_
            refine g_aload_n X dX8_layShare_96 rfl 0 rfl ?_
            refine g_geti X ck_X8 FM 12 (by decide) fl_X8_109 (Or.inl rfl) dX8_layShare_97 ?_
            refine g_calli (st := []) X (c_X8_powerOf l G k x (w_1 20 12 0) pl w_1 FM (by rw [s4]; exact hT) (by first | assumption | omega | (unfold InR; omega)) (by omega) (by omega) (by omega)) cm_X8_powerOf im_X8_powerOf se_X8_powerOf ml_X8_102 ck_X8 FM ⟨Nat.le_of_ble_eq_true rfl, Nat.le_of_ble_eq_true rfl⟩ rfl rfl (Nat.le_of_ble_eq_true rfl) dX8_layShare_100 (fn_i ?_)
            rw [show (pwX pl (w_1 20 12 0) k.toNat x : Int) = pwX pl (w 20 12 0) k.toNat x from (by rw [s120])]
            refine g_aload_n X dX8_layShare_103 rfl 0 rfl ?_
            refine g_geta X ck_X8 FM 10 (by decide) fl_X8_31 rfl dX8_layShare_104 ?_
            refine g_sipush X dX8_layShare_107 (by decide) ?_
            refine g_iload_n X dX8_layShare_110 rfl 3 rfl ?_
            refine g_iconst X dX8_layShare_111 ?_
            refine g_idiv X dX8_layShare_112 ⟨by decide, by decide⟩ (by omega) ?_
            rw [show (jdiv r2 2 : Int) = r2 / 2 from (jdiv_pos (by unfold InR; omega) hsub.1 (by decide) (by decide))]
            refine g_imul X dX8_layShare_113 ?_
            refine g_iload X dX8_layShare_114 4 rfl ?_
            refine g_iadd X dX8_layShare_116 ?_
            refine g_iload X dX8_layShare_117 7 rfl ?_
            refine g_isub X dX8_layShare_119 ?_
            refine h_iald (a := ((481 * (r2 / 2)) + left) - x) (j := (((481 * (r2 / 2)) + left) - x).toNat) X rfl FM (by decide) (show fkX 8 10 = (1, 15392) from rfl) (by decide) (by omega) (by omega) dX8_layShare_120 ?_
            rw [show (w_1 20 10 (((481 * (r2 / 2)) + left) - x).toNat : Int) = w 20 10 (481 * (r2 / 2) + (left - x)).toNat from (by rw [s10, show 481 * (r2 / 2) + left - x = 481 * (r2 / 2) + (left - x) by omega])]
            refine g_iadd X dX8_layShare_121 ?_
            refine g_iload X dX8_layShare_122 6 rfl ?_
            refine g_icmp_eq (tgt := 133) X dX8_layShare_124 (by decide) (by unfold InR; omega) (by rcases htvz with q | q <;> (unfold InR; omega)) (fun c_124 => ?_) (fun c_124 => ?_)
            · skip
              refine g_aload_n X dX8_layShare_133 rfl 0 rfl ?_
              refine g_geta X ck_X8 FM 13 (by decide) fl_X8_34 rfl dX8_layShare_134 ?_
              refine g_iload X dX8_layShare_137 5 rfl ?_
              refine g_iload X dX8_layShare_139 7 rfl ?_
              refine h_iast (a := k) (j := (k).toNat) X rfl FM (by decide) (show fkX 8 13 = (1, 6) from rfl) (by decide) (by omega) (by omega) dX8_layShare_141 ?_
              obtain ⟨w_2, ew_2⟩ : ∃ q_ : Wd, q_ = up w_1 20 13 (k).toNat x := ⟨_, rfl⟩
              refine g_w (w' := w_2) ew_2 ?_
              refine g_iload X dX8_layShare_142 4 rfl ?_
              refine g_iload X dX8_layShare_144 7 rfl ?_
              refine g_isub X dX8_layShare_146 ?_
              refine g_istore (lv' := [(4, .int (iI (left - x))), (0, .ref (gAd G 20)), (1, .int (iI set)), (2, .int (iI load)), (3, .int (iI r2)), (5, .int (iI k)), (6, .int (iI z_41)), (7, .int (iI x))]) X dX8_layShare_147 (by decide) rfl ?_
              refine g_lv (lv' := [(0, .ref (gAd G 20)), (1, .int (iI set)), (2, .int (iI load)), (3, .int (iI r2)), (4, .int (iI (left - x))), (5, .int (iI k))]) [1, 2, 3, 4, 0, 5] rfl ?_
              exact J_149 r2 (left - x) w_2 ⟨(by omega), (by
                  first
                  | exact r2b
                  | (intro j hj
                     rw [hrb j hj]
                     by_cases e : (j : Int) < k
                     rw [if_pos e, if_pos (by omega)]
                     by_cases e2 : (j : Int) < k + 1
                     rw [if_neg e, if_pos e2, show j = k.toNat by omega]; omega
                     rw [if_neg e, if_neg e2])), (by omega), (by
                  have hcs : sumB set (fun m => pkX pl (w 20 12 0) m (w_2 20 13 m)) k.toNat = sumB set (fun m => pkX pl (w 20 12 0) m (w1 20 13 m)) k.toNat := by
                    first
                    | exact sumB_congr _ (fun _ _ => rfl) (fun j hj _ => congrArg (pkX pl (w 20 12 0) j) (sM j hj))
                    | exact sumB_congr _ (fun _ _ => rfl) (fun j hj _ => congrArg (pkX pl (w 20 12 0) j) (by rw [ew_2, up_ne (by omega)]; exact sM j hj))
                  have hck : sumB set (fun m => pkX pl (w 20 12 0) m (w_2 20 13 m)) (k.toNat + 1) = sumB set (fun m => pkX pl (w 20 12 0) m (w1 20 13 m)) k.toNat + (if tb set k.toNat = 1 then pkX pl (w 20 12 0) k.toNat (w_2 20 13 k.toNat) else 0) := by
                    rw [← hcs]; rfl
                  first
                  | (have hxe : x = xs := (by
                       rcases Int.lt_or_le x xs with e | e
                       exact absurd ⟨Int.not_lt.mp c_65, Int.not_le.mp c_88, c_124⟩ (hx3 x x0 e)
                       exact Int.le_antisymm x1 e)
                     rw [← hxe] at hx4 hx5
                     refine ⟨v3, hx4, ?_⟩
                     rw [hck, if_pos hbk, ew_2, up_at]
                     omega)
                  | (obtain ⟨v2, a, b⟩ := hvv
                     refine ⟨v2, a, ?_⟩
                     rw [hck, if_neg (by omega)]
                     omega)), (by
                  intro j hj
                  by_cases e : j = k.toNat
                  · subst e
                    rw [ew_2, up_at]
                    first
                    | exact ⟨fun z => absurd z (by omega), fun _ => rfl⟩
                    | exact ⟨fun _ => ⟨x0, by omega⟩, fun z => absurd z (by omega)⟩
                  · rw [ew_2, up_ne (by omega)]
                    first
                    | exact hf j (by omega)
                    | (rw [sM j (by omega)]; exact hf j (by omega))), (by
                  have hcs : sumN (w_2 20 13) k.toNat = sumN (w1 20 13) k.toNat := by
                    first
                    | exact sumN_congr _ sM
                    | exact sumN_congr _ (fun j hj => by rw [ew_2, up_ne (by omega)]; exact sM j hj)
                  have hck : w_2 20 13 k.toNat = load - load + w_2 20 13 k.toNat := by omega
                  show sumN (w_2 20 13) k.toNat + w_2 20 13 k.toNat + _ = load
                  rw [hcs, ew_2, up_at]
                  omega), (by first | exact sfr | (intro o f h; rw [ew_2, up_fn h]; exact sfr o f h))⟩
            · skip
              have hlt : x < xs := by
                rcases Int.lt_or_le x xs with e | e
                · exact e
                · have e2 : xs = x := by omega
                  rw [e2] at hx2
                  have a1 := hx2.1
                  have a2 : w 20 10 (481 * (r2 / 2) + (left - x)).toNat < 1000000000 := hx2.2.1
                  have a3 : pwX pl (w 20 12 0) k.toNat x + w 20 10 (481 * (r2 / 2) + (left - x)).toNat = z_41 := hx2.2.2
                  omega
              refine g_iinc (j := 7) (lv' := [(7, .int (iI (x + 1))), (0, .ref (gAd G 20)), (1, .int (iI set)), (2, .int (iI load)), (3, .int (iI r2)), (4, .int (iI left)), (5, .int (iI k)), (6, .int (iI z_41))]) X dX8_layShare_127 rfl (by decide) rfl ?_
              refine g_goto (tgt := 61) X dX8_layShare_130 (by decide) ?_
              refine g_lv (lv' := [(0, .ref (gAd G 20)), (1, .int (iI set)), (2, .int (iI load)), (3, .int (iI r2)), (4, .int (iI left)), (5, .int (iI k)), (6, .int (iI z_41)), (7, .int (iI (x + 1)))]) [1, 2, 3, 4, 5, 6, 7, 0] rfl ?_
              exact ih_61 (x + 1) ⟨(by first | omega | rfl | assumption), (by first | omega | rfl | assumption)⟩ (by omega)
