theorem up_fn {w : Wd} {o f j o2 f2 : Nat} {v : Int} (h : ¬ (o2 = o ∧ f2 = f)) : up w o f j v o2 f2 = w o2 f2 := by
  funext j2
  exact up_ne (fun z => h ⟨z.1, z.2.1⟩)
/-- what the reference's table holds is right -/
def TbC (pl : Nat → Nat → Int) (u : Nat → Nat → Int) : Prop := u 11 0 = 0 ∨ (u 11 0 = 1 ∧ (0 ≤ u 12 0 ∧ u 12 0 ≤ 45) ∧ ∀ s t : Int, 0 ≤ s → s < bshl 1 (pl 0 0) → s % 2 = 0 → 0 ≤ t → t ≤ 480 → TV pl (u 12 0) s t (u 10 (481 * (s / 2) + t).toNat))
theorem bt_low {q z : Int} (h0 : 2 ≤ q) (h1 : q < 64) (he : q % 2 = 0) (hz : 0 ≤ z) (hz2 : z < 6) (hb : tb q z.toNat = 1) (hl : ∀ j : Nat, (j : Int) < z → tb q j = 0) : 0 ≤ band q (q - 1) ∧ band q (q - 1) < q ∧ band q (q - 1) % 2 = 0 :=
  fin1 (P := fun q => 2 ≤ q → q % 2 = 0 → 0 ≤ band q (q - 1) ∧ band q (q - 1) < q ∧ band q (q - 1) % 2 = 0) (by decide +kernel) (by omega) h1 h0 he
theorem low_bits {q z : Int} (h0 : 0 ≤ q) (h1 : q < 64) (hz : 0 ≤ z) (hz2 : z < 6) (hb : tb q z.toNat = 1) (hl : ∀ j : Nat, (j : Int) < z → tb q j = 0) : ∀ k, k < 6 → tb (band q (q - 1)) k = if k = z.toNat then 0 else tb q k := by
  have h := fin2 (P := fun q z => tb q z.toNat = 1 → (∀ j, j < z.toNat → tb q j = 0) → ∀ k, k < 6 → tb (band q (q - 1)) k = if k = z.toNat then 0 else tb q k) (by decide +kernel) h0 h1 hz hz2
  exact h hb (fun j hj => hl j (by omega))
theorem tb_big {n : Int} (h0 : 0 ≤ n) (h1 : n ≤ 6) {q : Int} (hq0 : 0 ≤ q) (hq : q < bshl 1 n) {k : Nat} (hk : n ≤ (k : Int)) : tb q k = 0 := by
  have e := (bt_all n h0 h1).2.2.1
  have h2 : q < 2 ^ k := by
    have : (2 : Int) ^ n.toNat ≤ 2 ^ k := by
      have h3 : (2 : Nat) ^ n.toNat ≤ 2 ^ k := Nat.pow_le_pow_right (by decide) (by omega)
      exact_mod_cast h3
    omega
  unfold tb
  rw [Int.ediv_eq_zero_of_lt hq0 h2]
  rfl
theorem ins_low {q z np : Int} {n : Nat} (h0 : 2 ≤ q) (h1 : q < bshl 1 np) (hz : 0 ≤ z) (hz2 : z < 6) (hb : tb q z.toNat = 1) (hl : ∀ j : Nat, (j : Int) < z → tb q j = 0) (hn : np = (n : Int)) (hn6 : n ≤ 6) : InsS q (band q (q - 1)) z.toNat n := by
  have ha := bt_all np (by omega) (by omega)
  have hb6 := low_bits (show 0 ≤ q by omega) (by omega) hz hz2 hb hl
  refine ⟨?_, hb, by rw [hb6 _ (by omega), if_pos rfl], fun k hk e => by rw [hb6 k (by omega), if_neg e]⟩
  rcases Nat.lt_or_ge z.toNat n with h | h
  · exact h
  · have := tb_big (by omega) (by omega) (by omega) h1 (k := z.toNat) (by omega)
    omega
theorem even_bshl (n : Int) (h0 : 1 ≤ n) (h1 : n ≤ 6) : bshl 1 n % 2 = 0 ∧ bshl 1 n ≤ 64 := by
  have h : ∀ a : Fin 7, 1 ≤ a.val → bshl 1 (a.val : Int) % 2 = 0 ∧ bshl 1 (a.val : Int) ≤ 64 := by decide +kernel
  have h2 := h ⟨n.toNat, by omega⟩ (by show 1 ≤ n.toNat; omega)
  have e : ((n.toNat : Nat) : Int) = n := by omega
  rwa [e] at h2
set_option maxHeartbeats 4000000 in
set_option maxRecDepth 100000 in
theorem c_X8_leastBy (l : Launch) (G : Ly) (m : Int) (rest : Int) (load : Int) (lift : Int) (pl : Nat → Nat → Int) (s : Int) (w : Wd) (FM : gOb G 20 = some 8) (hT : PlR pl (w 20 4)) (hp : PV pl) (hm : 0 ≤ m ∧ m < pl 0 0) (hrest : 0 ≤ rest ∧ rest < 64) (hld : 0 ≤ load ∧ load ≤ 480) (hl : 0 ≤ lift ∧ lift ≤ 45) (hA : ∀ t, 0 ≤ t → t ≤ 480 → TV pl lift rest t (w 20 10 (481 * (rest / 2) + t).toNat)) (hi : InsS s rest m.toNat (pl 0 0).toNat) : Mi l yX8_leastBy cX8_leastBy 9 (some .int) 1 24 G [.ref (gAd G 20), .int (iI m), .int (iI rest), .int (iI load), .int (iI lift)] w (fun z w2 => w2 = w ∧ (TV pl lift s load z)) := by
  refine mi_of (lv := [(0, .ref (gAd G 20)), (1, .int (iI m)), (2, .int (iI rest)), (3, .int (iI load)), (4, .int (iI lift))]) (by decide) (Nat.le_of_ble_eq_true rfl) rfl ?_
  intro p_ e_ s_ m_ b_ h_ c_ X
  have hp0 := hp.1
  have hp7 := hp.2.2
  have t36 := hT.1
  have hk := hp.2.1 m.toNat (by omega)
  refine g_ldc (n := 1000000000) X cst_X8_94 (by decide) dX8_leastBy_0 ?_
  refine g_istore (lv' := [(5, .int (iI 1000000000)), (0, .ref (gAd G 20)), (1, .int (iI m)), (2, .int (iI rest)), (3, .int (iI load)), (4, .int (iI lift))]) X dX8_leastBy_2 (by decide) rfl ?_
  refine g_aload_n X dX8_leastBy_4 rfl 1 rfl ?_
  refine g_iload_n X dX8_leastBy_5 rfl 2 rfl ?_
  refine g_calli (st := []) X (c_X8_leastOf l G m pl w FM (by first | assumption | omega | (unfold InR; omega)) (by first | assumption | omega | (unfold InR; omega)) (by first | assumption | omega | (unfold InR; omega))) cm_X8_leastOf im_X8_leastOf se_X8_leastOf ml_X8_95 ck_X8 FM ⟨Nat.le_of_ble_eq_true rfl, Nat.le_of_ble_eq_true rfl⟩ rfl rfl (Nat.le_of_ble_eq_true rfl) dX8_leastBy_6 (fn_i ?_)
  refine g_istore (lv' := [(6, .int (iI (pl 1 m.toNat))), (5, .int (iI 1000000000)), (0, .ref (gAd G 20)), (1, .int (iI m)), (2, .int (iI rest)), (3, .int (iI load)), (4, .int (iI lift))]) X dX8_leastBy_9 (by decide) rfl ?_
  refine g_lv (lv' := [(0, .ref (gAd G 20)), (1, .int (iI m)), (2, .int (iI rest)), (3, .int (iI load)), (4, .int (iI lift)), (5, .int (iI 1000000000)), (6, .int (iI (pl 1 m.toNat)))]) [2, 3, 4, 5, 6, 1, 0] rfl ?_
  refine g_loop2 (fun (best : Int) (x : Int) => [(0, .ref (gAd G 20)), (1, .int (iI m)), (2, .int (iI rest)), (3, .int (iI load)), (4, .int (iI lift)), (5, .int (iI best)), (6, .int (iI x))]) (fun (best : Int) (x : Int) => w) (fun (best : Int) (x : Int) => (pl 1 m.toNat ≤ x) ∧ (x ≤ 81) ∧ (0 ≤ best ∧ best ≤ 1000000000) ∧ (∀ y, pl 1 m.toNat ≤ y → y < x → y ≤ load → w 20 10 (481 * (rest / 2) + (load - y)).toNat < 1000000000 → best ≤ w 20 10 (481 * (rest / 2) + (load - y)).toNat + pwX pl lift m.toNat y) ∧ (Hid (best = 1000000000 ∨ ∃ y, pl 1 m.toNat ≤ y ∧ y ≤ pl 2 m.toNat ∧ y ≤ load ∧ w 20 10 (481 * (rest / 2) + (load - y)).toNat < 1000000000 ∧ best = w 20 10 (481 * (rest / 2) + (load - y)).toNat + pwX pl lift m.toNat y))) (fun (best : Int) (x : Int) => (82 - x).toNat) 1000000000 (pl 1 m.toNat) ⟨(by first | omega | rfl | assumption), (by first | omega | rfl | assumption), (by first | omega | rfl | assumption), (by intro y a b; omega), (by exact Or.inl rfl)⟩ ?_
  intro best x hI_11 ih_11
  obtain ⟨h0, h1, hr, hmin, hex⟩ := hI_11
  try dsimp only at ih_11 ⊢
  refine g_iload X dX8_leastBy_11 6 rfl ?_
  refine g_aload_n X dX8_leastBy_13 rfl 0 rfl ?_
  refine g_iload_n X dX8_leastBy_14 rfl 1 rfl ?_
  refine g_calli (st := [.int (iI x)]) X (c_X8_mostOf l G m pl w FM (by first | assumption | omega | (unfold InR; omega)) (by first | assumption | omega | (unfold InR; omega)) (by first | assumption | omega | (unfold InR; omega))) cm_X8_mostOf im_X8_mostOf se_X8_mostOf ml_X8_99 ck_X8 FM ⟨Nat.le_of_ble_eq_true rfl, Nat.le_of_ble_eq_true rfl⟩ rfl rfl (Nat.le_of_ble_eq_true rfl) dX8_leastBy_15 (fn_i ?_)
  refine g_icmp_gt (tgt := 89) X dX8_leastBy_18 (by decide) (by unfold InR; omega) (by unfold InR; omega) (fun c_18 => ?_) (fun c_18 => ?_)
  · skip
    refine g_iload X dX8_leastBy_89 5 rfl ?_
    exact g_iret X rfl rfl dX8_leastBy_91 (by exact ⟨rfl, tv_ins hp hl hi (A := fun t => w 20 10 (481 * (rest / 2) + t).toNat) hA hld.2 (fun y a b d e => hmin y a (by omega) d e) hex⟩)
  · skip
    refine g_iload X dX8_leastBy_21 6 rfl ?_
    refine g_iload_n X dX8_leastBy_23 rfl 3 rfl ?_
    refine g_icmp_gt (tgt := 89) X dX8_leastBy_24 (by decide) (by unfold InR; omega) (by unfold InR; omega) (fun c_24 => ?_) (fun c_24 => ?_)
    · skip
      refine g_iload X dX8_leastBy_89 5 rfl ?_
      exact g_iret X rfl rfl dX8_leastBy_91 (by exact ⟨rfl, tv_ins hp hl hi (A := fun t => w 20 10 (481 * (rest / 2) + t).toNat) hA hld.2 (fun y a b d e => hmin y a (by omega) d e) hex⟩)
    · skip
      have hpw := pw_rng hp (m := m.toNat) (by omega) (x := x) (lift := lift) ⟨by omega, by omega⟩ hl
      have htv := tv_rng hp hl (hA (load - x) (by omega) (by omega))
      have hdv : 0 ≤ rest / 2 ∧ rest / 2 ≤ 31 := by omega
      have htr : 0 ≤ w 20 10 (481 * (rest / 2) + (load - x)).toNat ∧ w 20 10 (481 * (rest / 2) + (load - x)).toNat ≤ 1000000000 := by rcases htv with q | q <;> omega
      refine g_aload_n X dX8_leastBy_27 rfl 0 rfl ?_
      refine g_geta X ck_X8 FM 10 (by decide) fl_X8_31 rfl dX8_leastBy_28 ?_
      refine g_sipush X dX8_leastBy_31 (by decide) ?_
      refine g_iload_n X dX8_leastBy_34 rfl 2 rfl ?_
      refine g_iconst X dX8_leastBy_35 ?_
      refine g_idiv X dX8_leastBy_36 ⟨by decide, by decide⟩ (by omega) ?_
      rw [show (jdiv rest 2 : Int) = rest / 2 from (jdiv_pos (by unfold InR; omega) hrest.1 (by decide) (by decide))]
      refine g_imul X dX8_leastBy_37 ?_
      refine g_iload_n X dX8_leastBy_38 rfl 3 rfl ?_
      refine g_iadd X dX8_leastBy_39 ?_
      refine g_iload X dX8_leastBy_40 6 rfl ?_
      refine g_isub X dX8_leastBy_42 ?_
      refine h_iald (a := ((481 * (rest / 2)) + load) - x) (j := (((481 * (rest / 2)) + load) - x).toNat) X rfl FM (by decide) (show fkX 8 10 = (1, 15392) from rfl) (by decide) (by omega) (by omega) dX8_leastBy_43 ?_
      rw [show (w 20 10 (((481 * (rest / 2)) + load) - x).toNat : Int) = w 20 10 (481 * (rest / 2) + (load - x)).toNat from (by rw [show 481 * (rest / 2) + load - x = 481 * (rest / 2) + (load - x) by omega])]
      refine g_istore (lv' := [(7, .int (iI (w 20 10 (481 * (rest / 2) + (load - x)).toNat))), (0, .ref (gAd G 20)), (1, .int (iI m)), (2, .int (iI rest)), (3, .int (iI load)), (4, .int (iI lift)), (5, .int (iI best)), (6, .int (iI x))]) X dX8_leastBy_44 (by decide) rfl ?_
      refine g_cut1 (pc' := 83) (fun (best2 : Int) => [(0, .ref (gAd G 20)), (1, .int (iI m)), (2, .int (iI rest)), (3, .int (iI load)), (4, .int (iI lift)), (5, .int (iI best2)), (6, .int (iI x))]) (fun (best2 : Int) => []) (fun (best2 : Int) => w) (fun (best2 : Int) => (0 ≤ best2 ∧ best2 ≤ best) ∧ (w 20 10 (481 * (rest / 2) + (load - x)).toNat < 1000000000 → best2 ≤ w 20 10 (481 * (rest / 2) + (load - x)).toNat + pwX pl lift m.toNat x) ∧ (Hid (best2 = best ∨ (w 20 10 (481 * (rest / 2) + (load - x)).toNat < 1000000000 ∧ best2 = w 20 10 (481 * (rest / 2) + (load - x)).toNat + pwX pl lift m.toNat x)))) ?_ ?_
      · intro best2 hI_83
        obtain ⟨hr2, hb2, he2⟩ := hI_83
        try dsimp only
        refine g_iinc (j := 6) (lv' := [(6, .int (iI (x + 1))), (0, .ref (gAd G 20)), (1, .int (iI m)), (2, .int (iI rest)), (3, .int (iI load)), (4, .int (iI lift)), (5, .int (iI best2))]) X dX8_leastBy_83 rfl (by decide) rfl ?_
        refine g_goto (tgt := 11) X dX8_leastBy_86 (by decide) ?_
        refine g_lv (lv' := [(0, .ref (gAd G 20)), (1, .int (iI m)), (2, .int (iI rest)), (3, .int (iI load)), (4, .int (iI lift)), (5, .int (iI best2)), (6, .int (iI (x + 1)))]) [1, 2, 3, 4, 5, 6, 0] rfl ?_
        exact ih_11 best2 (x + 1) ⟨(by first | omega | rfl | assumption), (by first | omega | rfl | assumption), (by omega), (by intro y a b d e; rcases Int.lt_or_le y x with f | f; (have := hmin y a f d e; omega); (have e2 : y = x := (by omega)); subst e2; exact hb2 e), (by
            rcases he2 with q | q
            · rw [q]; exact hex
            · exact Or.inr ⟨x, h0, by omega, by omega, q⟩)⟩ (by omega)
      · intro J_83
        try dsimp only at J_83
        refine g_iload X dX8_leastBy_46 0 rfl ?_
        refine g_ldc (n := 1000000000) X cst_X8_94 (by decide) dX8_leastBy_48 ?_
        refine g_icmp_ge (tgt := 83) X dX8_leastBy_50 (by decide) (by unfold InR; omega) ⟨by decide, by decide⟩ (fun c_50 => ?_) (fun c_50 => ?_)
        · skip
          refine g_lv (lv' := [(0, .ref (gAd G 20)), (1, .int (iI m)), (2, .int (iI rest)), (3, .int (iI load)), (4, .int (iI lift)), (5, .int (iI best)), (6, .int (iI x))]) [1, 2, 3, 4, 5, 6, 7] rfl ?_
          exact J_83 best ⟨(by first | omega), (by first | (intro _; omega) | (intro h; exact absurd h (by omega))), (by first | exact Or.inl rfl | (rcases Int.lt_or_le (w 20 10 (481 * (rest / 2) + (load - x)).toNat + pwX pl lift m.toNat x) best with e | e; exact Or.inr ⟨by omega, by omega⟩; exact Or.inl (by omega)))⟩
        · skip
          refine g_iload X dX8_leastBy_53 0 rfl ?_
          refine g_aload_n X dX8_leastBy_55 rfl 1 rfl ?_
          refine g_iload_n X dX8_leastBy_56 rfl 2 rfl ?_
          refine g_iload X dX8_leastBy_57 7 rfl ?_
          refine g_iload X dX8_leastBy_59 5 rfl ?_
          refine g_calli (st := [.int (iI (w 20 10 (481 * (rest / 2) + (load - x)).toNat))]) X (c_X8_powerOf l G m x lift pl w FM (by first | assumption | omega | (unfold InR; omega)) (by first | assumption | omega | (unfold InR; omega)) (by first | assumption | omega | (unfold InR; omega)) (by first | assumption | omega | (unfold InR; omega)) (by first | assumption | omega | (unfold InR; omega))) cm_X8_powerOf im_X8_powerOf se_X8_powerOf ml_X8_102 ck_X8 FM ⟨Nat.le_of_ble_eq_true rfl, Nat.le_of_ble_eq_true rfl⟩ rfl rfl (Nat.le_of_ble_eq_true rfl) dX8_leastBy_61 (fn_i ?_)
          refine g_iadd X dX8_leastBy_64 ?_
          refine g_istore (lv' := [(8, .int (iI ((w 20 10 (481 * (rest / 2) + (load - x)).toNat) + (pwX pl lift m.toNat x)))), (7, .int (iI (w 20 10 (481 * (rest / 2) + (load - x)).toNat))), (0, .ref (gAd G 20)), (1, .int (iI m)), (2, .int (iI rest)), (3, .int (iI load)), (4, .int (iI lift)), (5, .int (iI best)), (6, .int (iI x))]) X dX8_leastBy_65 (by decide) rfl ?_
          refine g_cut1 (pc' := 81) (fun (b3 : Int) => [(0, .ref (gAd G 20)), (1, .int (iI m)), (2, .int (iI rest)), (3, .int (iI load)), (4, .int (iI lift)), (5, .int (iI best)), (6, .int (iI x))]) (fun (b3 : Int) => [.int (iI b3)]) (fun (b3 : Int) => w) (fun (b3 : Int) => (b3 = min best (w 20 10 (481 * (rest / 2) + (load - x)).toNat + pwX pl lift m.toNat x))) ?_ ?_
          · intro b3 hI_81
            have h3 := hI_81
            try dsimp only at h3 ⊢
            refine g_istore (lv' := [(5, .int (iI b3)), (0, .ref (gAd G 20)), (1, .int (iI m)), (2, .int (iI rest)), (3, .int (iI load)), (4, .int (iI lift)), (6, .int (iI x))]) X dX8_leastBy_81 (by decide) rfl ?_
            refine g_lv (lv' := [(0, .ref (gAd G 20)), (1, .int (iI m)), (2, .int (iI rest)), (3, .int (iI load)), (4, .int (iI lift)), (5, .int (iI b3)), (6, .int (iI x))]) [1, 2, 3, 4, 5, 0, 6] rfl ?_
            exact J_83 b3 ⟨(by first | omega), (by first | (intro _; omega) | (intro h; exact absurd h (by omega))), (by first | exact Or.inl rfl | (rcases Int.lt_or_le (w 20 10 (481 * (rest / 2) + (load - x)).toNat + pwX pl lift m.toNat x) best with e | e; exact Or.inr ⟨by omega, by omega⟩; exact Or.inl (by omega)))⟩
          · intro J_81
            try dsimp only at J_81
            refine g_iload X dX8_leastBy_67 0 rfl ?_
            refine g_iload X dX8_leastBy_69 7 rfl ?_
            refine g_icmp_ge (tgt := 79) X dX8_leastBy_71 (by decide) (by unfold InR; omega) (by unfold InR; omega) (fun c_71 => ?_) (fun c_71 => ?_)
            · skip
              refine g_iload X dX8_leastBy_79 7 rfl ?_
              refine g_lv (lv' := [(0, .ref (gAd G 20)), (1, .int (iI m)), (2, .int (iI rest)), (3, .int (iI load)), (4, .int (iI lift)), (5, .int (iI best)), (6, .int (iI x))]) [2, 3, 4, 5, 6, 7, 8] rfl ?_
              exact J_81 best (by omega)
            · skip
              refine g_iload X dX8_leastBy_74 0 rfl ?_
              refine g_goto (tgt := 81) X dX8_leastBy_76 (by decide) ?_
              refine g_lv (lv' := [(0, .ref (gAd G 20)), (1, .int (iI m)), (2, .int (iI rest)), (3, .int (iI load)), (4, .int (iI lift)), (5, .int (iI best)), (6, .int (iI x))]) [2, 3, 4, 5, 6, 7, 8] rfl ?_
              exact J_81 ((w 20 10 (481 * (rest / 2) + (load - x)).toNat) + (pwX pl lift m.toNat x)) (by omega)
set_option maxHeartbeats 4000000 in
set_option maxRecDepth 100000 in
theorem c_X8_layTable (l : Launch) (G : Ly) (pl : Nat → Nat → Int) (w : Wd) (FM : gOb G 20 = some 8) (hT : PlR pl (w 20 4)) (hp : PV pl) (h2 : 0 ≤ w 20 5 2 ∧ w 20 5 2 ≤ 45) (h3 : 4 ≤ w 20 5 3 ∧ w 20 5 3 ≤ 14) (hC : TbC pl (w 20)) : Mv l yX8_layTable cX8_layTable 5 none 2 52 G [.ref (gAd G 20)] w (fun w2 => (∀ o f, ¬ (o = 20 ∧ (f = 10 ∨ f = 11 ∨ f = 12)) → w2 o f = w o f) ∧ TbC pl (w2 20) ∧ w2 20 11 0 = 1 ∧ w2 20 12 0 = (max 0 (w 20 5 2 - w 20 5 3))) := by
  refine mv_of (lv := [(0, .ref (gAd G 20))]) (by decide) (Nat.le_of_ble_eq_true rfl) rfl ?_
  intro p_ e_ s_ m_ b_ h_ c_ X
  have hp0 := hp.1
  have hp7 := hp.2.2
  have t36 := hT.1
  have hlf : 0 ≤ (max 0 (w 20 5 2 - w 20 5 3)) ∧ (max 0 (w 20 5 2 - w 20 5 3)) ≤ 45 := by omega
  obtain ⟨lift, elift⟩ : ∃ q, q = (max 0 (w 20 5 2 - w 20 5 3)) := ⟨_, rfl⟩
  rw [← elift] at hlf
  have hall := bt_all (pl 0 0) (by omega) (by omega)
  have hc3 : w 20 11 0 = 0 ∨ (w 20 11 0 = 1 ∧ 0 ≤ w 20 12 0 ∧ w 20 12 0 ≤ 45) := by rcases hC with q | q; exact Or.inl q; exact Or.inr ⟨q.1, q.2.1⟩
  refine g_aload_n X dX8_layTable_0 rfl 0 rfl ?_
  refine g_calli (st := []) X (c_X8_lift l G  w FM (by first | assumption | omega | (unfold InR; omega)) (by first | assumption | omega | (unfold InR; omega))) cm_X8_lift im_X8_lift se_X8_lift ml_X8_106 ck_X8 FM ⟨Nat.le_of_ble_eq_true rfl, Nat.le_of_ble_eq_true rfl⟩ rfl rfl (Nat.le_of_ble_eq_true rfl) dX8_layTable_1 (fn_i ?_)
  rw [show (max 0 (w 20 5 2 - w 20 5 3) : Int) = lift from elift.symm]
  refine g_istore_n (lv' := [(1, .int (iI lift)), (0, .ref (gAd G 20))]) X dX8_layTable_4 rfl (by decide) rfl ?_
  refine g_cut1 (pc' := 21) (fun (d_ : Int) => [(0, .ref (gAd G 20)), (1, .int (iI lift))]) (fun (d_ : Int) => []) (fun (d_ : Int) => w) (fun (d_ : Int) => True) ?_ ?_
  · intro d_ hI_21
    try dsimp only
    refine g_aload_n X dX8_layTable_21 rfl 0 rfl ?_
    refine g_iconst X dX8_layTable_22 ?_
    refine g_putf X ck_X8 FM 11 (by decide) fl_X8_51 (Or.inr rfl) rfl (by decide) (by decide) dX8_layTable_23 ?_
    obtain ⟨w_1, ew_1⟩ : ∃ q_ : Wd, q_ = up w 20 11 0 1 := ⟨_, rfl⟩
    refine g_w (w' := w_1) ew_1 ?_
    refine g_aload_n X dX8_layTable_26 rfl 0 rfl ?_
    refine g_iload_n X dX8_layTable_27 rfl 1 rfl ?_
    refine g_puti X ck_X8 FM 12 (by decide) fl_X8_109 rfl rfl rfl dX8_layTable_28 ?_
    obtain ⟨w_2, ew_2⟩ : ∃ q_ : Wd, q_ = up w_1 20 12 0 lift := ⟨_, rfl⟩
    refine g_w (w' := w_2) ew_2 ?_
    refine g_iconst X dX8_layTable_31 ?_
    refine g_istore_n (lv' := [(2, .int (iI 0)), (0, .ref (gAd G 20)), (1, .int (iI lift))]) X dX8_layTable_32 rfl (by decide) rfl ?_
    refine g_lv (lv' := [(0, .ref (gAd G 20)), (1, .int (iI lift)), (2, .int (iI 0))]) [1, 2, 0] rfl ?_
    refine g_loop2 (fun (k : Int) (w1 : Wd) => [(0, .ref (gAd G 20)), (1, .int (iI lift)), (2, .int (iI k))]) (fun (k : Int) (w1 : Wd) => w1) (fun (k : Int) (w1 : Wd) => (0 ≤ k) ∧ (k ≤ 481) ∧ ((∀ o f, ¬ (o = 20 ∧ (f = 10 ∨ f = 11 ∨ f = 12)) → w1 o f = w o f)) ∧ (w1 20 11 0 = 1) ∧ (w1 20 12 0 = lift) ∧ (∀ t : Int, 0 ≤ t → t < k → w1 20 10 t.toNat = if t = 0 then 0 else 1000000000)) (fun (k : Int) (w1 : Wd) => (481 - k).toNat) 0 w_2 ⟨(by first | omega | rfl | assumption), (by first | omega | rfl | assumption), (by intro o f h; rw [ew_2, ew_1, up_fn (fun z => h ⟨z.1, by omega⟩), up_fn (fun z => h ⟨z.1, by omega⟩)]), (by rw [ew_2, ew_1, up_ne (by decide), up_at]), (by rw [ew_2, ew_1, up_at]), (by intro t a b; omega)⟩ ?_
    intro k w1 hI_33 ih_33
    obtain ⟨h0, h1, hfr, g11, g12, hrow⟩ := hI_33
    try dsimp only at ih_33 ⊢
    have w4e : w1 20 4 = w 20 4 := hfr 20 4 (by decide)
    refine g_iload_n X dX8_layTable_33 rfl 2 rfl ?_
    refine g_sipush X dX8_layTable_34 (by decide) ?_
    refine g_icmp_ge (tgt := 62) X dX8_layTable_37 (by decide) (by unfold InR; omega) ⟨by decide, by decide⟩ (fun c_37 => ?_) (fun c_37 => ?_)
    · skip
      refine g_iconst X dX8_layTable_62 ?_
      refine g_istore_n (lv' := [(2, .int (iI 2)), (0, .ref (gAd G 20)), (1, .int (iI lift))]) X dX8_layTable_63 rfl (by decide) rfl ?_
      refine g_lv (lv' := [(0, .ref (gAd G 20)), (1, .int (iI lift)), (2, .int (iI 2))]) [1, 2, 0] rfl ?_
      refine g_loop2 (fun (q : Int) (w3 : Wd) => [(0, .ref (gAd G 20)), (1, .int (iI lift)), (2, .int (iI q))]) (fun (q : Int) (w3 : Wd) => w3) (fun (q : Int) (w3 : Wd) => (2 ≤ q ∧ q ≤ 64) ∧ (q % 2 = 0) ∧ ((∀ o f, ¬ (o = 20 ∧ (f = 10 ∨ f = 11 ∨ f = 12)) → w3 o f = w o f)) ∧ (w3 20 11 0 = 1) ∧ (w3 20 12 0 = lift) ∧ (∀ s t : Int, 0 ≤ s → s < q → s % 2 = 0 → 0 ≤ t → t ≤ 480 → TV pl lift s t (w3 20 10 (481 * (s / 2) + t).toNat))) (fun (q : Int) (w3 : Wd) => (66 - q).toNat) 2 w1 ⟨(by first | omega | rfl | assumption), (by first | omega | rfl | assumption), (by exact hfr), (by exact g11), (by exact g12), (by
          intro s t a b d e f
          have hs0 : s = 0 := by omega
          subst hs0
          rw [show 481 * ((0 : Int) / 2) + t = t by omega, hrow t e (by omega)]
          exact tv_0)⟩ ?_
      intro q w3 hI_64 ih_64
      obtain ⟨j0, j1, kfr, k11, k12, hI⟩ := hI_64
      try dsimp only at ih_64 ⊢
      have e4 : w3 20 4 = w 20 4 := kfr 20 4 (by decide)
      have e436 : w3 20 4 36 = pl 0 0 := by rw [e4]; exact t36
      refine g_iload_n X dX8_layTable_64 rfl 2 rfl ?_
      refine g_iconst X dX8_layTable_65 ?_
      refine g_aload_n X dX8_layTable_66 rfl 0 rfl ?_
      refine g_geta X ck_X8 FM 4 (by decide) fl_X8_16 rfl dX8_layTable_67 ?_
      refine g_bipush X dX8_layTable_70 (by decide) ?_
      refine h_iald (a := 36) (j := 36) X rfl FM (by decide) (show fkX 8 4 = (1, 44) from rfl) (by decide) (by omega) (by omega) dX8_layTable_72 ?_
      refine g_ishl X dX8_layTable_73 ?_
      refine g_icmp_ge (tgt := 133) X dX8_layTable_74 (by decide) (by unfold InR; omega) (by rw [e436]; unfold InR; omega) (fun c_74 => ?_) (fun c_74 => ?_)
      · skip
        exact g_vret X rfl dX8_layTable_133 (by
            rw [e436] at c_74
            refine ⟨kfr, Or.inr ⟨k11, by omega, fun s t a b d e f => ?_⟩, k11, by first | exact k12 | exact k12.trans elift⟩
            rw [k12]
            exact hI s t a (by omega) d e f)
      · skip
        rw [e436] at c_74
        have hq64 : q < 64 := by omega
        refine g_iload_n X dX8_layTable_77 rfl 2 rfl ?_
        refine g_callsi (st := []) X (c_X8_lowest l G q w3 (by omega) (by first | assumption | omega | (unfold InR; omega))) cm_X8_lowest sm_X8_lowest ml_X8_112 ⟨Nat.le_of_ble_eq_true rfl, Nat.le_of_ble_eq_true rfl⟩ rfl rfl (Nat.le_of_ble_eq_true rfl) dX8_layTable_78 (fn_p ?_)
        rintro z_78 ⟨z2, z3, z4⟩
        refine g_istore_n (lv' := [(3, .int (iI z_78)), (0, .ref (gAd G 20)), (1, .int (iI lift)), (2, .int (iI q))]) X dX8_layTable_81 rfl (by decide) rfl ?_
        refine g_iconst X dX8_layTable_82 ?_
        refine g_istore (lv' := [(4, .int (iI 0)), (3, .int (iI z_78)), (0, .ref (gAd G 20)), (1, .int (iI lift)), (2, .int (iI q))]) X dX8_layTable_83 (by decide) rfl ?_
        refine g_lv (lv' := [(0, .ref (gAd G 20)), (1, .int (iI lift)), (2, .int (iI q)), (3, .int (iI z_78)), (4, .int (iI 0))]) [2, 3, 4, 1, 0] rfl ?_
        refine g_loop2 (fun (ld : Int) (w4 : Wd) => [(0, .ref (gAd G 20)), (1, .int (iI lift)), (2, .int (iI q)), (3, .int (iI z_78)), (4, .int (iI ld))]) (fun (ld : Int) (w4 : Wd) => w4) (fun (ld : Int) (w4 : Wd) => (0 ≤ ld) ∧ (ld ≤ 481) ∧ ((∀ o f, ¬ (o = 20 ∧ (f = 10 ∨ f = 11 ∨ f = 12)) → w4 o f = w o f)) ∧ (w4 20 11 0 = 1) ∧ (w4 20 12 0 = lift) ∧ (∀ s t : Int, 0 ≤ s → s < q → s % 2 = 0 → 0 ≤ t → t ≤ 480 → TV pl lift s t (w4 20 10 (481 * (s / 2) + t).toNat)) ∧ (∀ t : Int, 0 ≤ t → t < ld → TV pl lift q t (w4 20 10 (481 * (q / 2) + t).toNat))) (fun (ld : Int) (w4 : Wd) => (481 - ld).toNat) 0 w3 ⟨(by first | omega | rfl | assumption), (by first | omega | rfl | assumption), (by exact kfr), (by exact k11), (by exact k12), (by exact hI), (by intro t a b; omega)⟩ ?_
        intro ld w4 hI_85 ih_85
        obtain ⟨l0, l1, mfr, m11, m12, hJ, hK⟩ := hI_85
        try dsimp only at ih_85 ⊢
        have e44 : w4 20 4 = w 20 4 := mfr 20 4 (by decide)
        refine g_iload X dX8_layTable_85 4 rfl ?_
        refine g_sipush X dX8_layTable_87 (by decide) ?_
        refine g_icmp_ge (tgt := 127) X dX8_layTable_90 (by decide) (by unfold InR; omega) ⟨by decide, by decide⟩ (fun c_90 => ?_) (fun c_90 => ?_)
        · skip
          refine g_iinc (j := 2) (lv' := [(2, .int (iI (q + 2))), (0, .ref (gAd G 20)), (1, .int (iI lift)), (3, .int (iI z_78)), (4, .int (iI ld))]) X dX8_layTable_127 rfl (by decide) rfl ?_
          refine g_goto (tgt := 64) X dX8_layTable_130 (by decide) ?_
          refine g_lv (lv' := [(0, .ref (gAd G 20)), (1, .int (iI lift)), (2, .int (iI (q + 2)))]) [1, 2, 0] rfl ?_
          exact ih_64 (q + 2) w4 ⟨(by have := even_bshl (pl 0 0) (by omega) (by omega); omega), (by first | omega | rfl | assumption), (by exact mfr), (by exact m11), (by exact m12), (by intro s t a b d e f; rcases Int.lt_or_le s q with g | g; exact hJ s t a g d e f; (have e2 : s = q := (by omega)); subst e2; exact hK t e (by omega))⟩ (by omega)
        · skip
          have hbl := bt_low j0.1 (show q < 64 by omega) j1 z2.1 z2.2 z3 z4
          have hbi := ins_low (n := (pl 0 0).toNat) j0.1 (show q < bshl 1 (pl 0 0) by omega) z2.1 z2.2 z3 z4 (by omega) (by omega)
          refine g_aload_n X dX8_layTable_93 rfl 0 rfl ?_
          refine g_geta X ck_X8 FM 10 (by decide) fl_X8_31 rfl dX8_layTable_94 ?_
          refine g_sipush X dX8_layTable_97 (by decide) ?_
          refine g_iload_n X dX8_layTable_100 rfl 2 rfl ?_
          refine g_iconst X dX8_layTable_101 ?_
          refine g_idiv X dX8_layTable_102 ⟨by decide, by decide⟩ (by omega) ?_
          rw [show (jdiv q 2 : Int) = q / 2 from (jdiv_pos (by unfold InR; omega) (by omega) (by decide) (by decide))]
          refine g_imul X dX8_layTable_103 ?_
          refine g_iload X dX8_layTable_104 4 rfl ?_
          refine g_iadd X dX8_layTable_106 ?_
          refine g_aload_n X dX8_layTable_107 rfl 0 rfl ?_
          refine g_iload_n X dX8_layTable_108 rfl 3 rfl ?_
          refine g_iload_n X dX8_layTable_109 rfl 2 rfl ?_
          refine g_iload_n X dX8_layTable_110 rfl 2 rfl ?_
          refine g_iconst X dX8_layTable_111 ?_
          refine g_isub X dX8_layTable_112 ?_
          refine g_iand X dX8_layTable_113 ?_
          refine g_iload X dX8_layTable_114 4 rfl ?_
          refine g_iload_n X dX8_layTable_116 rfl 1 rfl ?_
          refine g_calli (st := [.int (iI ((481 * (q / 2)) + ld)), .ref (gAr G 20 10)]) X (c_X8_leastBy l G z_78 (band q (q - 1)) ld lift pl q w4 FM (by rw [e44]; exact hT) (by first | assumption | omega | (unfold InR; omega)) (by have := hbi.1; omega) (by omega) (by first | assumption | omega | (unfold InR; omega)) (by exact hlf) (by exact fun t a b => hJ _ t hbl.1 hbl.2.1 hbl.2.2 a b) (by exact hbi)) cm_X8_leastBy im_X8_leastBy se_X8_leastBy ml_X8_115 ck_X8 FM ⟨Nat.le_of_ble_eq_true rfl, Nat.le_of_ble_eq_true rfl⟩ rfl rfl (Nat.le_of_ble_eq_true rfl) dX8_layTable_117 (fn_p ?_)
          rintro z_117 h_117
          refine h_iast (a := (481 * (q / 2)) + ld) (j := ((481 * (q / 2)) + ld).toNat) X rfl FM (by decide) (show fkX 8 10 = (1, 15392) from rfl) (by decide) (by omega) (by omega) dX8_layTable_120 ?_
          obtain ⟨w_3, ew_3⟩ : ∃ q_ : Wd, q_ = up w4 20 10 ((481 * (q / 2)) + ld).toNat z_117 := ⟨_, rfl⟩
          refine g_w (w' := w_3) ew_3 ?_
          refine g_iinc (j := 4) (lv' := [(4, .int (iI (ld + 1))), (0, .ref (gAd G 20)), (1, .int (iI lift)), (2, .int (iI q)), (3, .int (iI z_78))]) X dX8_layTable_121 rfl (by decide) rfl ?_
          refine g_goto (tgt := 85) X dX8_layTable_124 (by decide) ?_
          refine g_lv (lv' := [(0, .ref (gAd G 20)), (1, .int (iI lift)), (2, .int (iI q)), (3, .int (iI z_78)), (4, .int (iI (ld + 1)))]) [1, 2, 3, 4, 0] rfl ?_
          exact ih_85 (ld + 1) w_3 ⟨(by first | omega | rfl | assumption), (by first | omega | rfl | assumption), (by intro o f h; rw [ew_3, up_fn (fun z => h ⟨z.1, by omega⟩)]; exact mfr o f h), (by rw [ew_3, up_ne (by simp)]; exact m11), (by rw [ew_3, up_ne (by simp)]; exact m12), (by intro s t a b d e f; rw [ew_3, up_ne (by omega)]; exact hJ s t a b d e f), (by intro t a b; rcases Int.lt_or_le t ld with e | e; (rw [ew_3, up_ne (by omega)]; exact hK t a e); (have e2 : t = ld := (by omega)); subst e2; rw [ew_3, up_at]; exact h_117)⟩ (by omega)
    · skip
      refine g_aload_n X dX8_layTable_40 rfl 0 rfl ?_
      refine g_cut1 (pc' := 55) (fun (x : Int) => [(0, .ref (gAd G 20)), (1, .int (iI lift)), (2, .int (iI k))]) (fun (x : Int) => [.int (iI x), .int (iI k), .ref (gAr G 20 10)]) (fun (x : Int) => w1) (fun (x : Int) => (x = if k = 0 then 0 else 1000000000)) ?_ ?_
      · intro x hI_55
        have hx := hI_55
        try dsimp only at hx ⊢
        refine h_iast (a := k) (j := (k).toNat) X rfl FM (by decide) (show fkX 8 10 = (1, 15392) from rfl) (by decide) (by omega) (by omega) dX8_layTable_55 ?_
        obtain ⟨w_4, ew_4⟩ : ∃ q_ : Wd, q_ = up w1 20 10 (k).toNat x := ⟨_, rfl⟩
        refine g_w (w' := w_4) ew_4 ?_
        refine g_iinc (j := 2) (lv' := [(2, .int (iI (k + 1))), (0, .ref (gAd G 20)), (1, .int (iI lift))]) X dX8_layTable_56 rfl (by decide) rfl ?_
        refine g_goto (tgt := 33) X dX8_layTable_59 (by decide) ?_
        refine g_lv (lv' := [(0, .ref (gAd G 20)), (1, .int (iI lift)), (2, .int (iI (k + 1)))]) [1, 2, 0] rfl ?_
        exact ih_33 (k + 1) w_4 ⟨(by first | omega | rfl | assumption), (by first | omega | rfl | assumption), (by intro o f h; rw [ew_4, up_fn (fun z => h ⟨z.1, by omega⟩)]; exact hfr o f h), (by rw [ew_4, up_ne (by simp)]; exact g11), (by rw [ew_4, up_ne (by simp)]; exact g12), (by intro t a b; rcases Int.lt_or_le t k with e | e; (rw [ew_4, up_ne (by omega)]; exact hrow t a e); (have e2 : t = k := (by omega)); subst e2; rw [ew_4, up_at]; exact hx)⟩ (by omega)
      · intro J_55
        try dsimp only at J_55
        refine g_geta X ck_X8 FM 10 (by decide) fl_X8_31 rfl dX8_layTable_41 ?_
        refine g_iload_n X dX8_layTable_44 rfl 2 rfl ?_
        refine g_iload_n X dX8_layTable_45 rfl 2 rfl ?_
        refine g_if_ne (tgt := 53) X dX8_layTable_46 (by decide) (by unfold InR; omega) (fun c_46 => ?_) (fun c_46 => ?_)
        · skip
          refine g_ldc (n := 1000000000) X cst_X8_94 (by decide) dX8_layTable_53 ?_
          refine g_lv (lv' := [(0, .ref (gAd G 20)), (1, .int (iI lift)), (2, .int (iI k))]) [0, 1, 2] rfl ?_
          exact J_55 1000000000 (by first | rw [if_pos (by omega)] | rw [if_neg (by omega)])
        · skip
          refine g_iconst X dX8_layTable_49 ?_
          refine g_goto (tgt := 55) X dX8_layTable_50 (by decide) ?_
          refine g_lv (lv' := [(0, .ref (gAd G 20)), (1, .int (iI lift)), (2, .int (iI k))]) [0, 1, 2] rfl ?_
          exact J_55 0 (by first | rw [if_pos (by omega)] | rw [if_neg (by omega)])
  · intro J_21
    try dsimp only at J_21
    refine g_aload_n X dX8_layTable_5 rfl 1 rfl ?_
    refine g_geti X ck_X8 FM 11 (by decide) fl_X8_51 (Or.inr rfl) dX8_layTable_6 ?_
    refine g_if_eq (tgt := 21) X dX8_layTable_9 (by decide) (by unfold InR; omega) (fun c_9 => ?_) (fun c_9 => ?_)
    · skip
      refine g_lv (lv' := [(0, .ref (gAd G 20)), (1, .int (iI lift))]) [1, 0] rfl ?_
      exact J_21 0 trivial
    · skip
      refine g_aload_n X dX8_layTable_12 rfl 1 rfl ?_
      refine g_geti X ck_X8 FM 12 (by decide) fl_X8_109 (Or.inl rfl) dX8_layTable_13 ?_
      refine g_iload_n X dX8_layTable_16 rfl 0 rfl ?_
      refine g_icmp_ne (tgt := 21) X dX8_layTable_17 (by decide) (by unfold InR; omega) (by unfold InR; omega) (fun c_17 => ?_) (fun c_17 => ?_)
      · skip
        refine g_lv (lv' := [(0, .ref (gAd G 20)), (1, .int (iI lift))]) [1, 0] rfl ?_
        exact J_21 0 trivial
      · skip
        exact g_vret X rfl dX8_layTable_20 (by
            rcases hC with q | q
            · omega
            · exact ⟨fun _ _ _ => rfl, Or.inr q, q.1, by omega⟩)
