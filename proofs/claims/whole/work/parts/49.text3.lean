theorem plr_add {pl : Nat → Nat → Int} {T : Nat → Int} (h : PlR pl T) {n : Nat} (hn : pl 0 0 = (n : Int)) (h6 : n < 6) (nv : Nat → Int) {a b c d e f : Int} (e0 : nv 0 = a) (e1 : nv 1 = b) (e2 : nv 2 = c) (e3 : nv 3 = d) (e4 : nv 4 = e) (e5 : nv 5 = f) :
    PlR (tmX pl nv) (fup (fup (fup (fup (fup (fup (fup T (6 * n) a) (6 * n + 1) b) (6 * n + 2) c) (6 * n + 3) d) (6 * n + 4) e) (6 * n + 5) f) 36 (pl 0 0 + 1)) := by
  have hnn : (pl 0 0).toNat = n := by omega
  unfold tmX
  rw [if_pos (by omega), hnn]
  refine ⟨by rw [fup_at, fu_at], fun m g hm hg => ?_, fun g h1 h2 => ?_⟩
  · rw [fu_at] at hm
    rw [fup_ne (by omega)]
    by_cases em : m = n
    · subst em
      rcases (show g = 0 ∨ g = 1 ∨ g = 2 ∨ g = 3 ∨ g = 4 ∨ g = 5 by omega) with rfl | rfl | rfl | rfl | rfl | rfl <;> simp [fup, fu, e0, e1, e2, e3, e4, e5]
    · rw [fup_ne (by omega), fup_ne (by omega), fup_ne (by omega), fup_ne (by omega), fup_ne (by omega), fup_ne (by omega), h.2.1 m g (by omega) hg]
      rw [fu_ne (by omega), fu_ne (by omega), fu_ne (by omega), fu_ne (by omega), fu_ne (by omega), fu_ne (by omega), fu_ne (by omega)]
  · rw [fup_ne (by omega), fup_ne (by omega), fup_ne (by omega), fup_ne (by omega), fup_ne (by omega), fup_ne (by omega), fup_ne (by omega), h.2.2 g h1 h2]
    rw [fu_ne (by omega), fu_ne (by omega), fu_ne (by omega), fu_ne (by omega), fu_ne (by omega), fu_ne (by omega), fu_ne (by omega)]
/-- numbers read first, then held against their bounds -/
theorem rq_iff {t : Nat → Int} {L : Int} {N : Nat} {lo hi : Nat → Int} {p0 : Int} (hp : p0 ≠ -4) : ∀ k, (rqX t L N lo hi p0 k ≠ -4 → rqX t L N (fun _ => 0) (fun _ => 99) p0 k = rqX t L N lo hi p0 k ∧ ∀ j, j < k → lo j ≤ nvX t L (rqX t L N (fun _ => 0) (fun _ => 99) p0 j) ∧ nvX t L (rqX t L N (fun _ => 0) (fun _ => 99) p0 j) ≤ hi j) ∧
    (rqX t L N (fun _ => 0) (fun _ => 99) p0 k ≠ -4 → (∀ j, j < k → lo j ≤ nvX t L (rqX t L N (fun _ => 0) (fun _ => 99) p0 j) ∧ nvX t L (rqX t L N (fun _ => 0) (fun _ => 99) p0 j) ≤ hi j) → rqX t L N lo hi p0 k ≠ -4)
  | 0 => ⟨fun _ => ⟨rfl, fun j hj => absurd hj (Nat.not_lt_zero _)⟩, fun h _ => h⟩
  | k + 1 => by
    obtain ⟨a, b⟩ := rq_iff (t := t) (L := L) (N := N) (lo := lo) (hi := hi) hp k
    rw [rqX_s, rqX_s]
    refine ⟨fun h => ?_, fun h hj => ?_⟩
    · by_cases c : rqX t L N lo hi p0 k = -4
      · rw [if_pos c] at h; exact absurd rfl h
      · obtain ⟨a1, a2⟩ := a c
        rw [if_neg c] at h ⊢
        rw [a1, if_neg c]
        by_cases d : figX t L (rqX t L N lo hi p0 k) ∧ ltX t L (neX t L (rqX t L N lo hi p0 k)) = sepX N k ∧ lo k ≤ nvX t L (rqX t L N lo hi p0 k) ∧ nvX t L (rqX t L N lo hi p0 k) ≤ hi k
        · rw [if_pos d, if_pos ⟨d.1, d.2.1, (nvX_in d.1).1, (nvX_in d.1).2⟩]
          refine ⟨rfl, fun j hj => ?_⟩
          by_cases e : j = k
          · subst e; rw [a1]; exact d.2.2
          · exact a2 j (by omega)
        · rw [if_neg d] at h; exact absurd rfl h
    · by_cases c : rqX t L N (fun _ => 0) (fun _ => 99) p0 k = -4
      · rw [if_pos c] at h; exact absurd rfl h
      · have b1 := b c (fun j q => hj j (by omega))
        have a1 := (a b1).1
        have hk := hj k (by omega)
        rw [if_neg c] at h
        rw [if_neg b1]
        rw [a1] at h hk
        by_cases d : figX t L (rqX t L N lo hi p0 k) ∧ ltX t L (neX t L (rqX t L N lo hi p0 k)) = sepX N k ∧ (0 : Int) ≤ nvX t L (rqX t L N lo hi p0 k) ∧ nvX t L (rqX t L N lo hi p0 k) ≤ 99
        · rw [if_pos d] at h
          rw [if_pos ⟨d.1, d.2.1, hk⟩]
          exact h
        · rw [if_neg d] at h; exact absurd rfl h
set_option maxHeartbeats 4000000 in
set_option maxRecDepth 100000 in
theorem c_X8_beginRead (l : Launch) (G : Ly)  (w : Wd) (FM : gOb G 20 = some 8) : Mv l yX8_beginRead cX8_beginRead 2 none 0 0 G [.ref (gAd G 20)] w (fun w2 => (∀ o f, ¬ (o = 20 ∧ f = 3) → w2 o f = w o f) ∧ ∀ u0, PlR (p0X u0) (w2 20 3)) := by
  refine mv_of (lv := [(0, .ref (gAd G 20))]) (by decide) (Nat.le_of_ble_eq_true rfl) rfl ?_
  intro p_ e_ s_ m_ b_ h_ c_ X
  refine g_iconst X dX8_beginRead_0 ?_
  refine g_istore_n (lv' := [(1, .int (iI 0)), (0, .ref (gAd G 20))]) X dX8_beginRead_1 rfl (by decide) rfl ?_
  refine g_lv (lv' := [(0, .ref (gAd G 20)), (1, .int (iI 0))]) [1, 0] rfl ?_
  refine g_loop2 (fun (k : Int) (w1 : Wd) => [(0, .ref (gAd G 20)), (1, .int (iI k))]) (fun (k : Int) (w1 : Wd) => w1) (fun (k : Int) (w1 : Wd) => (0 ≤ k) ∧ (k ≤ 44) ∧ ((∀ o f, ¬ (o = 20 ∧ f = 3) → w1 o f = w o f)) ∧ (∀ j : Nat, (j : Int) < k → w1 20 3 j = 0)) (fun (k : Int) (w1 : Wd) => (44 - k).toNat) 0 w ⟨(by first | omega | rfl | assumption), (by first | omega | rfl | assumption), (by intro _ _ _; rfl), (by intro j hj; omega)⟩ ?_
  intro k w1 hI_2 ih_2
  obtain ⟨h0, h1, hf, hz⟩ := hI_2
  try dsimp only at ih_2 ⊢
  refine g_iload_n X dX8_beginRead_2 rfl 1 rfl ?_
  refine g_bipush X dX8_beginRead_3 (by decide) ?_
  refine g_icmp_ge (tgt := 21) X dX8_beginRead_5 (by decide) (by unfold InR; omega) ⟨by decide, by decide⟩ (fun c_5 => ?_) (fun c_5 => ?_)
  · skip
    refine g_aload_n X dX8_beginRead_21 rfl 0 rfl ?_
    refine g_geta X ck_X8 FM 3 (by decide) fl_X8_13 rfl dX8_beginRead_22 ?_
    refine g_bipush X dX8_beginRead_25 (by decide) ?_
    refine g_iconst X dX8_beginRead_27 ?_
    refine h_iast (a := 37) (j := 37) X rfl FM (by decide) (show fkX 8 3 = (1, 44) from rfl) (by decide) (by omega) (by omega) dX8_beginRead_28 ?_
    obtain ⟨w_1, ew_1⟩ : ∃ q_ : Wd, q_ = up w1 20 3 37 5 := ⟨_, rfl⟩
    refine g_w (w' := w_1) ew_1 ?_
    refine g_aload_n X dX8_beginRead_29 rfl 0 rfl ?_
    refine g_geta X ck_X8 FM 3 (by decide) fl_X8_13 rfl dX8_beginRead_30 ?_
    refine g_bipush X dX8_beginRead_33 (by decide) ?_
    refine g_iconst X dX8_beginRead_35 ?_
    refine h_iast (a := 38) (j := 38) X rfl FM (by decide) (show fkX 8 3 = (1, 44) from rfl) (by decide) (by omega) (by omega) dX8_beginRead_36 ?_
    obtain ⟨w_2, ew_2⟩ : ∃ q_ : Wd, q_ = up w_1 20 3 38 3 := ⟨_, rfl⟩
    refine g_w (w' := w_2) ew_2 ?_
    refine g_aload_n X dX8_beginRead_37 rfl 0 rfl ?_
    refine g_geta X ck_X8 FM 3 (by decide) fl_X8_13 rfl dX8_beginRead_38 ?_
    refine g_bipush X dX8_beginRead_41 (by decide) ?_
    refine g_iconst X dX8_beginRead_43 ?_
    refine h_iast (a := 39) (j := 39) X rfl FM (by decide) (show fkX 8 3 = (1, 44) from rfl) (by decide) (by omega) (by omega) dX8_beginRead_44 ?_
    obtain ⟨w_3, ew_3⟩ : ∃ q_ : Wd, q_ = up w_2 20 3 39 3 := ⟨_, rfl⟩
    refine g_w (w' := w_3) ew_3 ?_
    refine g_aload_n X dX8_beginRead_45 rfl 0 rfl ?_
    refine g_geta X ck_X8 FM 3 (by decide) fl_X8_13 rfl dX8_beginRead_46 ?_
    refine g_bipush X dX8_beginRead_49 (by decide) ?_
    refine g_iconst X dX8_beginRead_51 ?_
    refine h_iast (a := 40) (j := 40) X rfl FM (by decide) (show fkX 8 3 = (1, 44) from rfl) (by decide) (by omega) (by omega) dX8_beginRead_52 ?_
    obtain ⟨w_4, ew_4⟩ : ∃ q_ : Wd, q_ = up w_3 20 3 40 1 := ⟨_, rfl⟩
    refine g_w (w' := w_4) ew_4 ?_
    refine g_aload_n X dX8_beginRead_53 rfl 0 rfl ?_
    refine g_geta X ck_X8 FM 3 (by decide) fl_X8_13 rfl dX8_beginRead_54 ?_
    refine g_bipush X dX8_beginRead_57 (by decide) ?_
    refine g_bipush X dX8_beginRead_59 (by decide) ?_
    refine h_iast (a := 41) (j := 41) X rfl FM (by decide) (show fkX 8 3 = (1, 44) from rfl) (by decide) (by omega) (by omega) dX8_beginRead_61 ?_
    obtain ⟨w_5, ew_5⟩ : ∃ q_ : Wd, q_ = up w_4 20 3 41 90 := ⟨_, rfl⟩
    refine g_w (w' := w_5) ew_5 ?_
    refine g_aload_n X dX8_beginRead_62 rfl 0 rfl ?_
    refine g_geta X ck_X8 FM 3 (by decide) fl_X8_13 rfl dX8_beginRead_63 ?_
    refine g_bipush X dX8_beginRead_66 (by decide) ?_
    refine g_bipush X dX8_beginRead_68 (by decide) ?_
    refine h_iast (a := 42) (j := 42) X rfl FM (by decide) (show fkX 8 3 = (1, 44) from rfl) (by decide) (by omega) (by omega) dX8_beginRead_70 ?_
    obtain ⟨w_6, ew_6⟩ : ∃ q_ : Wd, q_ = up w_5 20 3 42 60 := ⟨_, rfl⟩
    refine g_w (w' := w_6) ew_6 ?_
    refine g_aload_n X dX8_beginRead_71 rfl 0 rfl ?_
    refine g_geta X ck_X8 FM 3 (by decide) fl_X8_13 rfl dX8_beginRead_72 ?_
    refine g_bipush X dX8_beginRead_75 (by decide) ?_
    refine g_iconst X dX8_beginRead_77 ?_
    refine h_iast (a := 43) (j := 43) X rfl FM (by decide) (show fkX 8 3 = (1, 44) from rfl) (by decide) (by omega) (by omega) dX8_beginRead_78 ?_
    obtain ⟨w_7, ew_7⟩ : ∃ q_ : Wd, q_ = up w_6 20 3 43 2 := ⟨_, rfl⟩
    refine g_w (w' := w_7) ew_7 ?_
    exact g_vret X rfl dX8_beginRead_79 (by
        refine ⟨fun o f h => ?_, fun u0 => ⟨?_, fun m f hm hf => ?_, fun f h1 h2 => ?_⟩⟩
        · rw [ew_7, ew_6, ew_5, ew_4, ew_3, ew_2, ew_1, up_fn h, up_fn h, up_fn h, up_fn h, up_fn h, up_fn h, up_fn h]; exact hf o f h
        · rw [ew_7, ew_6, ew_5, ew_4, ew_3, ew_2, ew_1, up_ne (by decide), up_ne (by decide), up_ne (by decide), up_ne (by decide), up_ne (by decide), up_ne (by decide), up_ne (by decide), hz 36 (by omega)]; simp [p0X, fu]
        · have : p0X u0 0 0 = 0 := by simp [p0X, fu]
          omega
        · rw [ew_7, ew_6, ew_5, ew_4, ew_3, ew_2, ew_1]
          rcases (show f = 7 ∨ f = 8 ∨ f = 9 ∨ f = 10 ∨ f = 11 ∨ f = 12 ∨ f = 13 by omega) with rfl | rfl | rfl | rfl | rfl | rfl | rfl <;> simp [up, p0X, fu])
  · skip
    refine g_aload_n X dX8_beginRead_8 rfl 0 rfl ?_
    refine g_geta X ck_X8 FM 3 (by decide) fl_X8_13 rfl dX8_beginRead_9 ?_
    refine g_iload_n X dX8_beginRead_12 rfl 1 rfl ?_
    refine g_iconst X dX8_beginRead_13 ?_
    refine h_iast (a := k) (j := (k).toNat) X rfl FM (by decide) (show fkX 8 3 = (1, 44) from rfl) (by decide) (by omega) (by omega) dX8_beginRead_14 ?_
    obtain ⟨w_8, ew_8⟩ : ∃ q_ : Wd, q_ = up w1 20 3 (k).toNat 0 := ⟨_, rfl⟩
    refine g_w (w' := w_8) ew_8 ?_
    refine g_iinc (j := 1) (lv' := [(1, .int (iI (k + 1))), (0, .ref (gAd G 20))]) X dX8_beginRead_15 rfl (by decide) rfl ?_
    refine g_goto (tgt := 2) X dX8_beginRead_18 (by decide) ?_
    refine g_lv (lv' := [(0, .ref (gAd G 20)), (1, .int (iI (k + 1)))]) [1, 0] rfl ?_
    exact ih_2 (k + 1) w_8 ⟨(by first | omega | rfl | assumption), (by first | omega | rfl | assumption), (by intro o f h; rw [ew_8, up_fn h]; exact hf o f h), (by intro j hj; rw [ew_8]; rcases Int.lt_or_le (j : Int) k with e | e; (rw [up_ne (by omega)]; exact hz j e); (have e2 : j = k.toNat := (by omega)); subst e2; rw [up_at])⟩ (by omega)
set_option maxHeartbeats 4000000 in
set_option maxRecDepth 100000 in
theorem c_X8_putMachine (l : Launch) (G : Ly) (l_ : Int) (h_m : Int) (b_m : Int) (s_m : Int) (v_m : Int) (f_m : Int) (pl : Nat → Nat → Int) (w : Wd) (FM : gOb G 20 = some 8) (hT : PlR pl (w 20 3)) (hn : 0 ≤ pl 0 0 ∧ pl 0 0 < 6) : Mv l yX8_putMachine cX8_putMachine 8 none 0 0 G [.ref (gAd G 20), .int (iI l_), .int (iI h_m), .int (iI b_m), .int (iI s_m), .int (iI v_m), .int (iI f_m)] w (fun w2 => (∀ o f, ¬ (o = 20 ∧ f = 3) → w2 o f = w o f) ∧ ∀ nv : Nat → Int, nv 0 = l_ → nv 1 = h_m → nv 2 = b_m → nv 3 = s_m → nv 4 = v_m → nv 5 = f_m → PlR (tmX pl nv) (w2 20 3)) := by
  refine mv_of (lv := [(0, .ref (gAd G 20)), (1, .int (iI l_)), (2, .int (iI h_m)), (3, .int (iI b_m)), (4, .int (iI s_m)), (5, .int (iI v_m)), (6, .int (iI f_m))]) (by decide) (Nat.le_of_ble_eq_true rfl) rfl ?_
  intro p_ e_ s_ m_ b_ h_ c_ X
  have t36 := hT.1
  refine g_bipush X dX8_putMachine_0 (by decide) ?_
  refine g_aload_n X dX8_putMachine_2 rfl 0 rfl ?_
  refine g_geta X ck_X8 FM 3 (by decide) fl_X8_13 rfl dX8_putMachine_3 ?_
  refine g_bipush X dX8_putMachine_6 (by decide) ?_
  refine h_iald (a := 36) (j := 36) X rfl FM (by decide) (show fkX 8 3 = (1, 44) from rfl) (by decide) (by omega) (by omega) dX8_putMachine_8 ?_
  refine g_imul X dX8_putMachine_9 ?_
  rw [show (6 * (w 20 3 36) : Int) = 6 * pl 0 0 from (by rw [t36])]
  refine g_istore (lv' := [(7, .int (iI (6 * pl 0 0))), (0, .ref (gAd G 20)), (1, .int (iI l_)), (2, .int (iI h_m)), (3, .int (iI b_m)), (4, .int (iI s_m)), (5, .int (iI v_m)), (6, .int (iI f_m))]) X dX8_putMachine_10 (by decide) rfl ?_
  refine g_aload_n X dX8_putMachine_12 rfl 1 rfl ?_
  refine g_geta X ck_X8 FM 3 (by decide) fl_X8_13 rfl dX8_putMachine_13 ?_
  refine g_iload X dX8_putMachine_16 0 rfl ?_
  refine g_iload_n X dX8_putMachine_18 rfl 2 rfl ?_
  refine h_iast (a := 6 * pl 0 0) (j := (6 * pl 0 0).toNat) X rfl FM (by decide) (show fkX 8 3 = (1, 44) from rfl) (by decide) (by omega) (by omega) dX8_putMachine_19 ?_
  obtain ⟨w_1, ew_1⟩ : ∃ q_ : Wd, q_ = up w 20 3 (6 * pl 0 0).toNat l_ := ⟨_, rfl⟩
  refine g_w (w' := w_1) ew_1 ?_
  refine g_aload_n X dX8_putMachine_20 rfl 1 rfl ?_
  refine g_geta X ck_X8 FM 3 (by decide) fl_X8_13 rfl dX8_putMachine_21 ?_
  refine g_iload X dX8_putMachine_24 0 rfl ?_
  refine g_iconst X dX8_putMachine_26 ?_
  refine g_iadd X dX8_putMachine_27 ?_
  refine g_iload_n X dX8_putMachine_28 rfl 3 rfl ?_
  refine h_iast (a := (6 * pl 0 0) + 1) (j := ((6 * pl 0 0) + 1).toNat) X rfl FM (by decide) (show fkX 8 3 = (1, 44) from rfl) (by decide) (by omega) (by omega) dX8_putMachine_29 ?_
  obtain ⟨w_2, ew_2⟩ : ∃ q_ : Wd, q_ = up w_1 20 3 ((6 * pl 0 0) + 1).toNat h_m := ⟨_, rfl⟩
  refine g_w (w' := w_2) ew_2 ?_
  refine g_aload_n X dX8_putMachine_30 rfl 1 rfl ?_
  refine g_geta X ck_X8 FM 3 (by decide) fl_X8_13 rfl dX8_putMachine_31 ?_
  refine g_iload X dX8_putMachine_34 0 rfl ?_
  refine g_iconst X dX8_putMachine_36 ?_
  refine g_iadd X dX8_putMachine_37 ?_
  refine g_iload_n X dX8_putMachine_38 rfl 4 rfl ?_
  refine h_iast (a := (6 * pl 0 0) + 2) (j := ((6 * pl 0 0) + 2).toNat) X rfl FM (by decide) (show fkX 8 3 = (1, 44) from rfl) (by decide) (by omega) (by omega) dX8_putMachine_39 ?_
  obtain ⟨w_3, ew_3⟩ : ∃ q_ : Wd, q_ = up w_2 20 3 ((6 * pl 0 0) + 2).toNat b_m := ⟨_, rfl⟩
  refine g_w (w' := w_3) ew_3 ?_
  refine g_aload_n X dX8_putMachine_40 rfl 1 rfl ?_
  refine g_geta X ck_X8 FM 3 (by decide) fl_X8_13 rfl dX8_putMachine_41 ?_
  refine g_iload X dX8_putMachine_44 0 rfl ?_
  refine g_iconst X dX8_putMachine_46 ?_
  refine g_iadd X dX8_putMachine_47 ?_
  refine g_iload X dX8_putMachine_48 5 rfl ?_
  refine h_iast (a := (6 * pl 0 0) + 3) (j := ((6 * pl 0 0) + 3).toNat) X rfl FM (by decide) (show fkX 8 3 = (1, 44) from rfl) (by decide) (by omega) (by omega) dX8_putMachine_50 ?_
  obtain ⟨w_4, ew_4⟩ : ∃ q_ : Wd, q_ = up w_3 20 3 ((6 * pl 0 0) + 3).toNat s_m := ⟨_, rfl⟩
  refine g_w (w' := w_4) ew_4 ?_
  refine g_aload_n X dX8_putMachine_51 rfl 1 rfl ?_
  refine g_geta X ck_X8 FM 3 (by decide) fl_X8_13 rfl dX8_putMachine_52 ?_
  refine g_iload X dX8_putMachine_55 0 rfl ?_
  refine g_iconst X dX8_putMachine_57 ?_
  refine g_iadd X dX8_putMachine_58 ?_
  refine g_iload X dX8_putMachine_59 6 rfl ?_
  refine h_iast (a := (6 * pl 0 0) + 4) (j := ((6 * pl 0 0) + 4).toNat) X rfl FM (by decide) (show fkX 8 3 = (1, 44) from rfl) (by decide) (by omega) (by omega) dX8_putMachine_61 ?_
  obtain ⟨w_5, ew_5⟩ : ∃ q_ : Wd, q_ = up w_4 20 3 ((6 * pl 0 0) + 4).toNat v_m := ⟨_, rfl⟩
  refine g_w (w' := w_5) ew_5 ?_
  refine g_aload_n X dX8_putMachine_62 rfl 1 rfl ?_
  refine g_geta X ck_X8 FM 3 (by decide) fl_X8_13 rfl dX8_putMachine_63 ?_
  refine g_iload X dX8_putMachine_66 0 rfl ?_
  refine g_iconst X dX8_putMachine_68 ?_
  refine g_iadd X dX8_putMachine_69 ?_
  refine g_iload X dX8_putMachine_70 7 rfl ?_
  refine h_iast (a := (6 * pl 0 0) + 5) (j := ((6 * pl 0 0) + 5).toNat) X rfl FM (by decide) (show fkX 8 3 = (1, 44) from rfl) (by decide) (by omega) (by omega) dX8_putMachine_72 ?_
  obtain ⟨w_6, ew_6⟩ : ∃ q_ : Wd, q_ = up w_5 20 3 ((6 * pl 0 0) + 5).toNat f_m := ⟨_, rfl⟩
  refine g_w (w' := w_6) ew_6 ?_
  refine g_aload_n X dX8_putMachine_73 rfl 1 rfl ?_
  refine g_geta X ck_X8 FM 3 (by decide) fl_X8_13 rfl dX8_putMachine_74 ?_
  refine g_bipush X dX8_putMachine_77 (by decide) ?_
  refine g_dup2 X dX8_putMachine_79 rfl rfl ?_
  refine h_iald (a := 36) (j := 36) X rfl FM (by decide) (show fkX 8 3 = (1, 44) from rfl) (by decide) (by omega) (by omega) dX8_putMachine_80 ?_
  refine g_iconst X dX8_putMachine_81 ?_
  refine g_iadd X dX8_putMachine_82 ?_
  refine h_iast (a := 36) (j := 36) X rfl FM (by decide) (show fkX 8 3 = (1, 44) from rfl) (by decide) (by omega) (by omega) dX8_putMachine_83 ?_
  obtain ⟨w_7, ew_7⟩ : ∃ q_ : Wd, q_ = up w_6 20 3 36 ((w_6 20 3 36) + 1) := ⟨_, rfl⟩
  refine g_w (w' := w_7) ew_7 ?_
  exact g_vret X rfl dX8_putMachine_84 (by
      refine ⟨fun o f h => by rw [ew_7, ew_6, ew_5, ew_4, ew_3, ew_2, ew_1, up_fn h, up_fn h, up_fn h, up_fn h, up_fn h, up_fn h, up_fn h], fun nv e0 e1 e2 e3 e4 e5 => ?_⟩
      obtain ⟨n, en⟩ : ∃ n : Nat, n = (pl 0 0).toNat := ⟨_, rfl⟩
      have eN : pl 0 0 = (n : Int) := by omega
      have i0 : (6 * pl 0 0).toNat = 6 * n := by omega
      have i1 : (6 * pl 0 0 + 1).toNat = 6 * n + 1 := by omega
      have i2 : (6 * pl 0 0 + 2).toNat = 6 * n + 2 := by omega
      have i3 : (6 * pl 0 0 + 3).toNat = 6 * n + 3 := by omega
      have i4 : (6 * pl 0 0 + 4).toNat = 6 * n + 4 := by omega
      have i5 : (6 * pl 0 0 + 5).toNat = 6 * n + 5 := by omega
      have hrow : w_7 20 3 = fup (fup (fup (fup (fup (fup (fup (w 20 3) (6 * n) l_) (6 * n + 1) h_m) (6 * n + 2) b_m) (6 * n + 3) s_m) (6 * n + 4) v_m) (6 * n + 5) f_m) 36 (pl 0 0 + 1) := by
        rw [ew_7, ew_6, ew_5, ew_4, ew_3, ew_2, ew_1, i0, i1, i2, i3, i4, i5]
        simp only [up_row]
        congr 1
        rw [fup_ne (by omega), fup_ne (by omega), fup_ne (by omega), fup_ne (by omega), fup_ne (by omega), fup_ne (by omega), t36]
      rw [hrow]
      exact plr_add hT eN (by omega) nv e0 e1 e2 e3 e4 e5)
