set_option maxHeartbeats 4000000 in
set_option maxRecDepth 100000 in
theorem c_X4_addMachine (l : Launch) (G : Ly) (o : Nat) (m : Int) (later : Int) (w : Wd) (ho : gOb G o = some 4) (h2 : gOb G 2 = some 2) (hlk : gLk G o 0 = 2) (hne : o ≠ 2) (hp : PV (w 2)) (hm : 0 ≤ m ∧ m < w 2 0 0) (hlift : 0 ≤ w o 6 0 ∧ w o 6 0 ≤ 45) (hset : 0 ≤ w o 4 0 ∧ w o 4 0 < 64) (hld : 0 ≤ w o 5 0 ∧ w o 5 0 ≤ 480) (hc1 : sumB (w o 4 0) (w 2 1) (w 2 0 0).toNat ≤ w o 5 0) (hc2 : w o 5 0 ≤ sumB (w o 4 0) (w 2 2) (w 2 0 0).toNat) (hI : ShI (w 2) (w o) m.toNat) (hb : tb (w o 4 0) m.toNat = 1) (hlat0 : 0 ≤ later ∧ later < 64) (hlat : ∀ k, k < 6 → tb later k = if k ≤ m.toNat then 0 else tb (w o 4 0) k) : Mv l yX4_addMachine cX4_addMachine 6 none 2 49 G [.ref (gAd G o), .int (iI m), .int (iI later)] w (fun w2 => ShI (w 2) (w2 o) (m.toNat + 1) ∧ FrS o w w2) := by
  refine mv_of (lv := [(0, .ref (gAd G o)), (1, .int (iI m)), (2, .int (iI later))]) (by decide) (Nat.le_of_ble_eq_true rfl) rfl ?_
  intro p_ e_ s_ m_ b_ h_ c_ X
  have hpm := hp.2.1 m.toNat (by omega)
  have hp0 := hp.1
  have hwin := win_in hp hc1 hc2 (k := m.toNat) (by omega)
  have hwin1 := win_in hp hc1 hc2 (k := m.toNat + 1) (by omega)
  have hwa := win_add (load := w o 5 0) hb (show w 2 1 m.toNat ≤ w 2 2 m.toNat by omega)
  have hI7 := hI.1
  have hI8 := hI.2.1
  refine g_aload_n X dX4_addMachine_0 rfl 0 rfl ?_
  refine g_iload_n X dX4_addMachine_1 rfl 1 rfl ?_
  refine g_callv (st := []) X (c_X4_fillRow l G o m w ho h2 hlk (by first | assumption | omega | (unfold InR; omega)) (by first | assumption | omega | (unfold InR; omega)) (by first | assumption | omega | (unfold InR; omega)) (by first | assumption | omega | (unfold InR; omega))) cm_X4_fillRow im_X4_fillRow se_X4_fillRow ml_X4_63 ck_X4 ho ⟨Nat.le_of_ble_eq_true rfl, Nat.le_of_ble_eq_true rfl⟩ rfl rfl (Nat.le_of_ble_eq_true rfl) dX4_addMachine_2 (fn_v ?_)
  obtain ⟨w_1, ew_1⟩ : ∃ q_ : Wd, q_ = upA w o 2 (rowU (w o 2) (w 2 1 m.toNat) (w 2 2 m.toNat + 1) (fun j => pkX (w 2) (w o 6 0) m.toNat j)) := ⟨_, rfl⟩
  refine g_w (w' := w_1) ew_1 ?_
  have q2 : w_1 2 = w 2 := by rw [ew_1]; funext f; exact upA_ne (fun z => hne z.1.symm)
  have qf : ∀ f j, f ≠ 2 → w_1 o f j = w o f j := by intro f j h; rw [ew_1]; exact upA_nej (fun z => h z.2)
  have q7 := qf 7 0 (by decide)
  have q8 := qf 8 0 (by decide)
  have q5 := qf 5 0 (by decide)
  have q20 : w_1 2 0 0 = w 2 0 0 := by rw [q2]
  have q21 : w_1 2 1 m.toNat = w 2 1 m.toNat := by rw [q2]
  have q22 : w_1 2 2 m.toNat = w 2 2 m.toNat := by rw [q2]
  have m1 : 0 ≤ sumB later (w_1 2 2) (w_1 2 0 0).toNat ∧ sumB later (w_1 2 2) (w_1 2 0 0).toNat ≤ 480 := by rw [q2]; exact pv_most hp later
  have m2 : 0 ≤ sumB later (w_1 2 1) (w_1 2 0 0).toNat ∧ sumB later (w_1 2 1) (w_1 2 0 0).toNat ≤ 240 := by rw [q2]; exact pv_least hp later
  refine g_aload_n X dX4_addMachine_5 rfl 0 rfl ?_
  refine g_geti X ck_X4 ho 7 (by decide) fl_X4_42 (Or.inl rfl) dX4_addMachine_6 ?_
  refine g_aload_n X dX4_addMachine_9 rfl 0 rfl ?_
  refine g_geto (o' := 2) X ck_X4 ho 0 (by decide) fl_X4_18 rfl hlk dX4_addMachine_10 ?_
  refine g_geta X ck_X2 h2 1 (by decide) fl_X4_67 rfl dX4_addMachine_13 ?_
  refine g_iload_n X dX4_addMachine_16 rfl 1 rfl ?_
  refine h_iald (a := m) (j := (m).toNat) X rfl h2 (by decide) (show fkX 2 1 = (1, 6) from rfl) (by decide) (by omega) (by omega) dX4_addMachine_17 ?_
  refine g_iadd X dX4_addMachine_18 ?_
  refine g_aload_n X dX4_addMachine_19 rfl 0 rfl ?_
  refine g_geti X ck_X4 ho 5 (by decide) fl_X4_30 (Or.inl rfl) dX4_addMachine_20 ?_
  refine g_aload_n X dX4_addMachine_23 rfl 0 rfl ?_
  refine g_geto (o' := 2) X ck_X4 ho 0 (by decide) fl_X4_18 rfl hlk dX4_addMachine_24 ?_
  refine g_iload_n X dX4_addMachine_27 rfl 2 rfl ?_
  refine g_calli (st := [.int (iI (w_1 o 5 0)), .int (iI ((w_1 o 7 0) + (w_1 2 1 (m).toNat)))]) X (c_X2_mosts l G 2 later w_1 h2 (by first | assumption | omega | (unfold InR; omega)) (by first | assumption | omega | (unfold InR; omega))) cm_X2_mosts im_X2_mosts se_X2_mosts ml_X4_71 ck_X2 h2 ⟨Nat.le_of_ble_eq_true rfl, Nat.le_of_ble_eq_true rfl⟩ rfl rfl (Nat.le_of_ble_eq_true rfl) dX4_addMachine_28 (fn_i ?_)
  refine g_isub X dX4_addMachine_31 ?_
  refine g_max X ml_X4_74 (by unfold InR; omega) (by unfold InR; omega) ⟨Nat.le_of_ble_eq_true rfl, Nat.le_of_ble_eq_true rfl⟩ (Nat.le_of_ble_eq_true rfl) dX4_addMachine_32 ?_
  rw [show (max ((w_1 o 7 0) + (w_1 2 1 (m).toNat)) ((w_1 o 5 0) - (sumB later (w_1 2 2) (w_1 2 0 0).toNat)) : Int) = lowK (w 2) (w o 4 0) (w o 5 0) (m.toNat + 1) from (by rw [q2, q7, q5, hwa.1, sumB_later hlat _ _ (by omega) (by omega), hI7])]
  refine g_istore_n (lv' := [(3, .int (iI (lowK (w 2) (w o 4 0) (w o 5 0) (m.toNat + 1)))), (0, .ref (gAd G o)), (1, .int (iI m)), (2, .int (iI later))]) X dX4_addMachine_35 rfl (by decide) rfl ?_
  refine g_aload_n X dX4_addMachine_36 rfl 1 rfl ?_
  refine g_geti X ck_X4 ho 8 (by decide) fl_X4_45 (Or.inl rfl) dX4_addMachine_37 ?_
  refine g_aload_n X dX4_addMachine_40 rfl 1 rfl ?_
  refine g_geto (o' := 2) X ck_X4 ho 0 (by decide) fl_X4_18 rfl hlk dX4_addMachine_41 ?_
  refine g_geta X ck_X2 h2 2 (by decide) fl_X4_79 rfl dX4_addMachine_44 ?_
  refine g_iload_n X dX4_addMachine_47 rfl 2 rfl ?_
  refine h_iald (a := m) (j := (m).toNat) X rfl h2 (by decide) (show fkX 2 2 = (1, 6) from rfl) (by decide) (by omega) (by omega) dX4_addMachine_48 ?_
  refine g_iadd X dX4_addMachine_49 ?_
  refine g_aload_n X dX4_addMachine_50 rfl 1 rfl ?_
  refine g_geti X ck_X4 ho 5 (by decide) fl_X4_30 (Or.inl rfl) dX4_addMachine_51 ?_
  refine g_aload_n X dX4_addMachine_54 rfl 1 rfl ?_
  refine g_geto (o' := 2) X ck_X4 ho 0 (by decide) fl_X4_18 rfl hlk dX4_addMachine_55 ?_
  refine g_iload_n X dX4_addMachine_58 rfl 3 rfl ?_
  refine g_calli (st := [.int (iI (w_1 o 5 0)), .int (iI ((w_1 o 8 0) + (w_1 2 2 (m).toNat)))]) X (c_X2_leasts l G 2 later w_1 h2 (by first | assumption | omega | (unfold InR; omega)) (by first | assumption | omega | (unfold InR; omega))) cm_X2_leasts im_X2_leasts se_X2_leasts ml_X4_82 ck_X2 h2 ⟨Nat.le_of_ble_eq_true rfl, Nat.le_of_ble_eq_true rfl⟩ rfl rfl (Nat.le_of_ble_eq_true rfl) dX4_addMachine_59 (fn_i ?_)
  refine g_isub X dX4_addMachine_62 ?_
  refine g_min X ml_X4_85 (by unfold InR; omega) (by unfold InR; omega) ⟨Nat.le_of_ble_eq_true rfl, Nat.le_of_ble_eq_true rfl⟩ (Nat.le_of_ble_eq_true rfl) dX4_addMachine_63 ?_
  rw [show (min ((w_1 o 8 0) + (w_1 2 2 (m).toNat)) ((w_1 o 5 0) - (sumB later (w_1 2 1) (w_1 2 0 0).toNat)) : Int) = highK (w 2) (w o 4 0) (w o 5 0) (m.toNat + 1) from (by rw [q2, q8, q5, hwa.2, sumB_later hlat _ _ (by omega) (by omega), hI8])]
  refine g_istore (lv' := [(4, .int (iI (highK (w 2) (w o 4 0) (w o 5 0) (m.toNat + 1)))), (3, .int (iI (lowK (w 2) (w o 4 0) (w o 5 0) (m.toNat + 1)))), (0, .ref (gAd G o)), (1, .int (iI m)), (2, .int (iI later))]) X dX4_addMachine_66 (by decide) rfl ?_
  refine g_iload X dX4_addMachine_68 0 rfl ?_
  refine g_istore (lv' := [(5, .int (iI (highK (w 2) (w o 4 0) (w o 5 0) (m.toNat + 1)))), (4, .int (iI (highK (w 2) (w o 4 0) (w o 5 0) (m.toNat + 1)))), (3, .int (iI (lowK (w 2) (w o 4 0) (w o 5 0) (m.toNat + 1)))), (0, .ref (gAd G o)), (1, .int (iI m)), (2, .int (iI later))]) X dX4_addMachine_70 (by decide) rfl ?_
  refine g_lv (lv' := [(0, .ref (gAd G o)), (1, .int (iI m)), (2, .int (iI later)), (3, .int (iI (lowK (w 2) (w o 4 0) (w o 5 0) (m.toNat + 1)))), (4, .int (iI (highK (w 2) (w o 4 0) (w o 5 0) (m.toNat + 1)))), (5, .int (iI (highK (w 2) (w o 4 0) (w o 5 0) (m.toNat + 1))))]) [3, 4, 5, 2, 1, 0] rfl ?_
  refine g_loop2 (fun (sum : Int) (w1 : Wd) => [(0, .ref (gAd G o)), (1, .int (iI m)), (2, .int (iI later)), (3, .int (iI (lowK (w 2) (w o 4 0) (w o 5 0) (m.toNat + 1)))), (4, .int (iI (highK (w 2) (w o 4 0) (w o 5 0) (m.toNat + 1)))), (5, .int (iI sum))]) (fun (sum : Int) (w1 : Wd) => w1) (fun (sum : Int) (w1 : Wd) => (lowK (w 2) (w o 4 0) (w o 5 0) (m.toNat + 1) - 1 ≤ sum) ∧ (sum ≤ highK (w 2) (w o 4 0) (w o 5 0) (m.toNat + 1)) ∧ (∀ o2 f j, ¬ (o2 = o ∧ f = 1) → w1 o2 f j = w_1 o2 f j) ∧ (∀ j : Nat, (j : Int) ≤ sum → w1 o 1 j = w o 1 j) ∧ (∀ t, sum < t → t ≤ highK (w 2) (w o 4 0) (w o 5 0) (m.toNat + 1) → BestC (w 2) (pkX (w 2) (w o 6 0)) (w o 4 0) (m.toNat + 1) t (w1 o 1 t.toNat))) (fun (sum : Int) (w1 : Wd) => (sum + 1 - lowK (w 2) (w o 4 0) (w o 5 0) (m.toNat + 1)).toNat) (highK (w 2) (w o 4 0) (w o 5 0) (m.toNat + 1)) w_1 ⟨(by first | omega | rfl | assumption), (by first | omega | rfl | assumption), (by intro _ _ _ _; rfl), (by intro j _; exact qf 1 j (by decide)), (by intro t a b; omega)⟩ ?_
  intro sum w1 hI_72 ih_72
  obtain ⟨ha, hh, hfr, hold, hnew⟩ := hI_72
  try dsimp only at ih_72 ⊢
  have p2 : w1 2 = w 2 := by funext f j; rw [hfr 2 f j (fun z => hne z.1.symm), q2]
  have p7 : w1 o 7 0 = lowK (w 2) (w o 4 0) (w o 5 0) m.toNat := by rw [hfr o 7 0 (fun z => absurd z.2 (by decide)), q7, hI7]
  have p8 : w1 o 8 0 = highK (w 2) (w o 4 0) (w o 5 0) m.toNat := by rw [hfr o 8 0 (fun z => absurd z.2 (by decide)), q8, hI8]
  have p20 : w1 2 0 0 = w 2 0 0 := by rw [p2]
  have pE : ∀ x, max (w 2 1 m.toNat) (sum - highK (w 2) (w o 4 0) (w o 5 0) m.toNat) ≤ x → x ≤ min (w 2 2 m.toNat) (sum - lowK (w 2) (w o 4 0) (w o 5 0) m.toNat) → w1 o 1 (sum - x).toNat = w o 1 (sum - x).toNat ∧ w1 o 2 x.toNat = pkX (w 2) (w o 6 0) m.toNat x := by
    intro x a b
    refine ⟨hold _ (by omega), ?_⟩
    rw [hfr o 2 _ (fun z => absurd z.2 (by decide)), ew_1, upA_atj, rowU_in (by omega) (by omega) (by omega)]
    show pkX _ _ _ ((x.toNat : Nat) : Int) = _
    rw [show ((x.toNat : Nat) : Int) = x by omega]
  refine g_iload X dX4_addMachine_72 5 rfl ?_
  refine g_iload_n X dX4_addMachine_74 rfl 3 rfl ?_
  refine g_icmp_lt (tgt := 98) X dX4_addMachine_75 (by decide) (by unfold InR; omega) (by unfold InR; omega) (fun c_75 => ?_) (fun c_75 => ?_)
  · skip
    refine g_aload_n X dX4_addMachine_98 rfl 0 rfl ?_
    refine g_iload_n X dX4_addMachine_99 rfl 3 rfl ?_
    refine g_puti X ck_X4 ho 7 (by decide) fl_X4_42 rfl rfl rfl dX4_addMachine_100 ?_
    obtain ⟨w_2, ew_2⟩ : ∃ q_ : Wd, q_ = up w1 o 7 0 (lowK (w 2) (w o 4 0) (w o 5 0) (m.toNat + 1)) := ⟨_, rfl⟩
    refine g_w (w' := w_2) ew_2 ?_
    refine g_aload_n X dX4_addMachine_103 rfl 0 rfl ?_
    refine g_iload X dX4_addMachine_104 4 rfl ?_
    refine g_puti X ck_X4 ho 8 (by decide) fl_X4_45 rfl rfl rfl dX4_addMachine_106 ?_
    obtain ⟨w_3, ew_3⟩ : ∃ q_ : Wd, q_ = up w_2 o 8 0 (highK (w 2) (w o 4 0) (w o 5 0) (m.toNat + 1)) := ⟨_, rfl⟩
    refine g_w (w' := w_3) ew_3 ?_
    exact g_vret X rfl dX4_addMachine_109 (by
        refine ⟨⟨?_, ?_, ?_⟩, ?_⟩
        · rw [ew_3, ew_2]; simp [up]; rw [hfr o 4 0 (by simp), hfr o 5 0 (by simp), qf 4 0 (by decide), qf 5 0 (by decide)]
        · rw [ew_3, ew_2]; simp [up]; rw [hfr o 4 0 (by simp), hfr o 5 0 (by simp), qf 4 0 (by decide), qf 5 0 (by decide)]
        · have e4 : w_3 o 4 0 = w o 4 0 := by rw [ew_3, ew_2]; simp [up]; rw [hfr o 4 0 (by simp), qf 4 0 (by decide)]
          have e5 : w_3 o 5 0 = w o 5 0 := by rw [ew_3, ew_2]; simp [up]; rw [hfr o 5 0 (by simp), qf 5 0 (by decide)]
          have e6 : w_3 o 6 0 = w o 6 0 := by rw [ew_3, ew_2]; simp [up]; rw [hfr o 6 0 (by simp), qf 6 0 (by decide)]
          have e1 : w_3 o 1 = w1 o 1 := by funext j; rw [ew_3, ew_2]; simp [up]
          rw [e4, e5, e6, e1]
          intro t a b
          exact hnew t (by omega) b
        · intro o2 f j h
          rw [ew_3, ew_2]
          have h7 : ¬ (o2 = o ∧ f = 7 ∧ j = 0) := fun z => h ⟨z.1, by omega⟩
          have h8 : ¬ (o2 = o ∧ f = 8 ∧ j = 0) := fun z => h ⟨z.1, by omega⟩
          rw [up_ne h8, up_ne h7, hfr o2 f j (fun z => h ⟨z.1, by omega⟩), ew_1]
          exact upA_nej (fun z => h ⟨z.1, by omega⟩))
  · skip
    refine g_aload_n X dX4_addMachine_78 rfl 0 rfl ?_
    refine g_geta X ck_X4 ho 1 (by decide) fl_X4_11 rfl dX4_addMachine_79 ?_
    refine g_iload X dX4_addMachine_82 5 rfl ?_
    refine g_aload_n X dX4_addMachine_84 rfl 0 rfl ?_
    refine g_iload_n X dX4_addMachine_85 rfl 1 rfl ?_
    refine g_iload X dX4_addMachine_86 5 rfl ?_
    refine g_calll (st := [.int (iI sum), .ref (gAr G o 1)]) X (c_X4_leastWith l G o m sum w1 ho h2 hlk (by rw [p2]; exact hp) (by first | assumption | omega | (unfold InR; omega)) (by first | assumption | omega | (unfold InR; omega)) (by first | assumption | omega | (unfold InR; omega)) (by first | assumption | omega | (unfold InR; omega)) (by rw [p2, p7, p8]; intro x a b; obtain ⟨e1, e2⟩ := pE x a b; rw [e1, e2]; have r1 := best_rng hp hlift (by omega) (hI.2.2 (sum - x) (by omega) (by omega)); have r2 := pk_rng hp (m := m.toNat) (by omega) (x := x) (lift := w o 6 0) (by omega) hlift; omega)) cm_X4_leastWith im_X4_leastWith se_X4_leastWith ml_X4_88 ck_X4 ho ⟨Nat.le_of_ble_eq_true rfl, Nat.le_of_ble_eq_true rfl⟩ rfl rfl (Nat.le_of_ble_eq_true rfl) dX4_addMachine_88 (fn_pl ?_)
    rintro z_88 h_88
    rw [p2, p7, p8] at h_88
    have hz : BestC (w 2) (pkX (w 2) (w o 6 0)) (w o 4 0) (m.toNat + 1) sum z_88 := by
      refine sh_step (A := w o 1) hp (by omega) hlift hc1 hc2 hb (by omega) (by omega) hI.2.2 (fun x a b => ?_) ?_
      · have h := h_88.1 x a b
        obtain ⟨e1, e2⟩ := pE x a b
        rw [e1, e2] at h
        exact h
      · rcases h_88.2 with ⟨x, a, b, h⟩ | h
        · obtain ⟨e1, e2⟩ := pE x a b
          rw [e1, e2] at h
          exact Or.inl ⟨x, a, b, h⟩
        · exact Or.inr h
    clear h_88
    refine h_last (a := sum) (j := (sum).toNat) X rfl ho (by decide) (show fkX 4 1 = (2, 481) from rfl) (by decide) (by omega) (by omega) dX4_addMachine_91 ?_
    obtain ⟨w_4, ew_4⟩ : ∃ q_ : Wd, q_ = up w1 o 1 (sum).toNat z_88 := ⟨_, rfl⟩
    refine g_w (w' := w_4) ew_4 ?_
    refine g_iinc (j := 5) (lv' := [(5, .int (iI (sum + (-1)))), (0, .ref (gAd G o)), (1, .int (iI m)), (2, .int (iI later)), (3, .int (iI (lowK (w 2) (w o 4 0) (w o 5 0) (m.toNat + 1)))), (4, .int (iI (highK (w 2) (w o 4 0) (w o 5 0) (m.toNat + 1))))]) X dX4_addMachine_92 rfl (by decide) rfl ?_
    refine g_goto (tgt := 72) X dX4_addMachine_95 (by decide) ?_
    refine g_lv (lv' := [(0, .ref (gAd G o)), (1, .int (iI m)), (2, .int (iI later)), (3, .int (iI (lowK (w 2) (w o 4 0) (w o 5 0) (m.toNat + 1)))), (4, .int (iI (highK (w 2) (w o 4 0) (w o 5 0) (m.toNat + 1)))), (5, .int (iI (sum + (-1))))]) [1, 2, 3, 4, 5, 0] rfl ?_
    exact ih_72 (sum + (-1)) w_4 ⟨(by first | omega | rfl | assumption), (by first | omega | rfl | assumption), (by intro o2 f j h; rw [ew_4, up_ne (fun z => h ⟨z.1, z.2.1⟩)]; exact hfr o2 f j h), (by intro j hj; rw [ew_4, up_ne (by omega)]; exact hold j (by omega)), (by intro t a b; rw [ew_4]; rcases Int.lt_or_le sum t with e | e; (rw [up_ne (by omega)]; exact hnew t e b); (have e2 : t = sum := (by omega)); subst e2; rw [up_at]; exact hz)⟩ (by omega)
set_option maxHeartbeats 4000000 in
set_option maxRecDepth 100000 in
theorem c_X4_find (l : Launch) (G : Ly) (o : Nat) (set : Int) (load : Int) (lift : Int) (w : Wd) (ho : gOb G o = some 4) (h2 : gOb G 2 = some 2) (hlk : gLk G o 0 = 2) (hne : o ≠ 2) (hp : PV (w 2)) (hset : 0 ≤ set ∧ set < 64) (hld : 0 ≤ load ∧ load ≤ 480) (hlf : 0 ≤ lift ∧ lift ≤ 45) (hC : ShC (w 2) (w o)) : Mi l yX4_find cX4_find 5 (some .boolean) 3 74 G [.ref (gAd G o), .int (iI set), .int (iI load), .int (iI lift)] w (fun z w2 => (∀ o2 f j, o2 ≠ o → w2 o2 f j = w o2 f j) ∧ ShC (w 2) (w2 o) ∧ ((z = 1 ∧ CanX (w 2) set load ∧ w2 o 3 0 = 1 ∧ w2 o 4 0 = set ∧ w2 o 5 0 = load ∧ w2 o 6 0 = lift) ∨ (z = 0 ∧ ¬ CanX (w 2) set load))) := by
  refine mi_of (lv := [(0, .ref (gAd G o)), (1, .int (iI set)), (2, .int (iI load)), (3, .int (iI lift))]) (by decide) (Nat.le_of_ble_eq_true rfl) rfl ?_
  intro p_ e_ s_ m_ b_ h_ c_ X
  have hp0 := hp.1
  have k3 : w o 3 0 = 0 ∨ (w o 3 0 = 1 ∧ (0 ≤ w o 4 0 ∧ w o 4 0 < 64) ∧ (0 ≤ w o 5 0 ∧ w o 5 0 ≤ 480) ∧ (0 ≤ w o 6 0 ∧ w o 6 0 ≤ 45)) := by
    rcases hC with h | h
    · exact Or.inl h
    · exact Or.inr ⟨h.1, h.2.1, h.2.2.1, h.2.2.2.1⟩
  refine g_cut1 (pc' := 33) (fun (d_ : Int) => [(0, .ref (gAd G o)), (1, .int (iI set)), (2, .int (iI load)), (3, .int (iI lift))]) (fun (d_ : Int) => []) (fun (d_ : Int) => w) (fun (d_ : Int) => True) ?_ ?_
  · intro d_ hI_33
    try dsimp only
    refine g_iload_n X dX4_find_33 rfl 2 rfl ?_
    refine g_if_lt (tgt := 56) X dX4_find_34 (by decide) (by unfold InR; omega) (fun c_34 => ?_) (fun c_34 => ?_)
    · exact absurd c_34 (by omega) --dead
    · skip
      refine g_iload_n X dX4_find_37 rfl 2 rfl ?_
      refine g_sipush X dX4_find_38 (by decide) ?_
      refine g_icmp_gt (tgt := 56) X dX4_find_41 (by decide) (by unfold InR; omega) ⟨by decide, by decide⟩ (fun c_41 => ?_) (fun c_41 => ?_)
      · exact absurd c_41 (by omega) --dead
      · skip
        refine g_aload_n X dX4_find_44 rfl 0 rfl ?_
        refine g_geto (o' := 2) X ck_X4 ho 0 (by decide) fl_X4_18 rfl hlk dX4_find_45 ?_
        refine g_iload_n X dX4_find_48 rfl 1 rfl ?_
        refine g_iload_n X dX4_find_49 rfl 2 rfl ?_
        refine g_calli (st := []) X (c_X2_can l G 2 set load w h2 (by first | assumption | omega | (unfold InR; omega)) (by first | assumption | omega | (unfold InR; omega)) (by first | assumption | omega | (unfold InR; omega))) cm_X2_can im_X2_can se_X2_can ml_X4_36 ck_X2 h2 ⟨Nat.le_of_ble_eq_true rfl, Nat.le_of_ble_eq_true rfl⟩ rfl rfl (Nat.le_of_ble_eq_true rfl) dX4_find_50 (fn_i ?_)
        refine g_if_ne (tgt := 58) X dX4_find_53 (by decide) (by split <;> exact ⟨by decide, by decide⟩) (fun c_53 => ?_) (fun c_53 => ?_)
        · skip
          have hcan : CanX (w 2) set load := by
            rcases Classical.em (CanX (w 2) set load) with h | h
            · exact h
            · exact absurd (if_neg h) c_53
          refine g_aload_n X dX4_find_58 rfl 0 rfl ?_
          refine g_iconst X dX4_find_59 ?_
          refine g_putf X ck_X4 ho 3 (by decide) fl_X4_22 (Or.inr rfl) rfl (by decide) (by decide) dX4_find_60 ?_
          obtain ⟨w_1, ew_1⟩ : ∃ q_ : Wd, q_ = up w o 3 0 1 := ⟨_, rfl⟩
          refine g_w (w' := w_1) ew_1 ?_
          refine g_aload_n X dX4_find_63 rfl 0 rfl ?_
          refine g_iload_n X dX4_find_64 rfl 1 rfl ?_
          refine g_puti X ck_X4 ho 4 (by decide) fl_X4_26 rfl rfl rfl dX4_find_65 ?_
          obtain ⟨w_2, ew_2⟩ : ∃ q_ : Wd, q_ = up w_1 o 4 0 set := ⟨_, rfl⟩
          refine g_w (w' := w_2) ew_2 ?_
          refine g_aload_n X dX4_find_68 rfl 0 rfl ?_
          refine g_iload_n X dX4_find_69 rfl 2 rfl ?_
          refine g_puti X ck_X4 ho 5 (by decide) fl_X4_30 rfl rfl rfl dX4_find_70 ?_
          obtain ⟨w_3, ew_3⟩ : ∃ q_ : Wd, q_ = up w_2 o 5 0 load := ⟨_, rfl⟩
          refine g_w (w' := w_3) ew_3 ?_
          refine g_aload_n X dX4_find_73 rfl 0 rfl ?_
          refine g_iload_n X dX4_find_74 rfl 3 rfl ?_
          refine g_puti X ck_X4 ho 6 (by decide) fl_X4_33 rfl rfl rfl dX4_find_75 ?_
          obtain ⟨w_4, ew_4⟩ : ∃ q_ : Wd, q_ = up w_3 o 6 0 lift := ⟨_, rfl⟩
          refine g_w (w' := w_4) ew_4 ?_
          refine g_aload_n X dX4_find_78 rfl 0 rfl ?_
          refine g_iconst X dX4_find_79 ?_
          refine g_puti X ck_X4 ho 7 (by decide) fl_X4_42 rfl rfl rfl dX4_find_80 ?_
          obtain ⟨w_5, ew_5⟩ : ∃ q_ : Wd, q_ = up w_4 o 7 0 0 := ⟨_, rfl⟩
          refine g_w (w' := w_5) ew_5 ?_
          refine g_aload_n X dX4_find_83 rfl 0 rfl ?_
          refine g_iconst X dX4_find_84 ?_
          refine g_puti X ck_X4 ho 8 (by decide) fl_X4_45 rfl rfl rfl dX4_find_85 ?_
          obtain ⟨w_6, ew_6⟩ : ∃ q_ : Wd, q_ = up w_5 o 8 0 0 := ⟨_, rfl⟩
          refine g_w (w' := w_6) ew_6 ?_
          refine g_aload_n X dX4_find_88 rfl 0 rfl ?_
          refine g_geta X ck_X4 ho 1 (by decide) fl_X4_11 rfl dX4_find_89 ?_
          refine g_iconst X dX4_find_92 ?_
          refine g_lconst (z := 0) X dX4_find_93 (by decide) ?_
          refine h_last (a := 0) (j := 0) X rfl ho (by decide) (show fkX 4 1 = (2, 481) from rfl) (by decide) (by omega) (by omega) dX4_find_94 ?_
          obtain ⟨w_7, ew_7⟩ : ∃ q_ : Wd, q_ = up w_6 o 1 0 0 := ⟨_, rfl⟩
          refine g_w (w' := w_7) ew_7 ?_
          refine g_iconst X dX4_find_95 ?_
          refine g_istore (lv' := [(4, .int (iI 0)), (0, .ref (gAd G o)), (1, .int (iI set)), (2, .int (iI load)), (3, .int (iI lift))]) X dX4_find_96 (by decide) rfl ?_
          refine g_lv (lv' := [(0, .ref (gAd G o)), (1, .int (iI set)), (2, .int (iI load)), (3, .int (iI lift)), (4, .int (iI 0))]) [1, 2, 3, 4, 0] rfl ?_
          refine g_loop2 (fun (k : Int) (w1 : Wd) => [(0, .ref (gAd G o)), (1, .int (iI set)), (2, .int (iI load)), (3, .int (iI lift)), (4, .int (iI k))]) (fun (k : Int) (w1 : Wd) => w1) (fun (k : Int) (w1 : Wd) => (0 ≤ k) ∧ (k ≤ w 2 0 0) ∧ (∀ o2 f j, o2 ≠ o → w1 o2 f j = w o2 f j) ∧ (ShI (w 2) (w1 o) k.toNat) ∧ (w1 o 3 0 = 1) ∧ (w1 o 4 0 = set) ∧ (w1 o 5 0 = load) ∧ (w1 o 6 0 = lift)) (fun (k : Int) (w1 : Wd) => (w 2 0 0 - k).toNat) 0 w_7 ⟨(by first | omega | rfl | assumption), (by first | omega | rfl | assumption), (by intro o2 f j h; rw [ew_7, ew_6, ew_5, ew_4, ew_3, ew_2, ew_1]; simp [up, h]), (by
              have w0 := win_0 hcan.1 hcan.2
              have e4 : w_7 o 4 0 = set := by rw [ew_7, ew_6, ew_5, ew_4, ew_3, ew_2, ew_1]; simp [up]
              have e5 : w_7 o 5 0 = load := by rw [ew_7, ew_6, ew_5, ew_4, ew_3, ew_2, ew_1]; simp [up]
              have e7 : w_7 o 7 0 = 0 := by rw [ew_7, ew_6, ew_5, ew_4, ew_3, ew_2, ew_1]; simp [up]
              have e8 : w_7 o 8 0 = 0 := by rw [ew_7, ew_6, ew_5, ew_4, ew_3, ew_2, ew_1]; simp [up]
              have e1 : w_7 o 1 0 = 0 := by rw [ew_7, ew_6, ew_5, ew_4, ew_3, ew_2, ew_1]; simp [up]
              refine ⟨?_, ?_, ?_⟩
              · rw [e4, e5, e7]; exact w0.1.symm
              · rw [e4, e5, e8]; exact w0.2.symm
              · rw [e4, e5]
                show ∀ t, lowK (w 2) set load 0 ≤ t → t ≤ highK (w 2) set load 0 → _
                rw [w0.1, w0.2]
                intro t a b
                have e : t = 0 := by omega
                subst e
                rw [show (0 : Int).toNat = 0 from rfl, e1]
                exact best_0), (by rw [ew_7, ew_6, ew_5, ew_4, ew_3, ew_2, ew_1]; simp [up]), (by rw [ew_7, ew_6, ew_5, ew_4, ew_3, ew_2, ew_1]; simp [up]), (by rw [ew_7, ew_6, ew_5, ew_4, ew_3, ew_2, ew_1]; simp [up]), (by rw [ew_7, ew_6, ew_5, ew_4, ew_3, ew_2, ew_1]; simp [up])⟩ ?_
          intro k w1 hI_98 ih_98
          obtain ⟨h0, h1, hfr, hI, g3, g4, g5, g6⟩ := hI_98
          try dsimp only at ih_98 ⊢
          have p2 : w1 2 = w 2 := by funext f j; exact hfr 2 f j (fun z => hne z.symm)
          have p20 : w1 2 0 0 = w 2 0 0 := by rw [p2]
          refine g_iload X dX4_find_98 4 rfl ?_
          refine g_aload_n X dX4_find_100 rfl 0 rfl ?_
          refine g_geto (o' := 2) X ck_X4 ho 0 (by decide) fl_X4_18 rfl hlk dX4_find_101 ?_
          refine g_geti X ck_X2 h2 0 (by decide) fl_X4_48 (Or.inl rfl) dX4_find_104 ?_
          refine g_icmp_ge (tgt := 145) X dX4_find_107 (by decide) (by unfold InR; omega) (by unfold InR; omega) (fun c_107 => ?_) (fun c_107 => ?_)
          · skip
            refine g_iconst X dX4_find_145 ?_
            exact g_iret X rfl (by decide) dX4_find_146 (by
                refine ⟨hfr, Or.inr ⟨g3, by omega, by omega, by omega, by rw [g4, g5]; exact hcan, ?_⟩, Or.inl ⟨rfl, hcan, g3, g4, g5, g6⟩⟩
                have hk : k = w 2 0 0 := by omega
                rw [hk] at hI
                have wn := win_n hcan.1 hcan.2
                have h := hI.2.2 load
                rw [g4, g5, wn.1, wn.2] at h
                have h2 := h (by omega) (by omega)
                rw [g4, g5]
                exact h2)
          · skip
            refine g_aload_n X dX4_find_110 rfl 0 rfl ?_
            refine g_geti X ck_X4 ho 4 (by decide) fl_X4_26 (Or.inl rfl) dX4_find_111 ?_
            refine g_iload X dX4_find_114 4 rfl ?_
            refine g_callni (st := []) X (c_X7_bitOf l G (w1 o 4 0) k w1 (by omega) (by omega)) cm_X7_bitOf sm_X7_bitOf mn_X4_51 ⟨Nat.le_of_ble_eq_true rfl, Nat.le_of_ble_eq_true rfl⟩ rfl rfl (Nat.le_of_ble_eq_true rfl) dX4_find_116 (fn_i ?_)
            refine g_iconst X dX4_find_119 ?_
            refine g_icmp_ne (tgt := 139) X dX4_find_120 (by decide) (by have := tb01 (w1 o 4 0) k.toNat; unfold InR; omega) ⟨by decide, by decide⟩ (fun c_120 => ?_) (fun c_120 => ?_)
            · skip
              refine g_iinc (j := 4) (lv' := [(4, .int (iI (k + 1))), (0, .ref (gAd G o)), (1, .int (iI set)), (2, .int (iI load)), (3, .int (iI lift))]) X dX4_find_139 rfl (by decide) rfl ?_
              refine g_goto (tgt := 98) X dX4_find_142 (by decide) ?_
              refine g_lv (lv' := [(0, .ref (gAd G o)), (1, .int (iI set)), (2, .int (iI load)), (3, .int (iI lift)), (4, .int (iI (k + 1)))]) [1, 2, 3, 4, 0] rfl ?_
              exact ih_98 (k + 1) w1 ⟨(by first | omega | rfl | assumption), (by first | omega | rfl | assumption), (by first | exact hfr | (intro o2 f j h; rw [hfs o2 f j (fun z => h z.1)]; exact hfr o2 f j h)), (by
                  first
                  | (rw [show (k + 1).toNat = k.toNat + 1 by omega]; rw [p2] at hsi; exact hsi)
                  | (rw [show (k + 1).toNat = k.toNat + 1 by omega]; have hb0 : tb (w1 o 4 0) k.toNat = 0 := by (have := tb01 (w1 o 4 0) k.toNat; omega)
                     have ws := win_skip (pl := w 2) (load := w1 o 5 0) hb0
                     refine ⟨by rw [ws.1]; exact hI.1, by rw [ws.2]; exact hI.2.1, ?_⟩
                     rw [ws.1, ws.2]
                     exact fun t a b => best_skip hb0 (hI.2.2 t a b))), (by first | exact g3 | (rw [hfs o 3 0 (by simp)]; exact g3)), (by first | exact g4 | (rw [hfs o 4 0 (by simp)]; exact g4)), (by first | exact g5 | (rw [hfs o 5 0 (by simp)]; exact g5)), (by first | exact g6 | (rw [hfs o 6 0 (by simp)]; exact g6))⟩ (by omega)
            · skip
              refine g_aload_n X dX4_find_123 rfl 0 rfl ?_
              refine g_iload X dX4_find_124 4 rfl ?_
              refine g_aload_n X dX4_find_126 rfl 0 rfl ?_
              refine g_geti X ck_X4 ho 4 (by decide) fl_X4_26 (Or.inl rfl) dX4_find_127 ?_
              refine g_iconst X dX4_find_130 ?_
              refine g_iload X dX4_find_131 4 rfl ?_
              refine g_ishl X dX4_find_133 ?_
              refine g_ineg X dX4_find_134 ?_
              refine g_iand X dX4_find_135 ?_
              refine g_callv (st := []) X (c_X4_addMachine l G o k (band (w1 o 4 0) (-(bshl 2 k))) w1 ho h2 hlk (by first | assumption | omega | (unfold InR; omega)) (by rw [p2]; exact hp) (by first | assumption | omega | (unfold InR; omega)) (by first | assumption | omega | (unfold InR; omega)) (by first | assumption | omega | (unfold InR; omega)) (by first | assumption | omega | (unfold InR; omega)) (by rw [p2, g4, g5]; exact hcan.1) (by rw [p2, g4, g5]; exact hcan.2) (by rw [p2]; exact hI) (by omega) (by have := bt_later (s := w1 o 4 0) (m := k) (by omega) (by omega) h0 (by omega); omega) (by exact (bt_later (s := w1 o 4 0) (m := k) (by omega) (by omega) h0 (by omega)).2.2)) cm_X4_addMachine im_X4_addMachine se_X4_addMachine ml_X4_55 ck_X4 ho ⟨Nat.le_of_ble_eq_true rfl, Nat.le_of_ble_eq_true rfl⟩ rfl rfl (Nat.le_of_ble_eq_true rfl) dX4_find_136 ?_
              rintro u_136 ⟨hsi, hfs⟩
              refine g_iinc (j := 4) (lv' := [(4, .int (iI (k + 1))), (0, .ref (gAd G o)), (1, .int (iI set)), (2, .int (iI load)), (3, .int (iI lift))]) X dX4_find_139 rfl (by decide) rfl ?_
              refine g_goto (tgt := 98) X dX4_find_142 (by decide) ?_
              refine g_lv (lv' := [(0, .ref (gAd G o)), (1, .int (iI set)), (2, .int (iI load)), (3, .int (iI lift)), (4, .int (iI (k + 1)))]) [1, 2, 3, 4, 0] rfl ?_
              exact ih_98 (k + 1) u_136 ⟨(by first | omega | rfl | assumption), (by first | omega | rfl | assumption), (by first | exact hfr | (intro o2 f j h; rw [hfs o2 f j (fun z => h z.1)]; exact hfr o2 f j h)), (by
                  first
                  | (rw [show (k + 1).toNat = k.toNat + 1 by omega]; rw [p2] at hsi; exact hsi)
                  | (rw [show (k + 1).toNat = k.toNat + 1 by omega]; have hb0 : tb (w1 o 4 0) k.toNat = 0 := by (have := tb01 (w1 o 4 0) k.toNat; omega)
                     have ws := win_skip (pl := w 2) (load := w1 o 5 0) hb0
                     refine ⟨by rw [ws.1]; exact hI.1, by rw [ws.2]; exact hI.2.1, ?_⟩
                     rw [ws.1, ws.2]
                     exact fun t a b => best_skip hb0 (hI.2.2 t a b))), (by first | exact g3 | (rw [hfs o 3 0 (by simp)]; exact g3)), (by first | exact g4 | (rw [hfs o 4 0 (by simp)]; exact g4)), (by first | exact g5 | (rw [hfs o 5 0 (by simp)]; exact g5)), (by first | exact g6 | (rw [hfs o 6 0 (by simp)]; exact g6))⟩ (by omega)
        · skip
          refine g_iconst X dX4_find_56 ?_
          exact g_iret X rfl (by decide) dX4_find_57 (by exact ⟨fun _ _ _ _ => rfl, hC, Or.inr ⟨rfl, fun h => c_53 (by rw [if_pos (show _ ∧ _ from h)]; decide)⟩⟩)
  · intro J_33
    try dsimp only at J_33
    refine g_aload_n X dX4_find_0 rfl 0 rfl ?_
    refine g_geti X ck_X4 ho 3 (by decide) fl_X4_22 (Or.inr rfl) dX4_find_1 ?_
    refine g_if_eq (tgt := 33) X dX4_find_4 (by decide) (by unfold InR; omega) (fun c_4 => ?_) (fun c_4 => ?_)
    · skip
      refine g_lv (lv' := [(0, .ref (gAd G o)), (1, .int (iI set)), (2, .int (iI load)), (3, .int (iI lift))]) [0, 1, 2, 3] rfl ?_
      exact J_33 0 trivial
    · skip
      refine g_aload_n X dX4_find_7 rfl 0 rfl ?_
      refine g_geti X ck_X4 ho 4 (by decide) fl_X4_26 (Or.inl rfl) dX4_find_8 ?_
      refine g_iload_n X dX4_find_11 rfl 1 rfl ?_
      refine g_icmp_ne (tgt := 33) X dX4_find_12 (by decide) (by unfold InR; omega) (by unfold InR; omega) (fun c_12 => ?_) (fun c_12 => ?_)
      · skip
        refine g_lv (lv' := [(0, .ref (gAd G o)), (1, .int (iI set)), (2, .int (iI load)), (3, .int (iI lift))]) [0, 1, 2, 3] rfl ?_
        exact J_33 0 trivial
      · skip
        refine g_aload_n X dX4_find_15 rfl 0 rfl ?_
        refine g_geti X ck_X4 ho 5 (by decide) fl_X4_30 (Or.inl rfl) dX4_find_16 ?_
        refine g_iload_n X dX4_find_19 rfl 2 rfl ?_
        refine g_icmp_ne (tgt := 33) X dX4_find_20 (by decide) (by unfold InR; omega) (by unfold InR; omega) (fun c_20 => ?_) (fun c_20 => ?_)
        · skip
          refine g_lv (lv' := [(0, .ref (gAd G o)), (1, .int (iI set)), (2, .int (iI load)), (3, .int (iI lift))]) [0, 1, 2, 3] rfl ?_
          exact J_33 0 trivial
        · skip
          refine g_aload_n X dX4_find_23 rfl 0 rfl ?_
          refine g_geti X ck_X4 ho 6 (by decide) fl_X4_33 (Or.inl rfl) dX4_find_24 ?_
          refine g_iload_n X dX4_find_27 rfl 3 rfl ?_
          refine g_icmp_ne (tgt := 33) X dX4_find_28 (by decide) (by unfold InR; omega) (by unfold InR; omega) (fun c_28 => ?_) (fun c_28 => ?_)
          · skip
            refine g_lv (lv' := [(0, .ref (gAd G o)), (1, .int (iI set)), (2, .int (iI load)), (3, .int (iI lift))]) [0, 1, 2, 3] rfl ?_
            exact J_33 0 trivial
          · skip
            refine g_iconst X dX4_find_31 ?_
            exact g_iret X rfl (by decide) dX4_find_32 (by
                refine ⟨fun _ _ _ _ => rfl, hC, Or.inl ⟨rfl, ?_, by omega, by omega, by omega, by omega⟩⟩
                rcases hC with h | h
                · omega
                · rw [show set = w o 4 0 by omega, show load = w o 5 0 by omega]; exact h.2.2.2.2.1)
set_option maxHeartbeats 4000000 in
set_option maxRecDepth 100000 in
theorem c_X4_leastPower (l : Launch) (G : Ly) (o : Nat) (w : Wd) (ho : gOb G o = some 4) (hld : 0 ≤ w o 5 0 ∧ w o 5 0 ≤ 480) : Mi l yX4_leastPower cX4_leastPower 1 (some .int) 0 0 G [.ref (gAd G o)] w (fun z w2 => z = (l2j (lshr (w o 1 (w o 5 0).toNat) 42)) ∧ w2 = w) := by
  refine mi_of (lv := [(0, .ref (gAd G o))]) (by decide) (Nat.le_of_ble_eq_true rfl) rfl ?_
  intro p_ e_ s_ m_ b_ h_ c_ X
  refine g_aload_n X dX4_leastPower_0 rfl 0 rfl ?_
  refine g_geta X ck_X4 ho 1 (by decide) fl_X4_11 rfl dX4_leastPower_1 ?_
  refine g_aload_n X dX4_leastPower_4 rfl 0 rfl ?_
  refine g_geti X ck_X4 ho 5 (by decide) fl_X4_30 (Or.inl rfl) dX4_leastPower_5 ?_
  refine h_lald (a := w o 5 0) (j := (w o 5 0).toNat) X rfl ho (by decide) (show fkX 4 1 = (2, 481) from rfl) (by decide) (by omega) (by omega) dX4_leastPower_8 ?_
  refine g_bipush X dX4_leastPower_9 (by decide) ?_
  refine g_lshr X dX4_leastPower_11 ?_
  refine g_l2i X dX4_leastPower_12 ?_
  exact g_iret X rfl rfl dX4_leastPower_13 (by first | exact ⟨rfl, rfl⟩ | rfl | omega)
set_option maxHeartbeats 4000000 in
set_option maxRecDepth 100000 in
theorem c_X4_part (l : Launch) (G : Ly) (o : Nat) (m : Int) (w : Wd) (ho : gOb G o = some 4) (hld : 0 ≤ w o 5 0 ∧ w o 5 0 ≤ 480) : Mi l yX4_part cX4_part 2 (some .int) 1 20 G [.ref (gAd G o), .int (iI m)] w (fun z w2 => z = (band (l2j (lshr (w o 1 (w o 5 0).toNat) (7 * (5 - m)))) 127) ∧ w2 = w) := by
  refine mi_of (lv := [(0, .ref (gAd G o)), (1, .int (iI m))]) (by decide) (Nat.le_of_ble_eq_true rfl) rfl ?_
  intro p_ e_ s_ m_ b_ h_ c_ X
  refine g_aload_n X dX4_part_0 rfl 0 rfl ?_
  refine g_geta X ck_X4 ho 1 (by decide) fl_X4_11 rfl dX4_part_1 ?_
  refine g_aload_n X dX4_part_4 rfl 0 rfl ?_
  refine g_geti X ck_X4 ho 5 (by decide) fl_X4_30 (Or.inl rfl) dX4_part_5 ?_
  refine h_lald (a := w o 5 0) (j := (w o 5 0).toNat) X rfl ho (by decide) (show fkX 4 1 = (2, 481) from rfl) (by decide) (by omega) (by omega) dX4_part_8 ?_
  refine g_iload_n X dX4_part_9 rfl 1 rfl ?_
  refine g_callsi (st := [.long (lI (w o 1 (w o 5 0).toNat))]) X (c_X4_shiftOf l G m w) cm_X4_shiftOf sm_X4_shiftOf ml_X4_59 ⟨Nat.le_of_ble_eq_true rfl, Nat.le_of_ble_eq_true rfl⟩ rfl rfl (Nat.le_of_ble_eq_true rfl) dX4_part_10 (fn_i ?_)
  refine g_lshr X dX4_part_13 ?_
  refine g_l2i X dX4_part_14 ?_
  refine g_bipush X dX4_part_15 (by decide) ?_
  refine g_iand X dX4_part_17 ?_
  exact g_iret X rfl rfl dX4_part_18 (by first | exact ⟨rfl, rfl⟩ | rfl | omega)
