theorem one_8 {G : Ly} {o q : Nat} (ho : gOb G o = some 8) (hk : gAr G o 0 = gAd G o + 1 ∧ gAr G o 3 = gAd G o + 2 ∧ gAr G o 4 = gAd G o + 3 ∧ gAr G o 5 = gAd G o + 4 ∧ gAr G o 6 = gAd G o + 5 ∧ gAr G o 7 = gAd G o + 6 ∧ gAr G o 9 = gAd G o + 7 ∧ gAr G o 10 = gAd G o + 8 ∧ gAr G o 13 = gAd G o + 9) (h : gA (gR G (fun z => z == o)) q) : gAd G o ≤ q := by
  obtain ⟨o', c', h1, h2⟩ := h
  obtain ⟨b1, b2⟩ := gR_ob h1
  have e : o' = o := by simpa using b1
  subst e
  cases ho.symm.trans b2
  rcases h2 with h2 | ⟨f, f1, f2, h2⟩
  · have h2 : q = gAd G o' := h2
    omega
  · have h2 : q = gAr G o' f := h2
    have hf : f = 0 ∨ f = 3 ∨ f = 4 ∨ f = 5 ∨ f = 6 ∨ f = 7 ∨ f = 9 ∨ f = 10 ∨ f = 13 := (by decide : ∀ f, f < nfX 8 → isA (fkX 8 f) = true → f = 0 ∨ f = 3 ∨ f = 4 ∨ f = 5 ∨ f = 6 ∨ f = 7 ∨ f = 9 ∨ f = 10 ∨ f = 13) f f1 f2
    rcases hf with rfl | rfl | rfl | rfl | rfl | rfl | rfl | rfl | rfl <;> omega
def mnX (a : List Int) : Nat → Int := fun k => a.getD k 0
def md0 : Nat → Nat → Int := p0X z0
def md1 : Nat → Nat → Int := tmX md0 (mnX [10, 40, 20, 9, 30, 12])
def md2 : Nat → Nat → Int := tmX md1 (mnX [10, 40, 25, 8, 20, 12])
def md3 : Nat → Nat → Int := tmX md2 (mnX [5, 20, 8, 12, 40, 6])
def md4 : Nat → Nat → Int := tmX md3 (mnX [20, 60, 40, 7, 15, 20])
theorem mn_0 : md0 0 0 = 0 := by decide +kernel
theorem mn_1 : md1 0 0 = 1 := by decide +kernel
theorem mn_2 : md2 0 0 = 2 := by decide +kernel
theorem mn_3 : md3 0 0 = 3 := by decide +kernel
theorem mn_4 : md4 0 0 = 4 := by decide +kernel
theorem plR_44 {pl : Nat → Nat → Int} {T T2 : Nat → Int} (h : PlR pl T) (hn : pl 0 0 ≤ 6) (e : ∀ j : Nat, j < 44 → T2 j = T j) : PlR pl T2 :=
  ⟨by rw [e 36 (by decide)]; exact h.1, fun m f hm hf => by rw [e _ (by omega)]; exact h.2.1 m f hm hf, fun f f1 f2 => by rw [e _ (by omega)]; exact h.2.2 f f1 f2⟩
set_option maxHeartbeats 4000000 in
set_option maxRecDepth 100000 in
theorem c_X8_init (l : Launch) (G : Ly) (ho : gOb G 20 = some 8) (hk : gAr G 20 0 = gAd G 20 + 1 ∧ gAr G 20 3 = gAd G 20 + 2 ∧ gAr G 20 4 = gAd G 20 + 3 ∧ gAr G 20 5 = gAd G 20 + 4 ∧ gAr G 20 6 = gAd G 20 + 5 ∧ gAr G 20 7 = gAd G 20 + 6 ∧ gAr G 20 9 = gAd G 20 + 7 ∧ gAr G 20 10 = gAd G 20 + 8 ∧ gAr G 20 13 = gAd G 20 + 9) : Ci l yX8_init cX8_init 1 1 27 9 16298 G 20 8 [] (fun _ => True) (fun q => q == 20) (fun x => PlR md4 (x 20 4) ∧ x 20 8 0 = 0 ∧ x 20 11 0 = 0 ∧ (∀ j : Nat, j < 101 → x 20 5 j = d0X j) ∧ x 20 1 0 = 0 ∧ ∀ j : Nat, x 20 9 j = 0) := by
  refine ci_of (by decide) rfl (Nat.le_of_ble_eq_true rfl) rfl ?_
  intro p e s m below meth c X hF hin hz
  have hA : Aq G 20 (gAd G 20) := Nat.le_refl _
  refine k_aload_n X.1 dX8_init_0 rfl 0 rfl ?_
  refine k_objInit X.1 ml_X8_1 ⟨(Nat.le_of_ble_eq_true rfl), (Nat.le_of_ble_eq_true rfl)⟩ (Nat.le_of_ble_eq_true rfl) dX8_init_1 ?_
  refine k_aload_n X.1 dX8_init_4 rfl 0 rfl ?_
  refine k_sipush X.1 dX8_init_5 rfl ?_
  refine k_newa X (ci := 8) (o := 20) (f := 0) (N := 200) (atype := .int) ac_int ⟨by decide, by decide⟩ rfl (ac_i X.2.2.1 rfl rfl) (Nat.le_of_ble_eq_true rfl) ext_true (by omega) ⟨(Nat.le_of_ble_eq_true rfl), (Nat.le_of_ble_eq_true rfl)⟩ dX8_init_8 ?_
  refine k_putF X ck_X8 ho 0 (by decide) fl_X8_7 rfl rfl hin (v := .ref (gAr G 20 0)) rfl rfl rfl hA (by decide) off_true dX8_init_10 ?_
  refine k_aload_n X.1 dX8_init_13 rfl 0 rfl ?_
  refine k_bipush X.1 dX8_init_14 rfl ?_
  refine k_newa X (ci := 8) (o := 20) (f := 3) (N := 44) (atype := .int) ac_int ⟨by decide, by decide⟩ rfl (ac_i X.2.2.1 rfl rfl) (Nat.le_of_ble_eq_true rfl) ext_true (by omega) ⟨(Nat.le_of_ble_eq_true rfl), (Nat.le_of_ble_eq_true rfl)⟩ dX8_init_16 ?_
  refine k_putF X ck_X8 ho 3 (by decide) fl_X8_13 rfl rfl hin (v := .ref (gAr G 20 3)) rfl rfl rfl hA (by decide) off_true dX8_init_18 ?_
  refine k_aload_n X.1 dX8_init_21 rfl 0 rfl ?_
  refine k_bipush X.1 dX8_init_22 rfl ?_
  refine k_newa X (ci := 8) (o := 20) (f := 4) (N := 44) (atype := .int) ac_int ⟨by decide, by decide⟩ rfl (ac_i X.2.2.1 rfl rfl) (Nat.le_of_ble_eq_true rfl) ext_true (by omega) ⟨(Nat.le_of_ble_eq_true rfl), (Nat.le_of_ble_eq_true rfl)⟩ dX8_init_24 ?_
  refine k_putF X ck_X8 ho 4 (by decide) fl_X8_16 rfl rfl hin (v := .ref (gAr G 20 4)) rfl rfl rfl hA (by decide) off_true dX8_init_26 ?_
  refine k_aload_n X.1 dX8_init_29 rfl 0 rfl ?_
  refine k_bipush X.1 dX8_init_30 rfl ?_
  refine k_newa X (ci := 8) (o := 20) (f := 5) (N := 101) (atype := .int) ac_int ⟨by decide, by decide⟩ rfl (ac_i X.2.2.1 rfl rfl) (Nat.le_of_ble_eq_true rfl) ext_true (by omega) ⟨(Nat.le_of_ble_eq_true rfl), (Nat.le_of_ble_eq_true rfl)⟩ dX8_init_32 ?_
  refine k_putF X ck_X8 ho 5 (by decide) fl_X8_19 rfl rfl hin (v := .ref (gAr G 20 5)) rfl rfl rfl hA (by decide) off_true dX8_init_34 ?_
  refine k_aload_n X.1 dX8_init_37 rfl 0 rfl ?_
  refine k_bipush X.1 dX8_init_38 rfl ?_
  refine k_newa X (ci := 8) (o := 20) (f := 6) (N := 101) (atype := .int) ac_int ⟨by decide, by decide⟩ rfl (ac_i X.2.2.1 rfl rfl) (Nat.le_of_ble_eq_true rfl) ext_true (by omega) ⟨(Nat.le_of_ble_eq_true rfl), (Nat.le_of_ble_eq_true rfl)⟩ dX8_init_40 ?_
  refine k_putF X ck_X8 ho 6 (by decide) fl_X8_22 rfl rfl hin (v := .ref (gAr G 20 6)) rfl rfl rfl hA (by decide) off_true dX8_init_42 ?_
  refine k_aload_n X.1 dX8_init_45 rfl 0 rfl ?_
  refine k_sipush X.1 dX8_init_46 rfl ?_
  refine k_newa X (ci := 8) (o := 20) (f := 7) (N := 404) (atype := .int) ac_int ⟨by decide, by decide⟩ rfl (ac_i X.2.2.1 rfl rfl) (Nat.le_of_ble_eq_true rfl) ext_true (by omega) ⟨(Nat.le_of_ble_eq_true rfl), (Nat.le_of_ble_eq_true rfl)⟩ dX8_init_49 ?_
  refine k_putF X ck_X8 ho 7 (by decide) fl_X8_25 rfl rfl hin (v := .ref (gAr G 20 7)) rfl rfl rfl hA (by decide) off_true dX8_init_51 ?_
  refine k_aload_n X.1 dX8_init_54 rfl 0 rfl ?_
  refine k_bipush X.1 dX8_init_55 rfl ?_
  refine k_newa X (ci := 8) (o := 20) (f := 9) (N := 6) (atype := .int) ac_int ⟨by decide, by decide⟩ rfl (ac_i X.2.2.1 rfl rfl) (Nat.le_of_ble_eq_true rfl) ext_true (by omega) ⟨(Nat.le_of_ble_eq_true rfl), (Nat.le_of_ble_eq_true rfl)⟩ dX8_init_57 ?_
  refine k_putF X ck_X8 ho 9 (by decide) fl_X8_28 rfl rfl hin (v := .ref (gAr G 20 9)) rfl rfl rfl hA (by decide) off_true dX8_init_59 ?_
  refine k_aload_n X.1 dX8_init_62 rfl 0 rfl ?_
  refine k_sipush X.1 dX8_init_63 rfl ?_
  refine k_newa X (ci := 8) (o := 20) (f := 10) (N := 15392) (atype := .int) ac_int ⟨by decide, by decide⟩ rfl (ac_i X.2.2.1 rfl rfl) (Nat.le_of_ble_eq_true rfl) ext_true (by omega) ⟨(Nat.le_of_ble_eq_true rfl), (Nat.le_of_ble_eq_true rfl)⟩ dX8_init_66 ?_
  refine k_putF X ck_X8 ho 10 (by decide) fl_X8_31 rfl rfl hin (v := .ref (gAr G 20 10)) rfl rfl rfl hA (by decide) off_true dX8_init_68 ?_
  refine k_aload_n X.1 dX8_init_71 rfl 0 rfl ?_
  refine k_bipush X.1 dX8_init_72 rfl ?_
  refine k_newa X (ci := 8) (o := 20) (f := 13) (N := 6) (atype := .int) ac_int ⟨by decide, by decide⟩ rfl (ac_i X.2.2.1 rfl rfl) (Nat.le_of_ble_eq_true rfl) ext_true (by omega) ⟨(Nat.le_of_ble_eq_true rfl), (Nat.le_of_ble_eq_true rfl)⟩ dX8_init_74 ?_
  refine k_putF X ck_X8 ho 13 (by decide) fl_X8_34 rfl rfl hin (v := .ref (gAr G 20 13)) rfl rfl rfl hA (by decide) off_true dX8_init_76 ?_
  refine k_aload_n X.1 dX8_init_79 rfl 0 rfl ?_
  have ho1 : gOb (gR G (fun q => q == 20)) 20 = some 8 := gR_of (by simp) ho
  have hSx : Sx (gR G (fun q => q == 20)) s s.heap := sx_R X.2
  have hAG : ∀ q, q < s.heap.size → Aq G 20 q → gA (gR G (fun q => q == 20)) q := fun q a b => by
    have b : gAd G 20 ≤ q := b
    have e : q = gAd G 20 := by omega
    rw [e]; exact gA_o (G := gR G (fun q => q == 20)) ho1
  have hAA : ∀ q, gA (gR G (fun q => q == 20)) q → Aq G 20 q := fun q h => one_8 ho hk h
  refine k_wk (P' := Hold (gR G (fun q => q == 20)) wz) (fun H _ h => hold_one ho (rq_done h.2 rfl (by decide) (by decide))) ?_
  refine k_mv (st := []) X.1 hSx hAG hAA (c_X8_beginRead l (gR G (fun q => q == 20)) wz ho1) cm_X8_beginRead im_X8_beginRead se_X8_beginRead ml_X8_37 ck_X8 ho1 ⟨Nat.le_of_ble_eq_true rfl, Nat.le_of_ble_eq_true rfl⟩ ⟨Nat.le_of_ble_eq_true rfl, Nat.le_of_ble_eq_true rfl⟩ rfl rfl (Nat.le_of_ble_eq_true rfl) dX8_init_80 (fun H h => h) (fun w0 h0 => ?_)
  refine k_wk (P' := Hold (gR G (fun q => q == 20)) w0) (fun H _ h => h.1) ?_
  have t0 : PlR md0 (w0 20 3) := h0.2 z0
  refine k_aload_n X.1 dX8_init_83 rfl 0 rfl ?_
  refine k_bipush X.1 dX8_init_84 rfl ?_
  refine k_bipush X.1 dX8_init_86 rfl ?_
  refine k_bipush X.1 dX8_init_88 rfl ?_
  refine k_bipush X.1 dX8_init_90 rfl ?_
  refine k_bipush X.1 dX8_init_92 rfl ?_
  refine k_bipush X.1 dX8_init_94 rfl ?_
  refine k_mv (st := []) X.1 hSx hAG hAA (c_X8_putMachine l (gR G (fun q => q == 20)) 10 40 20 9 30 12 md0 w0 ho1 t0 (by rw [mn_0]; decide)) cm_X8_putMachine im_X8_putMachine se_X8_putMachine ml_X8_40 ck_X8 ho1 ⟨Nat.le_of_ble_eq_true rfl, Nat.le_of_ble_eq_true rfl⟩ ⟨Nat.le_of_ble_eq_true rfl, Nat.le_of_ble_eq_true rfl⟩ rfl rfl (Nat.le_of_ble_eq_true rfl) dX8_init_96 (fun H h => h) (fun w1 h1 => ?_)
  refine k_wk (P' := Hold (gR G (fun q => q == 20)) w1) (fun H _ h => h.1) ?_
  have t1 : PlR md1 (w1 20 3) := h1.2 (mnX [10, 40, 20, 9, 30, 12]) rfl rfl rfl rfl rfl rfl
  refine k_aload_n X.1 dX8_init_99 rfl 0 rfl ?_
  refine k_bipush X.1 dX8_init_100 rfl ?_
  refine k_bipush X.1 dX8_init_102 rfl ?_
  refine k_bipush X.1 dX8_init_104 rfl ?_
  refine k_bipush X.1 dX8_init_106 rfl ?_
  refine k_bipush X.1 dX8_init_108 rfl ?_
  refine k_bipush X.1 dX8_init_110 rfl ?_
  refine k_mv (st := []) X.1 hSx hAG hAA (c_X8_putMachine l (gR G (fun q => q == 20)) 10 40 25 8 20 12 md1 w1 ho1 t1 (by rw [mn_1]; decide)) cm_X8_putMachine im_X8_putMachine se_X8_putMachine ml_X8_40 ck_X8 ho1 ⟨Nat.le_of_ble_eq_true rfl, Nat.le_of_ble_eq_true rfl⟩ ⟨Nat.le_of_ble_eq_true rfl, Nat.le_of_ble_eq_true rfl⟩ rfl rfl (Nat.le_of_ble_eq_true rfl) dX8_init_112 (fun H h => h) (fun w2 h2 => ?_)
  refine k_wk (P' := Hold (gR G (fun q => q == 20)) w2) (fun H _ h => h.1) ?_
  have t2 : PlR md2 (w2 20 3) := h2.2 (mnX [10, 40, 25, 8, 20, 12]) rfl rfl rfl rfl rfl rfl
  refine k_aload_n X.1 dX8_init_115 rfl 0 rfl ?_
  refine k_iconst X.1 dX8_init_116 ?_
  refine k_bipush X.1 dX8_init_117 rfl ?_
  refine k_bipush X.1 dX8_init_119 rfl ?_
  refine k_bipush X.1 dX8_init_121 rfl ?_
  refine k_bipush X.1 dX8_init_123 rfl ?_
  refine k_bipush X.1 dX8_init_125 rfl ?_
  refine k_mv (st := []) X.1 hSx hAG hAA (c_X8_putMachine l (gR G (fun q => q == 20)) 5 20 8 12 40 6 md2 w2 ho1 t2 (by rw [mn_2]; decide)) cm_X8_putMachine im_X8_putMachine se_X8_putMachine ml_X8_40 ck_X8 ho1 ⟨Nat.le_of_ble_eq_true rfl, Nat.le_of_ble_eq_true rfl⟩ ⟨Nat.le_of_ble_eq_true rfl, Nat.le_of_ble_eq_true rfl⟩ rfl rfl (Nat.le_of_ble_eq_true rfl) dX8_init_127 (fun H h => h) (fun w3 h3 => ?_)
  refine k_wk (P' := Hold (gR G (fun q => q == 20)) w3) (fun H _ h => h.1) ?_
  have t3 : PlR md3 (w3 20 3) := h3.2 (mnX [5, 20, 8, 12, 40, 6]) rfl rfl rfl rfl rfl rfl
  refine k_aload_n X.1 dX8_init_130 rfl 0 rfl ?_
  refine k_bipush X.1 dX8_init_131 rfl ?_
  refine k_bipush X.1 dX8_init_133 rfl ?_
  refine k_bipush X.1 dX8_init_135 rfl ?_
  refine k_bipush X.1 dX8_init_137 rfl ?_
  refine k_bipush X.1 dX8_init_139 rfl ?_
  refine k_bipush X.1 dX8_init_141 rfl ?_
  refine k_mv (st := []) X.1 hSx hAG hAA (c_X8_putMachine l (gR G (fun q => q == 20)) 20 60 40 7 15 20 md3 w3 ho1 t3 (by rw [mn_3]; decide)) cm_X8_putMachine im_X8_putMachine se_X8_putMachine ml_X8_40 ck_X8 ho1 ⟨Nat.le_of_ble_eq_true rfl, Nat.le_of_ble_eq_true rfl⟩ ⟨Nat.le_of_ble_eq_true rfl, Nat.le_of_ble_eq_true rfl⟩ rfl rfl (Nat.le_of_ble_eq_true rfl) dX8_init_143 (fun H h => h) (fun w4 h4 => ?_)
  refine k_wk (P' := Hold (gR G (fun q => q == 20)) w4) (fun H _ h => h.1) ?_
  have t4 : PlR md4 (w4 20 3) := h4.2 (mnX [20, 60, 40, 7, 15, 20]) rfl rfl rfl rfl rfl rfl
  refine k_aload_n X.1 dX8_init_146 rfl 0 rfl ?_
  refine k_mv (st := []) X.1 hSx hAG hAA (c_X8_takeRead l (gR G (fun q => q == 20)) w4 ho1) cm_X8_takeRead im_X8_takeRead se_X8_takeRead ml_X8_44 ck_X8 ho1 ⟨Nat.le_of_ble_eq_true rfl, Nat.le_of_ble_eq_true rfl⟩ ⟨Nat.le_of_ble_eq_true rfl, Nat.le_of_ble_eq_true rfl⟩ rfl rfl (Nat.le_of_ble_eq_true rfl) dX8_init_147 (fun H h => h) (fun w5 h5 => ?_)
  refine k_wk (P' := Hold (gR G (fun q => q == 20)) w5) (fun H _ h => h.1) ?_
  obtain ⟨f5, r5, s8, s11, sd⟩ := h5
  refine k_vret X.1 rfl dX8_init_150 w5 ⟨plR_44 t4 (by rw [mn_4]; decide) r5, s8, s11, sd, ?_, fun j => ?_⟩ (fun t ht hz2 => ⟨ht, by omega⟩)
  · rw [f5 20 1 (by decide), h4.1 20 1 (by decide), h3.1 20 1 (by decide), h2.1 20 1 (by decide), h1.1 20 1 (by decide), h0.1 20 1 (by decide)]; rfl
  · rw [f5 20 9 (by decide), h4.1 20 9 (by decide), h3.1 20 9 (by decide), h2.1 20 9 (by decide), h1.1 20 9 (by decide), h0.1 20 9 (by decide)]; rfl
