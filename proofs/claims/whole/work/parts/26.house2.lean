theorem sv_inS {B n : Int} {u v : Nat → Nat → Int} (h : SV B n u) (e : ∀ f j, inS f j → v f j = u f j) : SV B n v := by
  have e0 : ∀ j, j < 4 → v 0 j = u 0 j := fun j hj => e 0 j (Or.inl ⟨rfl, hj⟩)
  have e1 : ∀ f, 1 ≤ f → f ≤ 9 → v f 0 = u f 0 := fun f a b => e f 0 (Or.inr (Or.inl ⟨a, b, rfl⟩))
  have e2 : ∀ f j, (f = 10 ∨ f = 11 ∨ f = 12 ∨ f = 14) → j < 6 → v f j = u f j := fun f j a b => e f j (Or.inr (Or.inr (Or.inl ⟨a, b⟩)))
  have e3 : ∀ j, j < 54 → v 13 j = u 13 j := fun j hj => e 13 j (Or.inr (Or.inr (Or.inr ⟨rfl, hj⟩)))
  obtain ⟨a, b, c, d, g, p, q, r⟩ := h
  have k6 := e1 6 (by decide) (by decide)
  have k7 := e1 7 (by decide) (by decide)
  refine ⟨?_, ?_, ?_, ?_, ?_, ?_, ?_, ?_⟩
  · rw [e0 0 (by decide), e0 1 (by decide), e0 2 (by decide), e0 3 (by decide)]; exact a
  · rw [e1 1 (by decide) (by decide), e1 2 (by decide) (by decide), e1 3 (by decide) (by decide)]; exact b
  · rw [e1 5 (by decide) (by decide), k6, k7]; exact c
  · rw [e1 8 (by decide) (by decide), e1 9 (by decide) (by decide)]; exact d
  · intro j hj
    rw [e1 9 (by decide) (by decide)] at hj
    rw [e2 10 j (by decide) (by omega)]
    exact g j hj
  · intro j hj
    rw [e2 11 j (by decide) hj, e2 12 j (by decide) hj, e2 14 j (by decide) hj]
    exact p j hj
  · intro j hj
    rw [e3 j hj]
    exact q j hj
  · intro k h1 h2
    rw [k6, k7]
    exact r k h1 h2
set_option maxHeartbeats 4000000 in
set_option maxRecDepth 100000 in
theorem c_X7_machine (l : Launch) (G : Ly) (m : Int) (what : Int) (w : Wd) (F : FX G) (hX : XI w) (hr_m : InR m) (hr_what : InR what) : Mi l yX7_machine cX7_machine 3 (some .int) 5 120 G [.ref (gAd G 0), .int (iI m), .int (iI what)] w (fun z w2 => (∀ o2, o2 ≠ 11 → w2 o2 = w o2) ∧ ShC (w 2) (w2 11) ∧ (¬ (0 ≤ m ∧ m < w 2 0 0) → z = -1) ∧ ((0 ≤ m ∧ m < w 2 0 0) → what ≠ 11 → z = machV (w 2) (w 3) m what) ∧ ((0 ≤ m ∧ m < w 2 0 0) → what = 11 → ∃ v, BestC (w 2) (pkX (w 2) (liftX (w 3))) (w 3 7 0) (w 2 0 0).toNat (madeX (w 2) (w 3)) v ∧ z = v / 2 ^ (7 * (5 - m.toNat)) % 128)) := by
  refine mi_of (lv := [(0, .ref (gAd G 0)), (1, .int (iI m)), (2, .int (iI what))]) (by decide) (Nat.le_of_ble_eq_true rfl) rfl ?_
  intro p_ e_ s_ m_ b_ h_ c_ X
  obtain ⟨hp, hS, htk, hcl, ⟨hnx, hhd⟩, ⟨hC1, hC2, hC3⟩, ⟨hL, hT, hN⟩⟩ := id hX
  have hp0 := hp.1
  have sT := hS.1
  have sB := hS.2.1
  have sC := hS.2.2.1
  have sD := hS.2.2.2.1
  have sE := hS.2.2.2.2.1
  have sF := hS.2.2.2.2.2.1
  have hrun := bt_or (s := w 3 6 0) (t := w 3 7 0) (by omega) (by omega) (by omega) (by omega)
  have hopn := open_in hp sC.1
  refine g_aload_n X dX7_machine_0 rfl 0 rfl ?_
  refine g_iload_n X dX7_machine_1 rfl 1 rfl ?_
  refine g_calli (st := []) X (c_X7_isMachine l G m w F (by first | assumption | omega | (unfold InR; omega)) (by first | assumption | omega | (unfold InR; omega))) cm_X7_isMachine im_X7_isMachine se_X7_isMachine ml_X7_121 ck_X7 (fx0 F) ⟨Nat.le_of_ble_eq_true rfl, Nat.le_of_ble_eq_true rfl⟩ rfl rfl (Nat.le_of_ble_eq_true rfl) dX7_machine_2 (fn_i ?_)
  refine g_if_ne (tgt := 10) X dX7_machine_5 (by decide) (by exact in01) (fun c_5 => ?_) (fun c_5 => ?_)
  · skip
    have hmm := of_one c_5
    have t6 := tb01 (w 3 6 0) m.toNat
    have t7 := tb01 (w 3 7 0) m.toNat
    have hLI : ∀ j : Nat, (j : Int) < w 3 9 0 → InR (w 3 10 j) := fun j hj => by have := sE j hj; unfold InR; omega
    refine g_iload_n X dX7_machine_10 rfl 2 rfl ?_
    have hr_11 : InR what := (by exact hr_what)
    by_cases hs_11 : what < 0 ∨ 12 < what
    · refine g_tableOut (tgt := 246) X dX7_machine_11 hr_11 hs_11 (by decide) ?_
      refine g_iconst X dX7_machine_246 ?_
      exact g_iret X rfl rfl dX7_machine_247 (by
          refine ⟨fun _ _ => rfl, hC1, fun h => absurd hmm h, fun _ h => ?_, fun _ h => absurd h (by omega)⟩
          unfold machV
          rw [if_neg (by omega), if_neg (by omega), if_neg (by omega), if_neg (by omega), if_neg (by omega), if_neg (by omega), if_neg (by omega), if_neg (by omega), if_neg (by omega), if_neg (by omega), if_neg (by omega), if_neg (by omega)])
    by_cases hs_11_0 : what = 0
    · refine g_tableIn (off := 65) (tgt := 76) X dX7_machine_11 hr_11 (by omega) (by omega) (by rw [hs_11_0]; rfl) (by decide) ?_
      refine g_aload_n X dX7_machine_76 rfl 0 rfl ?_
      refine g_geto (o' := 2) X ck_X7 (fx0 F) 1 (by decide) fl_X7_19 rfl (fl0_1 F) dX7_machine_77 ?_
      refine g_geta X ck_X2 (fx2 F) 1 (by decide) fl_X7_163 rfl dX7_machine_80 ?_
      refine g_iload_n X dX7_machine_83 rfl 1 rfl ?_
      refine h_iald (a := m) (j := (m).toNat) X rfl (fx2 F) (by decide) (show fkX 2 1 = (1, 6) from rfl) (by decide) (by omega) (by omega) dX7_machine_84 ?_
      exact g_iret X rfl rfl dX7_machine_85 (by
          refine ⟨fun _ _ => rfl, hC1, fun h => absurd hmm h, fun _ h => ?_, fun _ h => absurd h (by omega)⟩
          rw [hs_11_0]
          rfl)
    by_cases hs_11_1 : what = 1
    · refine g_tableIn (off := 75) (tgt := 86) X dX7_machine_11 hr_11 (by omega) (by omega) (by rw [hs_11_1]; rfl) (by decide) ?_
      refine g_aload_n X dX7_machine_86 rfl 0 rfl ?_
      refine g_geto (o' := 2) X ck_X7 (fx0 F) 1 (by decide) fl_X7_19 rfl (fl0_1 F) dX7_machine_87 ?_
      refine g_geta X ck_X2 (fx2 F) 2 (by decide) fl_X7_166 rfl dX7_machine_90 ?_
      refine g_iload_n X dX7_machine_93 rfl 1 rfl ?_
      refine h_iald (a := m) (j := (m).toNat) X rfl (fx2 F) (by decide) (show fkX 2 2 = (1, 6) from rfl) (by decide) (by omega) (by omega) dX7_machine_94 ?_
      exact g_iret X rfl rfl dX7_machine_95 (by
          refine ⟨fun _ _ => rfl, hC1, fun h => absurd hmm h, fun _ h => ?_, fun _ h => absurd h (by omega)⟩
          rw [hs_11_1]
          rfl)
    by_cases hs_11_2 : what = 2
    · refine g_tableIn (off := 85) (tgt := 96) X dX7_machine_11 hr_11 (by omega) (by omega) (by rw [hs_11_2]; rfl) (by decide) ?_
      refine g_aload_n X dX7_machine_96 rfl 0 rfl ?_
      refine g_geto (o' := 2) X ck_X7 (fx0 F) 1 (by decide) fl_X7_19 rfl (fl0_1 F) dX7_machine_97 ?_
      refine g_geta X ck_X2 (fx2 F) 3 (by decide) fl_X7_169 rfl dX7_machine_100 ?_
      refine g_iload_n X dX7_machine_103 rfl 1 rfl ?_
      refine h_iald (a := m) (j := (m).toNat) X rfl (fx2 F) (by decide) (show fkX 2 3 = (1, 6) from rfl) (by decide) (by omega) (by omega) dX7_machine_104 ?_
      exact g_iret X rfl rfl dX7_machine_105 (by
          refine ⟨fun _ _ => rfl, hC1, fun h => absurd hmm h, fun _ h => ?_, fun _ h => absurd h (by omega)⟩
          rw [hs_11_2]
          rfl)
    by_cases hs_11_3 : what = 3
    · refine g_tableIn (off := 95) (tgt := 106) X dX7_machine_11 hr_11 (by omega) (by omega) (by rw [hs_11_3]; rfl) (by decide) ?_
      refine g_aload_n X dX7_machine_106 rfl 0 rfl ?_
      refine g_geto (o' := 2) X ck_X7 (fx0 F) 1 (by decide) fl_X7_19 rfl (fl0_1 F) dX7_machine_107 ?_
      refine g_geta X ck_X2 (fx2 F) 4 (by decide) fl_X7_172 rfl dX7_machine_110 ?_
      refine g_iload_n X dX7_machine_113 rfl 1 rfl ?_
      refine h_iald (a := m) (j := (m).toNat) X rfl (fx2 F) (by decide) (show fkX 2 4 = (1, 6) from rfl) (by decide) (by omega) (by omega) dX7_machine_114 ?_
      exact g_iret X rfl rfl dX7_machine_115 (by
          refine ⟨fun _ _ => rfl, hC1, fun h => absurd hmm h, fun _ h => ?_, fun _ h => absurd h (by omega)⟩
          rw [hs_11_3]
          rfl)
    by_cases hs_11_4 : what = 4
    · refine g_tableIn (off := 105) (tgt := 116) X dX7_machine_11 hr_11 (by omega) (by omega) (by rw [hs_11_4]; rfl) (by decide) ?_
      refine g_aload_n X dX7_machine_116 rfl 0 rfl ?_
      refine g_geto (o' := 2) X ck_X7 (fx0 F) 1 (by decide) fl_X7_19 rfl (fl0_1 F) dX7_machine_117 ?_
      refine g_geta X ck_X2 (fx2 F) 5 (by decide) fl_X7_175 rfl dX7_machine_120 ?_
      refine g_iload_n X dX7_machine_123 rfl 1 rfl ?_
      refine h_iald (a := m) (j := (m).toNat) X rfl (fx2 F) (by decide) (show fkX 2 5 = (1, 6) from rfl) (by decide) (by omega) (by omega) dX7_machine_124 ?_
      exact g_iret X rfl rfl dX7_machine_125 (by
          refine ⟨fun _ _ => rfl, hC1, fun h => absurd hmm h, fun _ h => ?_, fun _ h => absurd h (by omega)⟩
          rw [hs_11_4]
          rfl)
    by_cases hs_11_5 : what = 5
    · refine g_tableIn (off := 115) (tgt := 126) X dX7_machine_11 hr_11 (by omega) (by omega) (by rw [hs_11_5]; rfl) (by decide) ?_
      refine g_aload_n X dX7_machine_126 rfl 0 rfl ?_
      refine g_geto (o' := 2) X ck_X7 (fx0 F) 1 (by decide) fl_X7_19 rfl (fl0_1 F) dX7_machine_127 ?_
      refine g_geta X ck_X2 (fx2 F) 6 (by decide) fl_X7_178 rfl dX7_machine_130 ?_
      refine g_iload_n X dX7_machine_133 rfl 1 rfl ?_
      refine h_iald (a := m) (j := (m).toNat) X rfl (fx2 F) (by decide) (show fkX 2 6 = (1, 6) from rfl) (by decide) (by omega) (by omega) dX7_machine_134 ?_
      exact g_iret X rfl rfl dX7_machine_135 (by
          refine ⟨fun _ _ => rfl, hC1, fun h => absurd hmm h, fun _ h => ?_, fun _ h => absurd h (by omega)⟩
          rw [hs_11_5]
          rfl)
    by_cases hs_11_6 : what = 6
    · refine g_tableIn (off := 125) (tgt := 136) X dX7_machine_11 hr_11 (by omega) (by omega) (by rw [hs_11_6]; rfl) (by decide) ?_
      refine g_aload_n X dX7_machine_136 rfl 0 rfl ?_
      refine g_geto (o' := 3) X ck_X7 (fx0 F) 2 (by decide) fl_X7_26 rfl (fl0_2 F) dX7_machine_137 ?_
      refine g_geti X ck_X6 (fx3 F) 6 (by decide) fl_X7_181 (Or.inl rfl) dX7_machine_140 ?_
      refine g_iload_n X dX7_machine_143 rfl 1 rfl ?_
      refine g_callsi (st := []) X (c_X7_bitOf l G (w 3 6 0) m w (by first | assumption | omega | (unfold InR; omega)) (by omega)) cm_X7_bitOf sm_X7_bitOf ml_X7_184 ⟨Nat.le_of_ble_eq_true rfl, Nat.le_of_ble_eq_true rfl⟩ rfl rfl (Nat.le_of_ble_eq_true rfl) dX7_machine_144 (fn_i ?_)
      refine g_iconst X dX7_machine_147 ?_
      refine g_aload_n X dX7_machine_148 rfl 0 rfl ?_
      refine g_geto (o' := 3) X ck_X7 (fx0 F) 2 (by decide) fl_X7_26 rfl (fl0_2 F) dX7_machine_149 ?_
      refine g_geti X ck_X6 (fx3 F) 7 (by decide) fl_X7_188 (Or.inl rfl) dX7_machine_152 ?_
      refine g_iload_n X dX7_machine_155 rfl 1 rfl ?_
      refine g_callsi (st := [.int (iI 2), .int (iI (tb (w 3 6 0) m.toNat))]) X (c_X7_bitOf l G (w 3 7 0) m w (by first | assumption | omega | (unfold InR; omega)) (by omega)) cm_X7_bitOf sm_X7_bitOf ml_X7_184 ⟨Nat.le_of_ble_eq_true rfl, Nat.le_of_ble_eq_true rfl⟩ rfl rfl (Nat.le_of_ble_eq_true rfl) dX7_machine_156 (fn_i ?_)
      refine g_imul X dX7_machine_159 ?_
      refine g_iadd X dX7_machine_160 ?_
      exact g_iret X rfl rfl dX7_machine_161 (by
          refine ⟨fun _ _ => rfl, hC1, fun h => absurd hmm h, fun _ h => ?_, fun _ h => absurd h (by omega)⟩
          rw [hs_11_6]
          rfl)
    by_cases hs_11_7 : what = 7
    · refine g_tableIn (off := 151) (tgt := 162) X dX7_machine_11 hr_11 (by omega) (by omega) (by rw [hs_11_7]; rfl) (by decide) ?_
      refine g_aload_n X dX7_machine_162 rfl 0 rfl ?_
      refine g_geto (o' := 3) X ck_X7 (fx0 F) 2 (by decide) fl_X7_26 rfl (fl0_2 F) dX7_machine_163 ?_
      refine g_geta X ck_X6 (fx3 F) 11 (by decide) fl_X7_191 rfl dX7_machine_166 ?_
      refine g_iload_n X dX7_machine_169 rfl 1 rfl ?_
      refine h_iald (a := m) (j := (m).toNat) X rfl (fx3 F) (by decide) (show fkX 6 11 = (1, 6) from rfl) (by decide) (by omega) (by omega) dX7_machine_170 ?_
      exact g_iret X rfl rfl dX7_machine_171 (by
          refine ⟨fun _ _ => rfl, hC1, fun h => absurd hmm h, fun _ h => ?_, fun _ h => absurd h (by omega)⟩
          rw [hs_11_7]
          rfl)
    by_cases hs_11_8 : what = 8
    · refine g_tableIn (off := 161) (tgt := 172) X dX7_machine_11 hr_11 (by omega) (by omega) (by rw [hs_11_8]; rfl) (by decide) ?_
      refine g_aload_n X dX7_machine_172 rfl 0 rfl ?_
      refine g_geto (o' := 3) X ck_X7 (fx0 F) 2 (by decide) fl_X7_26 rfl (fl0_2 F) dX7_machine_173 ?_
      refine g_geta X ck_X6 (fx3 F) 12 (by decide) fl_X7_194 rfl dX7_machine_176 ?_
      refine g_iload_n X dX7_machine_179 rfl 1 rfl ?_
      refine h_iald (a := m) (j := (m).toNat) X rfl (fx3 F) (by decide) (show fkX 6 12 = (1, 6) from rfl) (by decide) (by omega) (by omega) dX7_machine_180 ?_
      exact g_iret X rfl rfl dX7_machine_181 (by
          refine ⟨fun _ _ => rfl, hC1, fun h => absurd hmm h, fun _ h => ?_, fun _ h => absurd h (by omega)⟩
          rw [hs_11_8]
          rfl)
    by_cases hs_11_9 : what = 9
    · refine g_tableIn (off := 171) (tgt := 182) X dX7_machine_11 hr_11 (by omega) (by omega) (by rw [hs_11_9]; rfl) (by decide) ?_
      refine g_aload_n X dX7_machine_182 rfl 0 rfl ?_
      refine g_geto (o' := 3) X ck_X7 (fx0 F) 2 (by decide) fl_X7_26 rfl (fl0_2 F) dX7_machine_183 ?_
      refine g_geti X ck_X6 (fx3 F) 5 (by decide) fl_X7_125 (Or.inl rfl) dX7_machine_186 ?_
      refine g_iload_n X dX7_machine_189 rfl 1 rfl ?_
      refine g_callsi (st := []) X (c_X7_bitOf l G (w 3 5 0) m w (by first | assumption | omega | (unfold InR; omega)) (by omega)) cm_X7_bitOf sm_X7_bitOf ml_X7_184 ⟨Nat.le_of_ble_eq_true rfl, Nat.le_of_ble_eq_true rfl⟩ rfl rfl (Nat.le_of_ble_eq_true rfl) dX7_machine_190 (fn_i ?_)
      exact g_iret X rfl rfl dX7_machine_193 (by
          refine ⟨fun _ _ => rfl, hC1, fun h => absurd hmm h, fun _ h => ?_, fun _ h => absurd h (by omega)⟩
          rw [hs_11_9]
          rfl)
    by_cases hs_11_10 : what = 10
    · refine g_tableIn (off := 183) (tgt := 194) X dX7_machine_11 hr_11 (by omega) (by omega) (by rw [hs_11_10]; rfl) (by decide) ?_
      refine g_aload_n X dX7_machine_194 rfl 0 rfl ?_
      refine g_geto (o' := 10) X ck_X7 (fx0 F) 5 (by decide) fl_X7_45 rfl (fl0_5 F) dX7_machine_195 ?_
      refine g_aload_n X dX7_machine_198 rfl 0 rfl ?_
      refine g_geto (o' := 3) X ck_X7 (fx0 F) 2 (by decide) fl_X7_26 rfl (fl0_2 F) dX7_machine_199 ?_
      refine g_iload_n X dX7_machine_202 rfl 1 rfl ?_
      refine g_aload_n X dX7_machine_203 rfl 0 rfl ?_
      refine g_geto (o' := 3) X ck_X7 (fx0 F) 2 (by decide) fl_X7_26 rfl (fl0_2 F) dX7_machine_204 ?_
      refine g_geti X ck_X6 (fx3 F) 1 (by decide) fl_X7_147 (Or.inl rfl) dX7_machine_207 ?_
      refine g_iconst X dX7_machine_210 ?_
      refine g_iadd X dX7_machine_211 ?_
      refine g_calli (st := []) X (c_X5_mayStart l G 3 m ((w 3 1 0) + 1) (9 * w 3 1 0) w F (fx3 F) (by first | assumption | omega | (unfold InR; omega)) (by exact hS) (by first | assumption | omega | (unfold InR; omega)) (by first | assumption | omega | (unfold InR; omega)) (by first | assumption | omega | (unfold InR; omega))) cm_X5_mayStart im_X5_mayStart se_X5_mayStart ml_X7_197 ck_X5 (fx10 F) ⟨Nat.le_of_ble_eq_true rfl, Nat.le_of_ble_eq_true rfl⟩ rfl rfl (Nat.le_of_ble_eq_true rfl) dX7_machine_212 (fn_i ?_)
      refine g_if_eq (tgt := 222) X dX7_machine_215 (by decide) (by exact in01) (fun c_215 => ?_) (fun c_215 => ?_)
      · skip
        refine g_iconst X dX7_machine_222 ?_
        exact g_iret X rfl rfl dX7_machine_223 (by
            refine ⟨fun _ _ => rfl, hC1, fun h => absurd hmm h, fun _ h => ?_, fun _ h => absurd h (by omega)⟩
            rw [hs_11_10]
            show _ = if mayX (w 2) (w 3) m (w 3 1 0 + 1) then 1 else 0
            first
            | rw [if_pos (of_one c_215)]
            | rw [if_neg (of_zero c_215)])
      · skip
        refine g_iconst X dX7_machine_218 ?_
        refine g_goto (tgt := 223) X dX7_machine_219 (by decide) ?_
        exact g_iret X rfl rfl dX7_machine_223 (by
            refine ⟨fun _ _ => rfl, hC1, fun h => absurd hmm h, fun _ h => ?_, fun _ h => absurd h (by omega)⟩
            rw [hs_11_10]
            show _ = if mayX (w 2) (w 3) m (w 3 1 0 + 1) then 1 else 0
            first
            | rw [if_pos (of_one c_215)]
            | rw [if_neg (of_zero c_215)])
    by_cases hs_11_11 : what = 11
    · refine g_tableIn (off := 213) (tgt := 224) X dX7_machine_11 hr_11 (by omega) (by omega) (by rw [hs_11_11]; rfl) (by decide) ?_
      refine g_aload_n X dX7_machine_224 rfl 0 rfl ?_
      refine g_geto (o' := 10) X ck_X7 (fx0 F) 5 (by decide) fl_X7_45 rfl (fl0_5 F) dX7_machine_225 ?_
      refine g_aload_n X dX7_machine_228 rfl 0 rfl ?_
      refine g_geto (o' := 3) X ck_X7 (fx0 F) 2 (by decide) fl_X7_26 rfl (fl0_2 F) dX7_machine_229 ?_
      refine g_iload_n X dX7_machine_232 rfl 1 rfl ?_
      refine g_calli (st := []) X (c_X5_madeBy l G 3 m (9 * w 3 1 0) w F (fx3 F) (by first | assumption | omega | (unfold InR; omega)) (by exact hS) (by first | assumption | omega | (unfold InR; omega)) (by first | assumption | omega | (unfold InR; omega)) (by first | assumption | omega | (unfold InR; omega))) cm_X5_madeBy im_X5_madeBy se_X5_madeBy ml_X7_201 ck_X5 (fx10 F) ⟨Nat.le_of_ble_eq_true rfl, Nat.le_of_ble_eq_true rfl⟩ rfl rfl (Nat.le_of_ble_eq_true rfl) dX7_machine_233 ?_
      rintro z_233 u_233 h_233
      exact g_iret X rfl rfl dX7_machine_236 (by
          obtain ⟨q1, q2, q3⟩ := h_233
          exact ⟨fun o2 h => by funext f j; exact q1 o2 f j h, q2, fun h => absurd hmm h, fun _ h => absurd hs_11_11 h, fun _ _ => q3⟩)
    by_cases hs_11_12 : what = 12
    · refine g_tableIn (off := 226) (tgt := 237) X dX7_machine_11 hr_11 (by omega) (by omega) (by rw [hs_11_12]; rfl) (by decide) ?_
      refine g_aload_n X dX7_machine_237 rfl 0 rfl ?_
      refine g_geto (o' := 3) X ck_X7 (fx0 F) 2 (by decide) fl_X7_26 rfl (fl0_2 F) dX7_machine_238 ?_
      refine g_iload_n X dX7_machine_241 rfl 1 rfl ?_
      refine g_calli (st := []) X (c_X6_placeInList l G 3 m w (fx3 F) (by first | assumption | omega | (unfold InR; omega)) (by exact hr_m) (by first | assumption | omega | (unfold InR; omega))) cm_X6_placeInList im_X6_placeInList se_X6_placeInList ml_X7_205 ck_X6 (fx3 F) ⟨Nat.le_of_ble_eq_true rfl, Nat.le_of_ble_eq_true rfl⟩ rfl rfl (Nat.le_of_ble_eq_true rfl) dX7_machine_242 (fn_i ?_)
      exact g_iret X rfl rfl dX7_machine_245 (by
          refine ⟨fun _ _ => rfl, hC1, fun h => absurd hmm h, fun _ h => ?_, fun _ h => absurd h (by omega)⟩
          rw [hs_11_12]
          rfl)
    exact absurd trivial (by omega)
  · skip
    refine g_iconst X dX7_machine_8 ?_
    exact g_iret X rfl rfl dX7_machine_9 (by exact ⟨fun _ _ => rfl, hC1, fun _ => rfl, fun h => absurd h (of_zero (Classical.not_not.mp c_5)), fun h => absurd h (of_zero (Classical.not_not.mp c_5))⟩)
set_option maxHeartbeats 4000000 in
set_option maxRecDepth 100000 in
theorem c_X7_power (l : Launch) (G : Ly) (m : Int) (load : Int) (lift : Int) (w : Wd) (F : FX G) (hX : XI w) (hr_m : InR m) (hr_load : InR load) (hr_lift : InR lift) : Mi l yX7_power cX7_power 4 (some .int) 1 23 G [.ref (gAd G 0), .int (iI m), .int (iI load), .int (iI lift)] w (fun z w2 => z = (if (0 ≤ m ∧ m < w 2 0 0) ∧ (0 ≤ load ∧ load ≤ 99) ∧ 0 ≤ lift ∧ lift ≤ 45 then pwX (w 2) lift m.toNat load else -1) ∧ w2 = w) := by
  refine mi_of (lv := [(0, .ref (gAd G 0)), (1, .int (iI m)), (2, .int (iI load)), (3, .int (iI lift))]) (by decide) (Nat.le_of_ble_eq_true rfl) rfl ?_
  intro p_ e_ s_ m_ b_ h_ c_ X
  obtain ⟨hp, hS, htk, hcl, ⟨hnx, hhd⟩, ⟨hC1, hC2, hC3⟩, ⟨hL, hT, hN⟩⟩ := id hX
  have hp0 := hp.1
  have sT := hS.1
  have sB := hS.2.1
  have sC := hS.2.2.1
  have sD := hS.2.2.2.1
  have sE := hS.2.2.2.2.1
  have sF := hS.2.2.2.2.2.1
  have hrun := bt_or (s := w 3 6 0) (t := w 3 7 0) (by omega) (by omega) (by omega) (by omega)
  have hopn := open_in hp sC.1
  refine g_aload_n X dX7_power_0 rfl 0 rfl ?_
  refine g_iload_n X dX7_power_1 rfl 1 rfl ?_
  refine g_calli (st := []) X (c_X7_isMachine l G m w F (by first | assumption | omega | (unfold InR; omega)) (by first | assumption | omega | (unfold InR; omega))) cm_X7_isMachine im_X7_isMachine se_X7_isMachine ml_X7_121 ck_X7 (fx0 F) ⟨Nat.le_of_ble_eq_true rfl, Nat.le_of_ble_eq_true rfl⟩ rfl rfl (Nat.le_of_ble_eq_true rfl) dX7_power_2 (fn_i ?_)
  refine g_if_eq (tgt := 28) X dX7_power_5 (by decide) (by exact in01) (fun c_5 => ?_) (fun c_5 => ?_)
  · skip
    refine g_iconst X dX7_power_28 ?_
    exact g_iret X rfl rfl dX7_power_29 (by refine ⟨?_, rfl⟩; rw [if_neg]; first | exact fun h => of_zero c_5 h.1 | (intro h; omega))
  · skip
    refine g_iload_n X dX7_power_8 rfl 2 rfl ?_
    refine g_if_lt (tgt := 28) X dX7_power_9 (by decide) (by exact hr_load) (fun c_9 => ?_) (fun c_9 => ?_)
    · skip
      refine g_iconst X dX7_power_28 ?_
      exact g_iret X rfl rfl dX7_power_29 (by refine ⟨?_, rfl⟩; rw [if_neg]; first | exact fun h => of_zero c_5 h.1 | (intro h; omega))
    · skip
      refine g_iload_n X dX7_power_12 rfl 2 rfl ?_
      refine g_bipush X dX7_power_13 (by decide) ?_
      refine g_icmp_gt (tgt := 28) X dX7_power_15 (by decide) (by exact hr_load) ⟨by decide, by decide⟩ (fun c_15 => ?_) (fun c_15 => ?_)
      · skip
        refine g_iconst X dX7_power_28 ?_
        exact g_iret X rfl rfl dX7_power_29 (by refine ⟨?_, rfl⟩; rw [if_neg]; first | exact fun h => of_zero c_5 h.1 | (intro h; omega))
      · skip
        refine g_iload_n X dX7_power_18 rfl 3 rfl ?_
        refine g_if_lt (tgt := 28) X dX7_power_19 (by decide) (by exact hr_lift) (fun c_19 => ?_) (fun c_19 => ?_)
        · skip
          refine g_iconst X dX7_power_28 ?_
          exact g_iret X rfl rfl dX7_power_29 (by refine ⟨?_, rfl⟩; rw [if_neg]; first | exact fun h => of_zero c_5 h.1 | (intro h; omega))
        · skip
          refine g_iload_n X dX7_power_22 rfl 3 rfl ?_
          refine g_bipush X dX7_power_23 (by decide) ?_
          refine g_icmp_le (tgt := 30) X dX7_power_25 (by decide) (by exact hr_lift) ⟨by decide, by decide⟩ (fun c_25 => ?_) (fun c_25 => ?_)
          · skip
            refine g_aload_n X dX7_power_30 rfl 0 rfl ?_
            refine g_geto (o' := 2) X ck_X7 (fx0 F) 1 (by decide) fl_X7_19 rfl (fl0_1 F) dX7_power_31 ?_
            refine g_iload_n X dX7_power_34 rfl 1 rfl ?_
            refine g_iload_n X dX7_power_35 rfl 2 rfl ?_
            refine g_iload_n X dX7_power_36 rfl 3 rfl ?_
            refine g_calli (st := []) X (c_X2_powerAt l G 2 m load lift w (fx2 F) (by have := of_one c_5; omega)) cm_X2_powerAt im_X2_powerAt se_X2_powerAt ml_X7_208 ck_X2 (fx2 F) ⟨Nat.le_of_ble_eq_true rfl, Nat.le_of_ble_eq_true rfl⟩ rfl rfl (Nat.le_of_ble_eq_true rfl) dX7_power_37 (fn_i ?_)
            exact g_iret X rfl rfl dX7_power_40 (by
                have hmm := of_one c_5
                refine ⟨?_, rfl⟩
                rw [if_pos ⟨hmm, ⟨by omega, by omega⟩, by omega, by omega⟩]
                exact pw_jdiv hp (by omega) ⟨by omega, by omega⟩ ⟨by omega, by omega⟩)
          · skip
            refine g_iconst X dX7_power_28 ?_
            exact g_iret X rfl rfl dX7_power_29 (by refine ⟨?_, rfl⟩; rw [if_neg]; first | exact fun h => of_zero c_5 h.1 | (intro h; omega))
set_option maxHeartbeats 4000000 in
set_option maxRecDepth 100000 in
theorem c_X7_share (l : Launch) (G : Ly) (set : Int) (load : Int) (m : Int) (w : Wd) (F : FX G) (hX : XI w) (hr_set : InR set) (hr_load : InR load) (hr_m : InR m) : Mi l yX7_share cX7_share 4 (some .int) 4 98 G [.ref (gAd G 0), .int (iI set), .int (iI load), .int (iI m)] w (fun z w2 => (∀ o2, o2 ≠ 12 → w2 o2 = w o2) ∧ ShC (w 2) (w2 12) ∧ (¬ ((0 ≤ set ∧ set ≤ bshl 1 (w 2 0 0) - 1) ∧ (0 ≤ load ∧ load ≤ 480) ∧ (m = -1 ∨ (0 ≤ m ∧ m < w 2 0 0))) → z = -1) ∧ (((0 ≤ set ∧ set ≤ bshl 1 (w 2 0 0) - 1) ∧ (0 ≤ load ∧ load ≤ 480) ∧ (m = -1 ∨ (0 ≤ m ∧ m < w 2 0 0))) → ¬ CanX (w 2) set load → z = -4) ∧ (((0 ≤ set ∧ set ≤ bshl 1 (w 2 0 0) - 1) ∧ (0 ≤ load ∧ load ≤ 480) ∧ (m = -1 ∨ (0 ≤ m ∧ m < w 2 0 0))) → CanX (w 2) set load → ∃ v, BestC (w 2) (pkX (w 2) (liftX (w 3))) set (w 2 0 0).toNat load v ∧ z = if m = -1 then v / 4398046511104 else v / 2 ^ (7 * (5 - m.toNat)) % 128)) := by
  refine mi_of (lv := [(0, .ref (gAd G 0)), (1, .int (iI set)), (2, .int (iI load)), (3, .int (iI m))]) (by decide) (Nat.le_of_ble_eq_true rfl) rfl ?_
  intro p_ e_ s_ m_ b_ h_ c_ X
  obtain ⟨hp, hS, htk, hcl, ⟨hnx, hhd⟩, ⟨hC1, hC2, hC3⟩, ⟨hL, hT, hN⟩⟩ := id hX
  have hp0 := hp.1
  have sT := hS.1
  have sB := hS.2.1
  have sC := hS.2.2.1
  have sD := hS.2.2.2.1
  have sE := hS.2.2.2.2.1
  have sF := hS.2.2.2.2.2.1
  have hrun := bt_or (s := w 3 6 0) (t := w 3 7 0) (by omega) (by omega) (by omega) (by omega)
  have hopn := open_in hp sC.1
  have hall := bt_all (w 2 0 0) (by omega) (by omega)
  have hlf0 : 0 ≤ liftX (w 3) ∧ liftX (w 3) ≤ 45 := by unfold liftX; omega
  refine g_iload_n X dX7_share_0 rfl 1 rfl ?_
  refine g_if_lt (tgt := 35) X dX7_share_1 (by decide) (by exact hr_set) (fun c_1 => ?_) (fun c_1 => ?_)
  · skip
    refine g_iconst X dX7_share_35 ?_
    exact g_iret X rfl rfl dX7_share_36 (by
        refine ⟨fun _ _ => rfl, hC2, fun _ => rfl, fun h => absurd h ?_, fun h => absurd h ?_⟩ <;> first
        | exact fun h => of_zero c_19 h.2.1
        | (intro h; omega)
        | exact fun h => h.2.2.elim c_24 (of_zero c_32))
  · skip
    refine g_iload_n X dX7_share_4 rfl 1 rfl ?_
    refine g_aload_n X dX7_share_5 rfl 0 rfl ?_
    refine g_geto (o' := 2) X ck_X7 (fx0 F) 1 (by decide) fl_X7_19 rfl (fl0_1 F) dX7_share_6 ?_
    refine g_calli (st := [.int (iI set)]) X (c_X2_all l G 2 w (fx2 F)) cm_X2_all im_X2_all se_X2_all ml_X7_212 ck_X2 (fx2 F) ⟨Nat.le_of_ble_eq_true rfl, Nat.le_of_ble_eq_true rfl⟩ rfl rfl (Nat.le_of_ble_eq_true rfl) dX7_share_9 (fn_i ?_)
    refine g_icmp_gt (tgt := 35) X dX7_share_12 (by decide) (by exact hr_set) (by unfold InR; omega) (fun c_12 => ?_) (fun c_12 => ?_)
    · skip
      refine g_iconst X dX7_share_35 ?_
      exact g_iret X rfl rfl dX7_share_36 (by
          refine ⟨fun _ _ => rfl, hC2, fun _ => rfl, fun h => absurd h ?_, fun h => absurd h ?_⟩ <;> first
          | exact fun h => of_zero c_19 h.2.1
          | (intro h; omega)
          | exact fun h => h.2.2.elim c_24 (of_zero c_32))
    · skip
      refine g_iload_n X dX7_share_15 rfl 2 rfl ?_
      refine g_callsi (st := []) X (c_X7_isLoad l G load w (by first | assumption | omega | (unfold InR; omega))) cm_X7_isLoad sm_X7_isLoad ml_X7_215 ⟨Nat.le_of_ble_eq_true rfl, Nat.le_of_ble_eq_true rfl⟩ rfl rfl (Nat.le_of_ble_eq_true rfl) dX7_share_16 (fn_i ?_)
      refine g_if_eq (tgt := 35) X dX7_share_19 (by decide) (by exact in01) (fun c_19 => ?_) (fun c_19 => ?_)
      · skip
        refine g_iconst X dX7_share_35 ?_
        exact g_iret X rfl rfl dX7_share_36 (by
            refine ⟨fun _ _ => rfl, hC2, fun _ => rfl, fun h => absurd h ?_, fun h => absurd h ?_⟩ <;> first
            | exact fun h => of_zero c_19 h.2.1
            | (intro h; omega)
            | exact fun h => h.2.2.elim c_24 (of_zero c_32))
      · skip
        refine g_iload_n X dX7_share_22 rfl 3 rfl ?_
        refine g_iconst X dX7_share_23 ?_
        refine g_cut1 (pc' := 37) (fun (d_ : Int) => [(0, .ref (gAd G 0)), (1, .int (iI set)), (2, .int (iI load)), (3, .int (iI m))]) (fun (d_ : Int) => []) (fun (d_ : Int) => w) (fun (d_ : Int) => (m = -1 ∨ (0 ≤ m ∧ m < w 2 0 0))) ?_ ?_
        · intro d_ hI_37
          have hmk := hI_37
          try dsimp only at hmk ⊢
          refine g_aload_n X dX7_share_37 rfl 0 rfl ?_
          refine g_geto (o' := 12) X ck_X7 (fx0 F) 6 (by decide) fl_X7_52 rfl (fl0_6 F) dX7_share_38 ?_
          refine g_iload_n X dX7_share_41 rfl 1 rfl ?_
          refine g_iload_n X dX7_share_42 rfl 2 rfl ?_
          refine g_aload_n X dX7_share_43 rfl 0 rfl ?_
          refine g_geto (o' := 3) X ck_X7 (fx0 F) 2 (by decide) fl_X7_26 rfl (fl0_2 F) dX7_share_44 ?_
          refine g_calli (st := [.int (iI load), .int (iI set), .ref (gAd G 12)]) X (c_X6_lift l G 3 w (fx3 F) (by unfold InR; omega)) cm_X6_lift im_X6_lift se_X6_lift ml_X7_218 ck_X6 (fx3 F) ⟨Nat.le_of_ble_eq_true rfl, Nat.le_of_ble_eq_true rfl⟩ rfl rfl (Nat.le_of_ble_eq_true rfl) dX7_share_47 (fn_i ?_)
          refine g_calli (st := []) X (c_X4_find l G 12 set load (max 0 (w 3 0 2 - w 3 0 3)) w (fx12 F) (fx2 F) (fl12_0 F) (by first | assumption | omega | (unfold InR; omega)) (by first | assumption | omega | (unfold InR; omega)) (by omega) (by exact of_one c_19) (by omega) (by first | assumption | omega | (unfold InR; omega))) cm_X4_find im_X4_find se_X4_find ml_X7_221 ck_X4 (fx12 F) ⟨Nat.le_of_ble_eq_true rfl, Nat.le_of_ble_eq_true rfl⟩ rfl rfl (Nat.le_of_ble_eq_true rfl) dX7_share_50 ?_
          rintro z_50 u_50 ⟨hfr, hsc, hz⟩
          refine g_if_ne (tgt := 59) X dX7_share_53 (by decide) (by rcases hz with h | h <;> rw [h.1] <;> exact ⟨by decide, by decide⟩) (fun c_53 => ?_) (fun c_53 => ?_)
          · skip
            refine g_iload_n X dX7_share_59 rfl 3 rfl ?_
            refine g_iconst X dX7_share_60 ?_
            refine g_icmp_ne (tgt := 74) X dX7_share_61 (by decide) (by exact hr_m) ⟨by decide, by decide⟩ (fun c_61 => ?_) (fun c_61 => ?_)
            · skip
              refine g_aload_n X dX7_share_74 rfl 0 rfl ?_
              refine g_geto (o' := 12) X ck_X7 (fx0 F) 6 (by decide) fl_X7_52 rfl (fl0_6 F) dX7_share_75 ?_
              refine g_iload_n X dX7_share_78 rfl 3 rfl ?_
              refine g_calli (st := []) X (c_X4_part l G 12 m u_50 (fx12 F) (by rcases hz with q | q; (rw [q.2.2.2.2.1]; exact of_one c_19); exact absurd q.1 c_53)) cm_X4_part im_X4_part se_X4_part ml_X7_228 ck_X4 (fx12 F) ⟨Nat.le_of_ble_eq_true rfl, Nat.le_of_ble_eq_true rfl⟩ rfl rfl (Nat.le_of_ble_eq_true rfl) dX7_share_79 (fn_i ?_)
              exact g_iret X rfl rfl dX7_share_82 (by
                  have hld := of_one c_19
                  rcases hz with q | q
                  · obtain ⟨-, hcan, g3, g4, g5, g6⟩ := q
                    refine ⟨fun o2 h => by funext f j; exact hfr o2 f j h, hsc, fun h => absurd ⟨⟨by omega, by omega⟩, hld, hmk⟩ h, fun _ h => absurd hcan h, fun _ _ => ?_⟩
                    rcases hsc with k | k
                    · omega
                    · have hb := k.2.2.2.2.2
                      have hv := best_rng hp k.2.2.2.1 (by omega) hb
                      rw [g4, g6, g5] at hb
                      have g5' : u_50 12 5 0 = load := g5
                      rw [g5'] at hv ⊢
                      refine ⟨_, hb, ?_⟩
                      first
                      | (rw [if_pos c_61]; exact (pow_l hv.1 hv.2).1)
                      | (rw [if_pos (Classical.not_not.mp c_61)]; exact (pow_l hv.1 hv.2).1)
                      | (rw [if_neg c_61]; rcases hmk with h | h; exact absurd h c_61; exact prt_l hv.1 hv.2 h.1 (by omega))
                  · exact absurd q.1 c_53)
            · skip
              refine g_aload_n X dX7_share_64 rfl 0 rfl ?_
              refine g_geto (o' := 12) X ck_X7 (fx0 F) 6 (by decide) fl_X7_52 rfl (fl0_6 F) dX7_share_65 ?_
              refine g_calli (st := []) X (c_X4_leastPower l G 12 u_50 (fx12 F) (by rcases hz with q | q; (rw [q.2.2.2.2.1]; exact of_one c_19); exact absurd q.1 c_53)) cm_X4_leastPower im_X4_leastPower se_X4_leastPower ml_X7_225 ck_X4 (fx12 F) ⟨Nat.le_of_ble_eq_true rfl, Nat.le_of_ble_eq_true rfl⟩ rfl rfl (Nat.le_of_ble_eq_true rfl) dX7_share_68 (fn_i ?_)
              refine g_goto (tgt := 82) X dX7_share_71 (by decide) ?_
              exact g_iret X rfl rfl dX7_share_82 (by
                  have hld := of_one c_19
                  rcases hz with q | q
                  · obtain ⟨-, hcan, g3, g4, g5, g6⟩ := q
                    refine ⟨fun o2 h => by funext f j; exact hfr o2 f j h, hsc, fun h => absurd ⟨⟨by omega, by omega⟩, hld, hmk⟩ h, fun _ h => absurd hcan h, fun _ _ => ?_⟩
                    rcases hsc with k | k
                    · omega
                    · have hb := k.2.2.2.2.2
                      have hv := best_rng hp k.2.2.2.1 (by omega) hb
                      rw [g4, g6, g5] at hb
                      have g5' : u_50 12 5 0 = load := g5
                      rw [g5'] at hv ⊢
                      refine ⟨_, hb, ?_⟩
                      first
                      | (rw [if_pos c_61]; exact (pow_l hv.1 hv.2).1)
                      | (rw [if_pos (Classical.not_not.mp c_61)]; exact (pow_l hv.1 hv.2).1)
                      | (rw [if_neg c_61]; rcases hmk with h | h; exact absurd h c_61; exact prt_l hv.1 hv.2 h.1 (by omega))
                  · exact absurd q.1 c_53)
          · skip
            refine g_bipush X dX7_share_56 (by decide) ?_
            exact g_iret X rfl rfl dX7_share_58 (by
                have hld := of_one c_19
                refine ⟨fun o2 h => by funext f j; exact hfr o2 f j h, hsc, fun h => absurd ⟨⟨by omega, by omega⟩, hld, hmk⟩ h, fun _ _ => rfl, fun _ h => ?_⟩
                rcases hz with q | q
                · exact absurd (q.1.symm.trans (Classical.not_not.mp c_53)) (by decide)
                · exact absurd h q.2)
        · intro J_37
          try dsimp only at J_37
          refine g_icmp_eq (tgt := 37) X dX7_share_24 (by decide) (by exact hr_m) ⟨by decide, by decide⟩ (fun c_24 => ?_) (fun c_24 => ?_)
          · skip
            refine g_lv (lv' := [(0, .ref (gAd G 0)), (1, .int (iI set)), (2, .int (iI load)), (3, .int (iI m))]) [0, 1, 2, 3] rfl ?_
            exact J_37 0 (by first | exact Or.inl (by omega) | exact Or.inr (of_one c_32))
          · skip
            refine g_aload_n X dX7_share_27 rfl 0 rfl ?_
            refine g_iload_n X dX7_share_28 rfl 3 rfl ?_
            refine g_calli (st := []) X (c_X7_isMachine l G m w F (by first | assumption | omega | (unfold InR; omega)) (by first | assumption | omega | (unfold InR; omega))) cm_X7_isMachine im_X7_isMachine se_X7_isMachine ml_X7_121 ck_X7 (fx0 F) ⟨Nat.le_of_ble_eq_true rfl, Nat.le_of_ble_eq_true rfl⟩ rfl rfl (Nat.le_of_ble_eq_true rfl) dX7_share_29 (fn_i ?_)
            refine g_if_ne (tgt := 37) X dX7_share_32 (by decide) (by exact in01) (fun c_32 => ?_) (fun c_32 => ?_)
            · skip
              refine g_lv (lv' := [(0, .ref (gAd G 0)), (1, .int (iI set)), (2, .int (iI load)), (3, .int (iI m))]) [0, 1, 2, 3] rfl ?_
              exact J_37 0 (by first | exact Or.inl (by omega) | exact Or.inr (of_one c_32))
            · skip
              refine g_iconst X dX7_share_35 ?_
              exact g_iret X rfl rfl dX7_share_36 (by
                  refine ⟨fun _ _ => rfl, hC2, fun _ => rfl, fun h => absurd h ?_, fun h => absurd h ?_⟩ <;> first
                  | exact fun h => of_zero c_19 h.2.1
                  | (intro h; omega)
                  | exact fun h => h.2.2.elim c_24 (of_zero c_32))
set_option maxHeartbeats 4000000 in
set_option maxRecDepth 100000 in
theorem c_X7_best (l : Launch) (G : Ly) (load : Int) (what : Int) (w : Wd) (F : FX G) (hX : XI w) (hr_load : InR load) (hr_what : InR what) : Mi l yX7_best cX7_best 3 (some .int) 4 93 G [.ref (gAd G 0), .int (iI load), .int (iI what)] w (fun z w2 => (∀ o2, o2 ≠ 13 → w2 o2 = w o2) ∧ BsC (w 2) (w2 13) ∧ (¬ ((0 ≤ load ∧ load ≤ 480) ∧ 0 ≤ what ∧ what ≤ 1) → z = -1) ∧ (((0 ≤ load ∧ load ≤ 480) ∧ 0 ≤ what ∧ what ≤ 1) → ∃ v, BestS (w 2) (bkX (w 2) (liftX (w 3))) (openX w) (w 2 0 0).toNat load v ∧ z = if v < 1073741824 then (if what = 0 then band v 63 else bshr v 9) else -4)) := by
  refine mi_of (lv := [(0, .ref (gAd G 0)), (1, .int (iI load)), (2, .int (iI what))]) (by decide) (Nat.le_of_ble_eq_true rfl) rfl ?_
  intro p_ e_ s_ m_ b_ h_ c_ X
  obtain ⟨hp, hS, htk, hcl, ⟨hnx, hhd⟩, ⟨hC1, hC2, hC3⟩, ⟨hL, hT, hN⟩⟩ := id hX
  have hp0 := hp.1
  have sT := hS.1
  have sB := hS.2.1
  have sC := hS.2.2.1
  have sD := hS.2.2.2.1
  have sE := hS.2.2.2.2.1
  have sF := hS.2.2.2.2.2.1
  have hrun := bt_or (s := w 3 6 0) (t := w 3 7 0) (by omega) (by omega) (by omega) (by omega)
  have hopn := open_in hp sC.1
  have hall := bt_all (w 2 0 0) (by omega) (by omega)
  have hlf0 : 0 ≤ liftX (w 3) ∧ liftX (w 3) ≤ 45 := by unfold liftX; omega
  refine g_iload_n X dX7_best_0 rfl 1 rfl ?_
  refine g_callsi (st := []) X (c_X7_isLoad l G load w (by first | assumption | omega | (unfold InR; omega))) cm_X7_isLoad sm_X7_isLoad ml_X7_215 ⟨Nat.le_of_ble_eq_true rfl, Nat.le_of_ble_eq_true rfl⟩ rfl rfl (Nat.le_of_ble_eq_true rfl) dX7_best_1 (fn_i ?_)
  refine g_if_eq (tgt := 16) X dX7_best_4 (by decide) (by exact in01) (fun c_4 => ?_) (fun c_4 => ?_)
  · skip
    refine g_iconst X dX7_best_16 ?_
    exact g_iret X rfl rfl dX7_best_17 (by refine ⟨fun _ _ => rfl, hC3, fun _ => rfl, fun h => absurd h ?_⟩; first | exact fun h => of_zero c_4 h.1 | (intro h; omega))
  · skip
    refine g_iload_n X dX7_best_7 rfl 2 rfl ?_
    refine g_if_lt (tgt := 16) X dX7_best_8 (by decide) (by exact hr_what) (fun c_8 => ?_) (fun c_8 => ?_)
    · skip
      refine g_iconst X dX7_best_16 ?_
      exact g_iret X rfl rfl dX7_best_17 (by refine ⟨fun _ _ => rfl, hC3, fun _ => rfl, fun h => absurd h ?_⟩; first | exact fun h => of_zero c_4 h.1 | (intro h; omega))
    · skip
      refine g_iload_n X dX7_best_11 rfl 2 rfl ?_
      refine g_iconst X dX7_best_12 ?_
      refine g_icmp_le (tgt := 18) X dX7_best_13 (by decide) (by exact hr_what) ⟨by decide, by decide⟩ (fun c_13 => ?_) (fun c_13 => ?_)
      · skip
        refine g_aload_n X dX7_best_18 rfl 0 rfl ?_
        refine g_geto (o' := 13) X ck_X7 (fx0 F) 7 (by decide) fl_X7_59 rfl (fl0_7 F) dX7_best_19 ?_
        refine g_aload_n X dX7_best_22 rfl 0 rfl ?_
        refine g_geto (o' := 2) X ck_X7 (fx0 F) 1 (by decide) fl_X7_19 rfl (fl0_1 F) dX7_best_23 ?_
        refine g_calli (st := [.ref (gAd G 13)]) X (c_X2_all l G 2 w (fx2 F)) cm_X2_all im_X2_all se_X2_all ml_X7_212 ck_X2 (fx2 F) ⟨Nat.le_of_ble_eq_true rfl, Nat.le_of_ble_eq_true rfl⟩ rfl rfl (Nat.le_of_ble_eq_true rfl) dX7_best_26 (fn_i ?_)
        refine g_aload_n X dX7_best_29 rfl 0 rfl ?_
        refine g_geto (o' := 3) X ck_X7 (fx0 F) 2 (by decide) fl_X7_26 rfl (fl0_2 F) dX7_best_30 ?_
        refine g_geti X ck_X6 (fx3 F) 5 (by decide) fl_X7_125 (Or.inl rfl) dX7_best_33 ?_
        refine g_iconst X dX7_best_36 ?_
        refine g_ixor X dX7_best_37 ?_
        refine g_iand X dX7_best_38 ?_
        refine g_aload_n X dX7_best_39 rfl 0 rfl ?_
        refine g_geto (o' := 3) X ck_X7 (fx0 F) 2 (by decide) fl_X7_26 rfl (fl0_2 F) dX7_best_40 ?_
        refine g_calli (st := [.int (iI (band (bshl 1 (w 2 0 0) - 1) (bxor (w 3 5 0) (-1)))), .ref (gAd G 13)]) X (c_X6_lift l G 3 w (fx3 F) (by unfold InR; omega)) cm_X6_lift im_X6_lift se_X6_lift ml_X7_218 ck_X6 (fx3 F) ⟨Nat.le_of_ble_eq_true rfl, Nat.le_of_ble_eq_true rfl⟩ rfl rfl (Nat.le_of_ble_eq_true rfl) dX7_best_43 (fn_i ?_)
        refine g_callv (st := []) X (c_X0_reckon l G 13 (band (bshl 1 (w 2 0 0) - 1) (bxor (w 3 5 0) (-1))) (max 0 (w 3 0 2 - w 3 0 3)) w (fx13 F) (fx2 F) (fl13_0 F) (by first | assumption | omega | (unfold InR; omega)) (by first | assumption | omega | (unfold InR; omega)) (by exact hopn) (by omega) (by first | assumption | omega | (unfold InR; omega))) cm_X0_reckon im_X0_reckon se_X0_reckon ml_X7_231 ck_X0 (fx13 F) ⟨Nat.le_of_ble_eq_true rfl, Nat.le_of_ble_eq_true rfl⟩ rfl rfl (Nat.le_of_ble_eq_true rfl) dX7_best_46 ?_
        rintro u_46 ⟨hfr, hsc, hz⟩
        have hld := of_one c_4
        have hv := hz load hld.1 hld.2
        have hvr := bsv hp hlf0 (by omega) hv
        refine g_aload_n X dX7_best_49 rfl 0 rfl ?_
        refine g_geto (o' := 13) X ck_X7 (fx0 F) 7 (by decide) fl_X7_59 rfl (fl0_7 F) dX7_best_50 ?_
        refine g_iload_n X dX7_best_53 rfl 1 rfl ?_
        refine g_calli (st := []) X (c_X0_has l G 13 load u_46 (fx13 F) (by exact hld) (by unfold InR; omega)) cm_X0_has im_X0_has se_X0_has ml_X7_235 ck_X0 (fx13 F) ⟨Nat.le_of_ble_eq_true rfl, Nat.le_of_ble_eq_true rfl⟩ rfl rfl (Nat.le_of_ble_eq_true rfl) dX7_best_54 (fn_i ?_)
        refine g_if_ne (tgt := 63) X dX7_best_57 (by decide) (by split <;> exact ⟨by decide, by decide⟩) (fun c_57 => ?_) (fun c_57 => ?_)
        · skip
          refine g_iload_n X dX7_best_63 rfl 2 rfl ?_
          refine g_if_ne (tgt := 78) X dX7_best_64 (by decide) (by exact hr_what) (fun c_64 => ?_) (fun c_64 => ?_)
          · skip
            refine g_aload_n X dX7_best_78 rfl 0 rfl ?_
            refine g_geto (o' := 13) X ck_X7 (fx0 F) 7 (by decide) fl_X7_59 rfl (fl0_7 F) dX7_best_79 ?_
            refine g_iload_n X dX7_best_82 rfl 1 rfl ?_
            refine g_calli (st := []) X (c_X0_leastPower l G 13 load u_46 (fx13 F) (by exact hld)) cm_X0_leastPower im_X0_leastPower se_X0_leastPower ml_X7_241 ck_X0 (fx13 F) ⟨Nat.le_of_ble_eq_true rfl, Nat.le_of_ble_eq_true rfl⟩ rfl rfl (Nat.le_of_ble_eq_true rfl) dX7_best_83 (fn_i ?_)
            exact g_iret X rfl rfl dX7_best_86 (by
                refine ⟨fun o2 h => by funext f j; exact hfr o2 f j h, hsc, fun h => absurd ⟨hld, by omega, by omega⟩ h, fun _ => ⟨_, hv, ?_⟩⟩
                have hlt : u_46 13 1 load.toNat < 1073741824 := by
                  rcases Int.lt_or_le (u_46 13 1 load.toNat) 1073741824 with h | h
                  · exact h
                  · rw [if_neg (by omega)] at c_57; exact absurd rfl c_57
                rw [if_pos hlt]
                first
                | rw [if_pos c_64]
                | rw [if_neg c_64]
                | rw [if_pos (Classical.not_not.mp c_64)])
          · skip
            refine g_aload_n X dX7_best_67 rfl 0 rfl ?_
            refine g_geto (o' := 13) X ck_X7 (fx0 F) 7 (by decide) fl_X7_59 rfl (fl0_7 F) dX7_best_68 ?_
            refine g_iload_n X dX7_best_71 rfl 1 rfl ?_
            refine g_calli (st := []) X (c_X0_setFor l G 13 load u_46 (fx13 F) (by exact hld)) cm_X0_setFor im_X0_setFor se_X0_setFor ml_X7_238 ck_X0 (fx13 F) ⟨Nat.le_of_ble_eq_true rfl, Nat.le_of_ble_eq_true rfl⟩ rfl rfl (Nat.le_of_ble_eq_true rfl) dX7_best_72 (fn_i ?_)
            refine g_goto (tgt := 86) X dX7_best_75 (by decide) ?_
            exact g_iret X rfl rfl dX7_best_86 (by
                refine ⟨fun o2 h => by funext f j; exact hfr o2 f j h, hsc, fun h => absurd ⟨hld, by omega, by omega⟩ h, fun _ => ⟨_, hv, ?_⟩⟩
                have hlt : u_46 13 1 load.toNat < 1073741824 := by
                  rcases Int.lt_or_le (u_46 13 1 load.toNat) 1073741824 with h | h
                  · exact h
                  · rw [if_neg (by omega)] at c_57; exact absurd rfl c_57
                rw [if_pos hlt]
                first
                | rw [if_pos c_64]
                | rw [if_neg c_64]
                | rw [if_pos (Classical.not_not.mp c_64)])
        · skip
          refine g_bipush X dX7_best_60 (by decide) ?_
          exact g_iret X rfl rfl dX7_best_62 (by
              refine ⟨fun o2 h => by funext f j; exact hfr o2 f j h, hsc, fun h => absurd ⟨hld, by omega, by omega⟩ h, fun _ => ⟨_, hv, ?_⟩⟩
              rw [if_neg]
              intro h
              rw [if_pos h] at c_57
              exact absurd c_57 (by decide))
      · skip
        refine g_iconst X dX7_best_16 ?_
        exact g_iret X rfl rfl dX7_best_17 (by refine ⟨fun _ _ => rfl, hC3, fun _ => rfl, fun h => absurd h ?_⟩; first | exact fun h => of_zero c_4 h.1 | (intro h; omega))
set_option maxHeartbeats 4000000 in
set_option maxRecDepth 100000 in
theorem c_X7_aboveBest (l : Launch) (G : Ly) (load : Int) (w : Wd) (F : FX G) (hX : XI w) (hld : 0 ≤ load ∧ load ≤ 480) : Mi l yX7_aboveBest cX7_aboveBest 2 (some .int) 5 119 G [.ref (gAd G 0), .int (iI load)] w (fun z w2 => (∀ o2, o2 ≠ 11 → o2 ≠ 13 → w2 o2 = w o2) ∧ BsC (w 2) (w2 13) ∧ ShC (w 2) (w2 11) ∧ ∃ v, BestS (w 2) (bkX (w 2) (liftX (w 3))) (openX w) (w 2 0 0).toNat load v ∧ (v < 1073741824 → ∃ e, PowX (w 2) (w 3) e ∧ z = e - bshr v 9) ∧ (¬ v < 1073741824 → z = -4)) := by
  refine mi_of (lv := [(0, .ref (gAd G 0)), (1, .int (iI load))]) (by decide) (Nat.le_of_ble_eq_true rfl) rfl ?_
  intro p_ e_ s_ m_ b_ h_ c_ X
  obtain ⟨hp, hS, htk, hcl, ⟨hnx, hhd⟩, ⟨hC1, hC2, hC3⟩, ⟨hL, hT, hN⟩⟩ := id hX
  have hp0 := hp.1
  have sT := hS.1
  have sB := hS.2.1
  have sC := hS.2.2.1
  have sD := hS.2.2.2.1
  have sE := hS.2.2.2.2.1
  have sF := hS.2.2.2.2.2.1
  have hrun := bt_or (s := w 3 6 0) (t := w 3 7 0) (by omega) (by omega) (by omega) (by omega)
  have hopn := open_in hp sC.1
  have hall := bt_all (w 2 0 0) (by omega) (by omega)
  have hlf0 : 0 ≤ liftX (w 3) ∧ liftX (w 3) ≤ 45 := by unfold liftX; omega
  have hpx := made_can (u := w 3) hp
  refine g_aload_n X dX7_aboveBest_0 rfl 0 rfl ?_
  refine g_geto (o' := 13) X ck_X7 (fx0 F) 7 (by decide) fl_X7_59 rfl (fl0_7 F) dX7_aboveBest_1 ?_
  refine g_aload_n X dX7_aboveBest_4 rfl 0 rfl ?_
  refine g_geto (o' := 2) X ck_X7 (fx0 F) 1 (by decide) fl_X7_19 rfl (fl0_1 F) dX7_aboveBest_5 ?_
  refine g_calli (st := [.ref (gAd G 13)]) X (c_X2_all l G 2 w (fx2 F)) cm_X2_all im_X2_all se_X2_all ml_X7_212 ck_X2 (fx2 F) ⟨Nat.le_of_ble_eq_true rfl, Nat.le_of_ble_eq_true rfl⟩ rfl rfl (Nat.le_of_ble_eq_true rfl) dX7_aboveBest_8 (fn_i ?_)
  refine g_aload_n X dX7_aboveBest_11 rfl 0 rfl ?_
  refine g_geto (o' := 3) X ck_X7 (fx0 F) 2 (by decide) fl_X7_26 rfl (fl0_2 F) dX7_aboveBest_12 ?_
  refine g_geti X ck_X6 (fx3 F) 5 (by decide) fl_X7_125 (Or.inl rfl) dX7_aboveBest_15 ?_
  refine g_iconst X dX7_aboveBest_18 ?_
  refine g_ixor X dX7_aboveBest_19 ?_
  refine g_iand X dX7_aboveBest_20 ?_
  refine g_aload_n X dX7_aboveBest_21 rfl 0 rfl ?_
  refine g_geto (o' := 3) X ck_X7 (fx0 F) 2 (by decide) fl_X7_26 rfl (fl0_2 F) dX7_aboveBest_22 ?_
  refine g_calli (st := [.int (iI (band (bshl 1 (w 2 0 0) - 1) (bxor (w 3 5 0) (-1)))), .ref (gAd G 13)]) X (c_X6_lift l G 3 w (fx3 F) (by unfold InR; omega)) cm_X6_lift im_X6_lift se_X6_lift ml_X7_218 ck_X6 (fx3 F) ⟨Nat.le_of_ble_eq_true rfl, Nat.le_of_ble_eq_true rfl⟩ rfl rfl (Nat.le_of_ble_eq_true rfl) dX7_aboveBest_25 (fn_i ?_)
  refine g_callv (st := []) X (c_X0_reckon l G 13 (band (bshl 1 (w 2 0 0) - 1) (bxor (w 3 5 0) (-1))) (max 0 (w 3 0 2 - w 3 0 3)) w (fx13 F) (fx2 F) (fl13_0 F) (by first | assumption | omega | (unfold InR; omega)) (by first | assumption | omega | (unfold InR; omega)) (by exact hopn) (by omega) (by first | assumption | omega | (unfold InR; omega))) cm_X0_reckon im_X0_reckon se_X0_reckon ml_X7_231 ck_X0 (fx13 F) ⟨Nat.le_of_ble_eq_true rfl, Nat.le_of_ble_eq_true rfl⟩ rfl rfl (Nat.le_of_ble_eq_true rfl) dX7_aboveBest_28 ?_
  rintro u_28 ⟨hfr, hsc, hz⟩
  have hv := hz load hld.1 hld.2
  have hvr := bsv hp hlf0 (by omega) hv
  have e2 : u_28 2 = w 2 := by funext f j; exact hfr 2 f j (by decide)
  have e3 : u_28 3 = w 3 := by funext f j; exact hfr 3 f j (by decide)
  have e11 : u_28 11 = w 11 := by funext f j; exact hfr 11 f j (by decide)
  refine g_aload_n X dX7_aboveBest_31 rfl 0 rfl ?_
  refine g_geto (o' := 13) X ck_X7 (fx0 F) 7 (by decide) fl_X7_59 rfl (fl0_7 F) dX7_aboveBest_32 ?_
  refine g_iload_n X dX7_aboveBest_35 rfl 1 rfl ?_
  refine g_calli (st := []) X (c_X0_has l G 13 load u_28 (fx13 F) (by exact hld) (by unfold InR; omega)) cm_X0_has im_X0_has se_X0_has ml_X7_235 ck_X0 (fx13 F) ⟨Nat.le_of_ble_eq_true rfl, Nat.le_of_ble_eq_true rfl⟩ rfl rfl (Nat.le_of_ble_eq_true rfl) dX7_aboveBest_36 (fn_i ?_)
  refine g_if_eq (tgt := 65) X dX7_aboveBest_39 (by decide) (by split <;> exact ⟨by decide, by decide⟩) (fun c_39 => ?_) (fun c_39 => ?_)
  · skip
    refine g_bipush X dX7_aboveBest_65 (by decide) ?_
    exact g_iret X rfl rfl dX7_aboveBest_67 (by
        first
        | (have hnl : ¬ u_28 13 1 load.toNat < 1073741824 := (by intro h; rw [if_pos h] at c_39; exact absurd c_39 (by decide))
           exact ⟨fun o2 _ h => (by funext f j; exact hfr o2 f j h), hsc, (by rw [e11]; exact hC1), _, hv, fun h => absurd h hnl, fun _ => rfl⟩)
        | (have hlt : u_28 13 1 load.toNat < 1073741824 := (by
             rcases Int.lt_or_le (u_28 13 1 load.toNat) 1073741824 with h | h
             exact h
             rw [if_neg (by omega)] at c_39
             exact absurd rfl c_39)
           obtain ⟨q1, q2, q3⟩ := h_50
           rw [e2] at q2 q3
           rw [e3] at q3
           refine ⟨fun o2 a b => (by funext f j; rw [q1 o2 f j a]; exact hfr o2 f j b), ?_, q2, _, hv, fun _ => ⟨_, q3, ?_⟩, fun h => absurd hlt h⟩
           (show BsC (w 2) (u_50 13))
           rw [show u_50 13 = u_28 13 from (by funext f j; exact q1 13 f j (by decide))]
           exact hsc
           rw [q1 13 1 load.toNat (by decide)]))
  · skip
    refine g_aload_n X dX7_aboveBest_42 rfl 0 rfl ?_
    refine g_geto (o' := 10) X ck_X7 (fx0 F) 5 (by decide) fl_X7_45 rfl (fl0_5 F) dX7_aboveBest_43 ?_
    refine g_aload_n X dX7_aboveBest_46 rfl 0 rfl ?_
    refine g_geto (o' := 3) X ck_X7 (fx0 F) 2 (by decide) fl_X7_26 rfl (fl0_2 F) dX7_aboveBest_47 ?_
    refine g_calli (st := []) X (c_X5_powerNow l G 3 (9 * w 3 1 0) u_28 F (fx3 F) (by rw [e2]; exact hp) (by rw [e2, e3]; exact hS) (by first | assumption | omega | (unfold InR; omega)) (by rw [e2, e11]; exact hC1)) cm_X5_powerNow im_X5_powerNow se_X5_powerNow ml_X7_252 ck_X5 (fx10 F) ⟨Nat.le_of_ble_eq_true rfl, Nat.le_of_ble_eq_true rfl⟩ rfl rfl (Nat.le_of_ble_eq_true rfl) dX7_aboveBest_50 ?_
    rintro z_50 u_50 h_50
    refine g_aload_n X dX7_aboveBest_53 rfl 0 rfl ?_
    refine g_geto (o' := 13) X ck_X7 (fx0 F) 7 (by decide) fl_X7_59 rfl (fl0_7 F) dX7_aboveBest_54 ?_
    refine g_iload_n X dX7_aboveBest_57 rfl 1 rfl ?_
    refine g_calli (st := [.int (iI z_50)]) X (c_X0_leastPower l G 13 load u_50 (fx13 F) (by exact hld)) cm_X0_leastPower im_X0_leastPower se_X0_leastPower ml_X7_241 ck_X0 (fx13 F) ⟨Nat.le_of_ble_eq_true rfl, Nat.le_of_ble_eq_true rfl⟩ rfl rfl (Nat.le_of_ble_eq_true rfl) dX7_aboveBest_58 (fn_i ?_)
    refine g_isub X dX7_aboveBest_61 ?_
    refine g_goto (tgt := 67) X dX7_aboveBest_62 (by decide) ?_
    exact g_iret X rfl rfl dX7_aboveBest_67 (by
        first
        | (have hnl : ¬ u_28 13 1 load.toNat < 1073741824 := (by intro h; rw [if_pos h] at c_39; exact absurd c_39 (by decide))
           exact ⟨fun o2 _ h => (by funext f j; exact hfr o2 f j h), hsc, (by rw [e11]; exact hC1), _, hv, fun h => absurd h hnl, fun _ => rfl⟩)
        | (have hlt : u_28 13 1 load.toNat < 1073741824 := (by
             rcases Int.lt_or_le (u_28 13 1 load.toNat) 1073741824 with h | h
             exact h
             rw [if_neg (by omega)] at c_39
             exact absurd rfl c_39)
           obtain ⟨q1, q2, q3⟩ := h_50
           rw [e2] at q2 q3
           rw [e3] at q3
           refine ⟨fun o2 a b => (by funext f j; rw [q1 o2 f j a]; exact hfr o2 f j b), ?_, q2, _, hv, fun _ => ⟨_, q3, ?_⟩, fun h => absurd hlt h⟩
           (show BsC (w 2) (u_50 13))
           rw [show u_50 13 = u_28 13 from (by funext f j; exact q1 13 f j (by decide))]
           exact hsc
           rw [q1 13 1 load.toNat (by decide)]))
set_option maxHeartbeats 4000000 in
set_option maxRecDepth 100000 in
theorem c_X7_now (l : Launch) (G : Ly) (what : Int) (w : Wd) (F : FX G) (hX : XI w) (hr_what : InR what) : Mi l yX7_now cX7_now 4 (some .int) 6 140 G [.ref (gAd G 0), .int (iI what)] w (fun z w2 => (∀ o2, o2 ≠ 11 → o2 ≠ 13 → w2 o2 = w o2) ∧ BsC (w 2) (w2 13) ∧ ShC (w 2) (w2 11) ∧ (what = 0 → z = madeX (w 2) (w 3)) ∧ (what = 1 → z = max 0 (w 3 0 0 - madeX (w 2) (w 3))) ∧ (what = 2 → z = max 0 (madeX (w 2) (w 3) - w 3 0 0)) ∧ (what = 3 → PowX (w 2) (w 3) z) ∧ (what = 4 → z = max 0 (sumB (runX (w 3)) (w 2 6) (w 2 0 0).toNat - w 3 0 1)) ∧ (what = 5 → z = liftX (w 3)) ∧ (what = 6 → (madeX (w 2) (w 3) ≠ w 3 0 0 → z = -4) ∧ (madeX (w 2) (w 3) = w 3 0 0 → ∃ v, BestS (w 2) (bkX (w 2) (liftX (w 3))) (openX w) (w 2 0 0).toNat (w 3 0 0) v ∧ (v < 1073741824 → ∃ e, PowX (w 2) (w 3) e ∧ z = e - bshr v 9) ∧ (¬ v < 1073741824 → z = -4))) ∧ ((what < 0 ∨ 6 < what) → z = -1)) := by
  refine mi_of (lv := [(0, .ref (gAd G 0)), (1, .int (iI what))]) (by decide) (Nat.le_of_ble_eq_true rfl) rfl ?_
  intro p_ e_ s_ m_ b_ h_ c_ X
  obtain ⟨hp, hS, htk, hcl, ⟨hnx, hhd⟩, ⟨hC1, hC2, hC3⟩, ⟨hL, hT, hN⟩⟩ := id hX
  have hp0 := hp.1
  have sT := hS.1
  have sB := hS.2.1
  have sC := hS.2.2.1
  have sD := hS.2.2.2.1
  have sE := hS.2.2.2.2.1
  have sF := hS.2.2.2.2.2.1
  have hrun := bt_or (s := w 3 6 0) (t := w 3 7 0) (by omega) (by omega) (by omega) (by omega)
  have hopn := open_in hp sC.1
  have hpx := (made_can (u := w 3) hp).2 (by omega) (by omega)
  have hflw := pv_flow hp (bor (w 3 6 0) (w 3 7 0))
  refine g_aload_n X dX7_now_0 rfl 0 rfl ?_
  refine g_geto (o' := 3) X ck_X7 (fx0 F) 2 (by decide) fl_X7_26 rfl (fl0_2 F) dX7_now_1 ?_
  refine g_geta X ck_X6 (fx3 F) 0 (by decide) fl_X7_114 rfl dX7_now_4 ?_
  refine g_iconst X dX7_now_7 ?_
  refine h_iald (a := 0) (j := 0) X rfl (fx3 F) (by decide) (show fkX 6 0 = (1, 4) from rfl) (by decide) (by omega) (by omega) dX7_now_8 ?_
  refine g_istore_n (lv' := [(2, .int (iI (w 3 0 0))), (0, .ref (gAd G 0)), (1, .int (iI what))]) X dX7_now_9 rfl (by decide) rfl ?_
  refine g_aload_n X dX7_now_10 rfl 1 rfl ?_
  refine g_geto (o' := 10) X ck_X7 (fx0 F) 5 (by decide) fl_X7_45 rfl (fl0_5 F) dX7_now_11 ?_
  refine g_aload_n X dX7_now_14 rfl 1 rfl ?_
  refine g_geto (o' := 3) X ck_X7 (fx0 F) 2 (by decide) fl_X7_26 rfl (fl0_2 F) dX7_now_15 ?_
  refine g_calli (st := []) X (c_X5_made l G 3 (9 * w 3 1 0) w F (fx3 F) (by first | assumption | omega | (unfold InR; omega)) (by exact hS) (by first | assumption | omega | (unfold InR; omega))) cm_X5_made im_X5_made se_X5_made ml_X7_243 ck_X5 (fx10 F) ⟨Nat.le_of_ble_eq_true rfl, Nat.le_of_ble_eq_true rfl⟩ rfl rfl (Nat.le_of_ble_eq_true rfl) dX7_now_18 (fn_i ?_)
  refine g_istore_n (lv' := [(3, .int (iI (madeX (w 2) (w 3)))), (2, .int (iI (w 3 0 0))), (0, .ref (gAd G 0)), (1, .int (iI what))]) X dX7_now_21 rfl (by decide) rfl ?_
  refine g_iload_n X dX7_now_22 rfl 3 rfl ?_
  have hr_23 : InR what := (by exact hr_what)
  by_cases hs_23 : what < 0 ∨ 6 < what
  · refine g_tableOut (tgt := 147) X dX7_now_23 hr_23 hs_23 (by decide) ?_
    refine g_iconst X dX7_now_147 ?_
    exact g_iret X rfl rfl dX7_now_148 (by exact ⟨fun _ _ _ => rfl, hC3, hC1, (fun h => absurd h (by omega)), (fun h => absurd h (by omega)), (fun h => absurd h (by omega)), (fun h => absurd h (by omega)), (fun h => absurd h (by omega)), (fun h => absurd h (by omega)), (fun h => absurd h (by omega)), (fun _ => rfl)⟩)
  by_cases hs_23_0 : what = 0
  · refine g_tableIn (off := 41) (tgt := 64) X dX7_now_23 hr_23 (by omega) (by omega) (by rw [hs_23_0]; rfl) (by decide) ?_
    refine g_iload_n X dX7_now_64 rfl 0 rfl ?_
    exact g_iret X rfl rfl dX7_now_65 (by exact ⟨fun _ _ _ => rfl, hC3, hC1, (fun _ => rfl), (fun h => absurd h (by omega)), (fun h => absurd h (by omega)), (fun h => absurd h (by omega)), (fun h => absurd h (by omega)), (fun h => absurd h (by omega)), (fun h => absurd h (by omega)), (fun h => absurd h (by omega))⟩)
  by_cases hs_23_1 : what = 1
  · refine g_tableIn (off := 43) (tgt := 66) X dX7_now_23 hr_23 (by omega) (by omega) (by rw [hs_23_1]; rfl) (by decide) ?_
    refine g_iconst X dX7_now_66 ?_
    refine g_iload_n X dX7_now_67 rfl 1 rfl ?_
    refine g_iload_n X dX7_now_68 rfl 0 rfl ?_
    refine g_isub X dX7_now_69 ?_
    refine g_max X ml_X7_247 ⟨by decide, by decide⟩ (by unfold InR; omega) ⟨Nat.le_of_ble_eq_true rfl, Nat.le_of_ble_eq_true rfl⟩ (Nat.le_of_ble_eq_true rfl) dX7_now_70 ?_
    exact g_iret X rfl rfl dX7_now_73 (by exact ⟨fun _ _ _ => rfl, hC3, hC1, (fun h => absurd h (by omega)), (fun _ => rfl), (fun h => absurd h (by omega)), (fun h => absurd h (by omega)), (fun h => absurd h (by omega)), (fun h => absurd h (by omega)), (fun h => absurd h (by omega)), (fun h => absurd h (by omega))⟩)
  by_cases hs_23_2 : what = 2
  · refine g_tableIn (off := 51) (tgt := 74) X dX7_now_23 hr_23 (by omega) (by omega) (by rw [hs_23_2]; rfl) (by decide) ?_
    refine g_iconst X dX7_now_74 ?_
    refine g_iload_n X dX7_now_75 rfl 0 rfl ?_
    refine g_iload_n X dX7_now_76 rfl 1 rfl ?_
    refine g_isub X dX7_now_77 ?_
    refine g_max X ml_X7_247 ⟨by decide, by decide⟩ (by unfold InR; omega) ⟨Nat.le_of_ble_eq_true rfl, Nat.le_of_ble_eq_true rfl⟩ (Nat.le_of_ble_eq_true rfl) dX7_now_78 ?_
    exact g_iret X rfl rfl dX7_now_81 (by exact ⟨fun _ _ _ => rfl, hC3, hC1, (fun h => absurd h (by omega)), (fun h => absurd h (by omega)), (fun _ => rfl), (fun h => absurd h (by omega)), (fun h => absurd h (by omega)), (fun h => absurd h (by omega)), (fun h => absurd h (by omega)), (fun h => absurd h (by omega))⟩)
  by_cases hs_23_3 : what = 3
  · refine g_tableIn (off := 59) (tgt := 82) X dX7_now_23 hr_23 (by omega) (by omega) (by rw [hs_23_3]; rfl) (by decide) ?_
    refine g_aload_n X dX7_now_82 rfl 2 rfl ?_
    refine g_geto (o' := 10) X ck_X7 (fx0 F) 5 (by decide) fl_X7_45 rfl (fl0_5 F) dX7_now_83 ?_
    refine g_aload_n X dX7_now_86 rfl 2 rfl ?_
    refine g_geto (o' := 3) X ck_X7 (fx0 F) 2 (by decide) fl_X7_26 rfl (fl0_2 F) dX7_now_87 ?_
    refine g_calli (st := []) X (c_X5_powerNow l G 3 (9 * w 3 1 0) w F (fx3 F) (by first | assumption | omega | (unfold InR; omega)) (by exact hS) (by first | assumption | omega | (unfold InR; omega)) (by first | assumption | omega | (unfold InR; omega))) cm_X5_powerNow im_X5_powerNow se_X5_powerNow ml_X7_252 ck_X5 (fx10 F) ⟨Nat.le_of_ble_eq_true rfl, Nat.le_of_ble_eq_true rfl⟩ rfl rfl (Nat.le_of_ble_eq_true rfl) dX7_now_90 ?_
    rintro z_90 u_90 h_90
    exact g_iret X rfl rfl dX7_now_93 (by exact ⟨fun o2 a _ => (by funext f j; exact h_90.1 o2 f j a), (by rw [show u_90 13 = w 13 from (by funext f j; exact h_90.1 13 f j (by decide))]; exact hC3), h_90.2.1, (fun h => absurd h (by omega)), (fun h => absurd h (by omega)), (fun h => absurd h (by omega)), (fun _ => h_90.2.2), (fun h => absurd h (by omega)), (fun h => absurd h (by omega)), (fun h => absurd h (by omega)), (fun h => absurd h (by omega))⟩)
  by_cases hs_23_4 : what = 4
  · refine g_tableIn (off := 71) (tgt := 94) X dX7_now_23 hr_23 (by omega) (by omega) (by rw [hs_23_4]; rfl) (by decide) ?_
    refine g_iconst X dX7_now_94 ?_
    refine g_aload_n X dX7_now_95 rfl 2 rfl ?_
    refine g_geto (o' := 2) X ck_X7 (fx0 F) 1 (by decide) fl_X7_19 rfl (fl0_1 F) dX7_now_96 ?_
    refine g_aload_n X dX7_now_99 rfl 2 rfl ?_
    refine g_geto (o' := 3) X ck_X7 (fx0 F) 2 (by decide) fl_X7_26 rfl (fl0_2 F) dX7_now_100 ?_
    refine g_calli (st := [.ref (gAd G 2), .int (iI 0)]) X (c_X6_running l G 3 w (fx3 F)) cm_X6_running im_X6_running se_X6_running ml_X7_141 ck_X6 (fx3 F) ⟨Nat.le_of_ble_eq_true rfl, Nat.le_of_ble_eq_true rfl⟩ rfl rfl (Nat.le_of_ble_eq_true rfl) dX7_now_103 (fn_i ?_)
    refine g_calli (st := [.int (iI 0)]) X (c_X2_flows l G 2 (bor (w 3 6 0) (w 3 7 0)) w (fx2 F) (by omega) (by first | assumption | omega | (unfold InR; omega))) cm_X2_flows im_X2_flows se_X2_flows ml_X7_255 ck_X2 (fx2 F) ⟨Nat.le_of_ble_eq_true rfl, Nat.le_of_ble_eq_true rfl⟩ rfl rfl (Nat.le_of_ble_eq_true rfl) dX7_now_106 (fn_i ?_)
    refine g_aload_n X dX7_now_109 rfl 2 rfl ?_
    refine g_geto (o' := 3) X ck_X7 (fx0 F) 2 (by decide) fl_X7_26 rfl (fl0_2 F) dX7_now_110 ?_
    refine g_geta X ck_X6 (fx3 F) 0 (by decide) fl_X7_114 rfl dX7_now_113 ?_
    refine g_iconst X dX7_now_116 ?_
    refine h_iald (a := 1) (j := 1) X rfl (fx3 F) (by decide) (show fkX 6 0 = (1, 4) from rfl) (by decide) (by omega) (by omega) dX7_now_117 ?_
    refine g_isub X dX7_now_118 ?_
    refine g_max X ml_X7_247 ⟨by decide, by decide⟩ (by unfold InR; omega) ⟨Nat.le_of_ble_eq_true rfl, Nat.le_of_ble_eq_true rfl⟩ (Nat.le_of_ble_eq_true rfl) dX7_now_119 ?_
    exact g_iret X rfl rfl dX7_now_122 (by exact ⟨fun _ _ _ => rfl, hC3, hC1, (fun h => absurd h (by omega)), (fun h => absurd h (by omega)), (fun h => absurd h (by omega)), (fun h => absurd h (by omega)), (fun _ => rfl), (fun h => absurd h (by omega)), (fun h => absurd h (by omega)), (fun h => absurd h (by omega))⟩)
  by_cases hs_23_5 : what = 5
  · refine g_tableIn (off := 100) (tgt := 123) X dX7_now_23 hr_23 (by omega) (by omega) (by rw [hs_23_5]; rfl) (by decide) ?_
    refine g_aload_n X dX7_now_123 rfl 2 rfl ?_
    refine g_geto (o' := 3) X ck_X7 (fx0 F) 2 (by decide) fl_X7_26 rfl (fl0_2 F) dX7_now_124 ?_
    refine g_calli (st := []) X (c_X6_lift l G 3 w (fx3 F) (by unfold InR; omega)) cm_X6_lift im_X6_lift se_X6_lift ml_X7_218 ck_X6 (fx3 F) ⟨Nat.le_of_ble_eq_true rfl, Nat.le_of_ble_eq_true rfl⟩ rfl rfl (Nat.le_of_ble_eq_true rfl) dX7_now_127 (fn_i ?_)
    exact g_iret X rfl rfl dX7_now_130 (by exact ⟨fun _ _ _ => rfl, hC3, hC1, (fun h => absurd h (by omega)), (fun h => absurd h (by omega)), (fun h => absurd h (by omega)), (fun h => absurd h (by omega)), (fun h => absurd h (by omega)), (fun _ => rfl), (fun h => absurd h (by omega)), (fun h => absurd h (by omega))⟩)
  by_cases hs_23_6 : what = 6
  · refine g_tableIn (off := 108) (tgt := 131) X dX7_now_23 hr_23 (by omega) (by omega) (by rw [hs_23_6]; rfl) (by decide) ?_
    refine g_iload_n X dX7_now_131 rfl 0 rfl ?_
    refine g_iload_n X dX7_now_132 rfl 1 rfl ?_
    refine g_icmp_ne (tgt := 144) X dX7_now_133 (by decide) (by unfold InR; omega) (by unfold InR; omega) (fun c_133 => ?_) (fun c_133 => ?_)
    · skip
      refine g_bipush X dX7_now_144 (by decide) ?_
      exact g_iret X rfl rfl dX7_now_146 (by
          first
          | exact ⟨h_138.1, h_138.2.1, h_138.2.2.1, (fun h => absurd h (by omega)), (fun h => absurd h (by omega)), (fun h => absurd h (by omega)), (fun h => absurd h (by omega)), (fun h => absurd h (by omega)), (fun h => absurd h (by omega)), (fun _ => ⟨fun h => absurd (Classical.not_not.mp c_133) h, fun _ => h_138.2.2.2⟩), (fun h => absurd h (by omega))⟩
          | exact ⟨fun _ _ _ => rfl, hC3, hC1, (fun h => absurd h (by omega)), (fun h => absurd h (by omega)), (fun h => absurd h (by omega)), (fun h => absurd h (by omega)), (fun h => absurd h (by omega)), (fun h => absurd h (by omega)), (fun _ => ⟨fun _ => rfl, fun h => absurd h c_133⟩), (fun h => absurd h (by omega))⟩)
    · skip
      refine g_aload_n X dX7_now_136 rfl 2 rfl ?_
      refine g_iload_n X dX7_now_137 rfl 1 rfl ?_
      refine g_calli (st := []) X (c_X7_aboveBest l G (w 3 0 0) w F (by exact hX) (by first | assumption | omega | (unfold InR; omega))) cm_X7_aboveBest im_X7_aboveBest se_X7_aboveBest ml_X7_258 ck_X7 (fx0 F) ⟨Nat.le_of_ble_eq_true rfl, Nat.le_of_ble_eq_true rfl⟩ rfl rfl (Nat.le_of_ble_eq_true rfl) dX7_now_138 ?_
      rintro z_138 u_138 h_138
      refine g_goto (tgt := 146) X dX7_now_141 (by decide) ?_
      exact g_iret X rfl rfl dX7_now_146 (by
          first
          | exact ⟨h_138.1, h_138.2.1, h_138.2.2.1, (fun h => absurd h (by omega)), (fun h => absurd h (by omega)), (fun h => absurd h (by omega)), (fun h => absurd h (by omega)), (fun h => absurd h (by omega)), (fun h => absurd h (by omega)), (fun _ => ⟨fun h => absurd (Classical.not_not.mp c_133) h, fun _ => h_138.2.2.2⟩), (fun h => absurd h (by omega))⟩
          | exact ⟨fun _ _ _ => rfl, hC3, hC1, (fun h => absurd h (by omega)), (fun h => absurd h (by omega)), (fun h => absurd h (by omega)), (fun h => absurd h (by omega)), (fun h => absurd h (by omega)), (fun h => absurd h (by omega)), (fun _ => ⟨fun _ => rfl, fun h => absurd h c_133⟩), (fun h => absurd h (by omega))⟩)
  exact absurd trivial (by omega)
set_option maxHeartbeats 4000000 in
set_option maxRecDepth 100000 in
theorem c_X7_count (l : Launch) (G : Ly) (what : Int) (w : Wd) (F : FX G) (hX : XI w) (hr_what : InR what) : Mi l yX7_count cX7_count 2 (some .int) 1 22 G [.ref (gAd G 0), .int (iI what)] w (fun z w2 => z = (cntV w what) ∧ w2 = w) := by
  refine mi_of (lv := [(0, .ref (gAd G 0)), (1, .int (iI what))]) (by decide) (Nat.le_of_ble_eq_true rfl) rfl ?_
  intro p_ e_ s_ m_ b_ h_ c_ X
  obtain ⟨hp, hS, htk, hcl, ⟨hnx, hhd⟩, ⟨hC1, hC2, hC3⟩, ⟨hL, hT, hN⟩⟩ := id hX
  have hp0 := hp.1
  have sT := hS.1
  have sB := hS.2.1
  have sC := hS.2.2.1
  have sD := hS.2.2.2.1
  have sE := hS.2.2.2.2.1
  have sF := hS.2.2.2.2.2.1
  have hrun := bt_or (s := w 3 6 0) (t := w 3 7 0) (by omega) (by omega) (by omega) (by omega)
  have hopn := open_in hp sC.1
  refine g_iload_n X dX7_count_0 rfl 1 rfl ?_
  have hr_1 : InR what := (by exact hr_what)
  by_cases hs_1 : what < 0 ∨ 15 < what
  · refine g_tableOut (tgt := 225) X dX7_count_1 hr_1 hs_1 (by decide) ?_
    refine g_iconst X dX7_count_225 ?_
    exact g_iret X rfl rfl dX7_count_226 (by
        refine ⟨?_, rfl⟩
        unfold cntV
        rw [if_neg (by omega), if_neg (by omega), if_neg (by omega), if_neg (by omega), if_neg (by omega), if_neg (by omega), if_neg (by omega), if_neg (by omega), if_neg (by omega), if_neg (by omega), if_neg (by omega), if_neg (by omega), if_neg (by omega), if_neg (by omega), if_neg (by omega), if_neg (by omega)])
  by_cases hs_1_0 : what = 0
  · refine g_tableIn (off := 79) (tgt := 80) X dX7_count_1 hr_1 (by omega) (by omega) (by rw [hs_1_0]; rfl) (by decide) ?_
    refine g_aload_n X dX7_count_80 rfl 0 rfl ?_
    refine g_geto (o' := 2) X ck_X7 (fx0 F) 1 (by decide) fl_X7_19 rfl (fl0_1 F) dX7_count_81 ?_
    refine g_geti X ck_X2 (fx2 F) 0 (by decide) fl_X7_105 (Or.inl rfl) dX7_count_84 ?_
    exact g_iret X rfl rfl dX7_count_87 (by
        refine ⟨?_, rfl⟩
        rw [hs_1_0]
        rfl)
  by_cases hs_1_1 : what = 1
  · refine g_tableIn (off := 87) (tgt := 88) X dX7_count_1 hr_1 (by omega) (by omega) (by rw [hs_1_1]; rfl) (by decide) ?_
    refine g_aload_n X dX7_count_88 rfl 0 rfl ?_
    refine g_geto (o' := 3) X ck_X7 (fx0 F) 2 (by decide) fl_X7_26 rfl (fl0_2 F) dX7_count_89 ?_
    refine g_calli (st := []) X (c_X6_running l G 3 w (fx3 F)) cm_X6_running im_X6_running se_X6_running ml_X7_141 ck_X6 (fx3 F) ⟨Nat.le_of_ble_eq_true rfl, Nat.le_of_ble_eq_true rfl⟩ rfl rfl (Nat.le_of_ble_eq_true rfl) dX7_count_92 (fn_i ?_)
    refine g_callsi (st := []) X (c_J6_bitCount_0f7a4 l G (bor (w 3 6 0) (w 3 7 0)) w (by first | assumption | omega | (unfold InR; omega))) cm_J6_bitCount_0f7a4 sm_J6_bitCount_0f7a4 ml_X7_135 ⟨Nat.le_of_ble_eq_true rfl, Nat.le_of_ble_eq_true rfl⟩ rfl rfl (Nat.le_of_ble_eq_true rfl) dX7_count_95 (fn_i ?_)
    exact g_iret X rfl rfl dX7_count_98 (by
        refine ⟨?_, rfl⟩
        rw [hs_1_1]
        rfl)
  by_cases hs_1_2 : what = 2
  · refine g_tableIn (off := 98) (tgt := 99) X dX7_count_1 hr_1 (by omega) (by omega) (by rw [hs_1_2]; rfl) (by decide) ?_
    refine g_aload_n X dX7_count_99 rfl 0 rfl ?_
    refine g_geto (o' := 3) X ck_X7 (fx0 F) 2 (by decide) fl_X7_26 rfl (fl0_2 F) dX7_count_100 ?_
    refine g_geti X ck_X6 (fx3 F) 7 (by decide) fl_X7_188 (Or.inl rfl) dX7_count_103 ?_
    refine g_callsi (st := []) X (c_J6_bitCount_0f7a4 l G (w 3 7 0) w (by first | assumption | omega | (unfold InR; omega))) cm_J6_bitCount_0f7a4 sm_J6_bitCount_0f7a4 ml_X7_135 ⟨Nat.le_of_ble_eq_true rfl, Nat.le_of_ble_eq_true rfl⟩ rfl rfl (Nat.le_of_ble_eq_true rfl) dX7_count_106 (fn_i ?_)
    exact g_iret X rfl rfl dX7_count_109 (by
        refine ⟨?_, rfl⟩
        rw [hs_1_2]
        rfl)
  by_cases hs_1_3 : what = 3
  · refine g_tableIn (off := 109) (tgt := 110) X dX7_count_1 hr_1 (by omega) (by omega) (by rw [hs_1_3]; rfl) (by decide) ?_
    refine g_aload_n X dX7_count_110 rfl 0 rfl ?_
    refine g_geto (o' := 3) X ck_X7 (fx0 F) 2 (by decide) fl_X7_26 rfl (fl0_2 F) dX7_count_111 ?_
    refine g_geti X ck_X6 (fx3 F) 5 (by decide) fl_X7_125 (Or.inl rfl) dX7_count_114 ?_
    refine g_callsi (st := []) X (c_J6_bitCount_0f7a4 l G (w 3 5 0) w (by first | assumption | omega | (unfold InR; omega))) cm_J6_bitCount_0f7a4 sm_J6_bitCount_0f7a4 ml_X7_135 ⟨Nat.le_of_ble_eq_true rfl, Nat.le_of_ble_eq_true rfl⟩ rfl rfl (Nat.le_of_ble_eq_true rfl) dX7_count_117 (fn_i ?_)
    exact g_iret X rfl rfl dX7_count_120 (by
        refine ⟨?_, rfl⟩
        rw [hs_1_3]
        rfl)
  by_cases hs_1_4 : what = 4
  · refine g_tableIn (off := 120) (tgt := 121) X dX7_count_1 hr_1 (by omega) (by omega) (by rw [hs_1_4]; rfl) (by decide) ?_
    refine g_aload_n X dX7_count_121 rfl 0 rfl ?_
    refine g_geto (o' := 3) X ck_X7 (fx0 F) 2 (by decide) fl_X7_26 rfl (fl0_2 F) dX7_count_122 ?_
    refine g_geti X ck_X6 (fx3 F) 9 (by decide) fl_X7_267 (Or.inl rfl) dX7_count_125 ?_
    exact g_iret X rfl rfl dX7_count_128 (by
        refine ⟨?_, rfl⟩
        rw [hs_1_4]
        rfl)
  by_cases hs_1_5 : what = 5
  · refine g_tableIn (off := 128) (tgt := 129) X dX7_count_1 hr_1 (by omega) (by omega) (by rw [hs_1_5]; rfl) (by decide) ?_
    refine g_aload_n X dX7_count_129 rfl 0 rfl ?_
    refine g_geto (o' := 3) X ck_X7 (fx0 F) 2 (by decide) fl_X7_26 rfl (fl0_2 F) dX7_count_130 ?_
    refine g_geti X ck_X6 (fx3 F) 1 (by decide) fl_X7_147 (Or.inl rfl) dX7_count_133 ?_
    exact g_iret X rfl rfl dX7_count_136 (by
        refine ⟨?_, rfl⟩
        rw [hs_1_5]
        rfl)
  by_cases hs_1_6 : what = 6
  · refine g_tableIn (off := 136) (tgt := 137) X dX7_count_1 hr_1 (by omega) (by omega) (by rw [hs_1_6]; rfl) (by decide) ?_
    refine g_aload_n X dX7_count_137 rfl 0 rfl ?_
    refine g_geto (o' := 3) X ck_X7 (fx0 F) 2 (by decide) fl_X7_26 rfl (fl0_2 F) dX7_count_138 ?_
    refine g_geti X ck_X6 (fx3 F) 2 (by decide) fl_X7_270 (Or.inl rfl) dX7_count_141 ?_
    exact g_iret X rfl rfl dX7_count_144 (by
        refine ⟨?_, rfl⟩
        rw [hs_1_6]
        rfl)
  by_cases hs_1_7 : what = 7
  · refine g_tableIn (off := 144) (tgt := 145) X dX7_count_1 hr_1 (by omega) (by omega) (by rw [hs_1_7]; rfl) (by decide) ?_
    refine g_aload_n X dX7_count_145 rfl 0 rfl ?_
    refine g_geto (o' := 3) X ck_X7 (fx0 F) 2 (by decide) fl_X7_26 rfl (fl0_2 F) dX7_count_146 ?_
    refine g_geti X ck_X6 (fx3 F) 3 (by decide) fl_X7_273 (Or.inl rfl) dX7_count_149 ?_
    exact g_iret X rfl rfl dX7_count_152 (by
        refine ⟨?_, rfl⟩
        rw [hs_1_7]
        rfl)
  by_cases hs_1_8 : what = 8
  · refine g_tableIn (off := 152) (tgt := 153) X dX7_count_1 hr_1 (by omega) (by omega) (by rw [hs_1_8]; rfl) (by decide) ?_
    refine g_aload_n X dX7_count_153 rfl 0 rfl ?_
    refine g_geto (o' := 3) X ck_X7 (fx0 F) 2 (by decide) fl_X7_26 rfl (fl0_2 F) dX7_count_154 ?_
    refine g_calli (st := []) X (c_X6_startedSoFar l G 3 w (fx3 F)) cm_X6_startedSoFar im_X6_startedSoFar se_X6_startedSoFar ml_X7_150 ck_X6 (fx3 F) ⟨Nat.le_of_ble_eq_true rfl, Nat.le_of_ble_eq_true rfl⟩ rfl rfl (Nat.le_of_ble_eq_true rfl) dX7_count_157 (fn_i ?_)
    exact g_iret X rfl rfl dX7_count_160 (by
        refine ⟨?_, rfl⟩
        rw [hs_1_8]
        rfl)
  by_cases hs_1_9 : what = 9
  · refine g_tableIn (off := 160) (tgt := 161) X dX7_count_1 hr_1 (by omega) (by omega) (by rw [hs_1_9]; rfl) (by decide) ?_
    refine g_aload_n X dX7_count_161 rfl 0 rfl ?_
    refine g_geto (o' := 3) X ck_X7 (fx0 F) 2 (by decide) fl_X7_26 rfl (fl0_2 F) dX7_count_162 ?_
    refine g_geti X ck_X6 (fx3 F) 4 (by decide) fl_X7_264 (Or.inl rfl) dX7_count_165 ?_
    exact g_iret X rfl rfl dX7_count_168 (by
        refine ⟨?_, rfl⟩
        rw [hs_1_9]
        rfl)
  by_cases hs_1_10 : what = 10
  · refine g_tableIn (off := 168) (tgt := 169) X dX7_count_1 hr_1 (by omega) (by omega) (by rw [hs_1_10]; rfl) (by decide) ?_
    refine g_aload_n X dX7_count_169 rfl 0 rfl ?_
    refine g_geto (o' := 3) X ck_X7 (fx0 F) 2 (by decide) fl_X7_26 rfl (fl0_2 F) dX7_count_170 ?_
    refine g_geta X ck_X6 (fx3 F) 0 (by decide) fl_X7_114 rfl dX7_count_173 ?_
    refine g_iconst X dX7_count_176 ?_
    refine h_iald (a := 0) (j := 0) X rfl (fx3 F) (by decide) (show fkX 6 0 = (1, 4) from rfl) (by decide) (by omega) (by omega) dX7_count_177 ?_
    exact g_iret X rfl rfl dX7_count_178 (by
        refine ⟨?_, rfl⟩
        rw [hs_1_10]
        rfl)
  by_cases hs_1_11 : what = 11
  · refine g_tableIn (off := 178) (tgt := 179) X dX7_count_1 hr_1 (by omega) (by omega) (by rw [hs_1_11]; rfl) (by decide) ?_
    refine g_aload_n X dX7_count_179 rfl 0 rfl ?_
    refine g_geto (o' := 3) X ck_X7 (fx0 F) 2 (by decide) fl_X7_26 rfl (fl0_2 F) dX7_count_180 ?_
    refine g_geta X ck_X6 (fx3 F) 0 (by decide) fl_X7_114 rfl dX7_count_183 ?_
    refine g_iconst X dX7_count_186 ?_
    refine h_iald (a := 1) (j := 1) X rfl (fx3 F) (by decide) (show fkX 6 0 = (1, 4) from rfl) (by decide) (by omega) (by omega) dX7_count_187 ?_
    exact g_iret X rfl rfl dX7_count_188 (by
        refine ⟨?_, rfl⟩
        rw [hs_1_11]
        rfl)
  by_cases hs_1_12 : what = 12
  · refine g_tableIn (off := 188) (tgt := 189) X dX7_count_1 hr_1 (by omega) (by omega) (by rw [hs_1_12]; rfl) (by decide) ?_
    refine g_aload_n X dX7_count_189 rfl 0 rfl ?_
    refine g_geto (o' := 3) X ck_X7 (fx0 F) 2 (by decide) fl_X7_26 rfl (fl0_2 F) dX7_count_190 ?_
    refine g_geta X ck_X6 (fx3 F) 0 (by decide) fl_X7_114 rfl dX7_count_193 ?_
    refine g_iconst X dX7_count_196 ?_
    refine h_iald (a := 2) (j := 2) X rfl (fx3 F) (by decide) (show fkX 6 0 = (1, 4) from rfl) (by decide) (by omega) (by omega) dX7_count_197 ?_
    exact g_iret X rfl rfl dX7_count_198 (by
        refine ⟨?_, rfl⟩
        rw [hs_1_12]
        rfl)
  by_cases hs_1_13 : what = 13
  · refine g_tableIn (off := 198) (tgt := 199) X dX7_count_1 hr_1 (by omega) (by omega) (by rw [hs_1_13]; rfl) (by decide) ?_
    refine g_aload_n X dX7_count_199 rfl 0 rfl ?_
    refine g_geto (o' := 3) X ck_X7 (fx0 F) 2 (by decide) fl_X7_26 rfl (fl0_2 F) dX7_count_200 ?_
    refine g_geta X ck_X6 (fx3 F) 0 (by decide) fl_X7_114 rfl dX7_count_203 ?_
    refine g_iconst X dX7_count_206 ?_
    refine h_iald (a := 3) (j := 3) X rfl (fx3 F) (by decide) (show fkX 6 0 = (1, 4) from rfl) (by decide) (by omega) (by omega) dX7_count_207 ?_
    exact g_iret X rfl rfl dX7_count_208 (by
        refine ⟨?_, rfl⟩
        rw [hs_1_13]
        rfl)
  by_cases hs_1_14 : what = 14
  · refine g_tableIn (off := 208) (tgt := 209) X dX7_count_1 hr_1 (by omega) (by omega) (by rw [hs_1_14]; rfl) (by decide) ?_
    refine g_aload_n X dX7_count_209 rfl 0 rfl ?_
    refine g_geto (o' := 9) X ck_X7 (fx0 F) 4 (by decide) fl_X7_36 rfl (fl0_4 F) dX7_count_210 ?_
    refine g_geti X ck_X1 (fx9 F) 0 (by decide) fl_X7_160 (Or.inl rfl) dX7_count_213 ?_
    exact g_iret X rfl rfl dX7_count_216 (by
        refine ⟨?_, rfl⟩
        rw [hs_1_14]
        rfl)
  by_cases hs_1_15 : what = 15
  · refine g_tableIn (off := 216) (tgt := 217) X dX7_count_1 hr_1 (by omega) (by omega) (by rw [hs_1_15]; rfl) (by decide) ?_
    refine g_aload_n X dX7_count_217 rfl 0 rfl ?_
    refine g_geto (o' := 1) X ck_X7 (fx0 F) 0 (by decide) fl_X7_10 rfl (fl0_0 F) dX7_count_218 ?_
    refine g_geti X ck_X3 (fx1 F) 0 (by decide) fl_X7_85 (Or.inl rfl) dX7_count_221 ?_
    exact g_iret X rfl rfl dX7_count_224 (by
        refine ⟨?_, rfl⟩
        rw [hs_1_15]
        rfl)
  exact absurd trivial (by omega)
set_option maxHeartbeats 4000000 in
set_option maxRecDepth 100000 in
theorem c_X7_ahead (l : Launch) (G : Ly) (n : Int) (what : Int) (w : Wd) (F : FX G) (hX : XI w) (hr_n : InR n) (hr_what : InR what) : Mi l yX7_ahead cX7_ahead 5 (some .int) 7 155 G [.ref (gAd G 0), .int (iI n), .int (iI what)] w (fun z w2 => (∀ o2, o2 ≠ 4 → o2 ≠ 11 → w2 o2 = w o2) ∧ ShC (w 2) (w2 11) ∧ (¬ ((1 ≤ n ∧ n ≤ 60) ∧ 0 ≤ what ∧ what ≤ 3) → z = -1) ∧ (((1 ≤ n ∧ n ≤ 60) ∧ 0 ≤ what ∧ what ≤ 3) → ∃ q n1, AheadR (w 2) (w 3) n.toNat q n1 ∧ (what = 0 → z = cnt (runX q)) ∧ (what = 1 → z = sumN (q 12) 6 - sumN (w 3 12) 6) ∧ (what = 2 → z = q 4 0 - w 3 4 0) ∧ (what = 3 → z = n1))) := by
  refine mi_of (lv := [(0, .ref (gAd G 0)), (1, .int (iI n)), (2, .int (iI what))]) (by decide) (Nat.le_of_ble_eq_true rfl) rfl ?_
  intro p_ e_ s_ m_ b_ h_ c_ X
  obtain ⟨hp, hS, htk, hcl, ⟨hnx, hhd⟩, ⟨hC1, hC2, hC3⟩, ⟨hL, hT, hN⟩⟩ := id hX
  have hp0 := hp.1
  have sT := hS.1
  have sB := hS.2.1
  have sC := hS.2.2.1
  have sD := hS.2.2.2.1
  have sE := hS.2.2.2.2.1
  have sF := hS.2.2.2.2.2.1
  have hrun := bt_or (s := w 3 6 0) (t := w 3 7 0) (by omega) (by omega) (by omega) (by omega)
  have hopn := open_in hp sC.1
  refine g_iload_n X dX7_ahead_0 rfl 1 rfl ?_
  refine g_iconst X dX7_ahead_1 ?_
  refine g_icmp_lt (tgt := 20) X dX7_ahead_2 (by decide) (by exact hr_n) ⟨by decide, by decide⟩ (fun c_2 => ?_) (fun c_2 => ?_)
  · skip
    refine g_iconst X dX7_ahead_20 ?_
    exact g_iret X rfl rfl dX7_ahead_21 (by exact ⟨fun _ _ _ => rfl, hC1, fun _ => rfl, fun h => absurd h (by omega)⟩)
  · skip
    refine g_iload_n X dX7_ahead_5 rfl 1 rfl ?_
    refine g_bipush X dX7_ahead_6 (by decide) ?_
    refine g_icmp_gt (tgt := 20) X dX7_ahead_8 (by decide) (by exact hr_n) ⟨by decide, by decide⟩ (fun c_8 => ?_) (fun c_8 => ?_)
    · skip
      refine g_iconst X dX7_ahead_20 ?_
      exact g_iret X rfl rfl dX7_ahead_21 (by exact ⟨fun _ _ _ => rfl, hC1, fun _ => rfl, fun h => absurd h (by omega)⟩)
    · skip
      refine g_iload_n X dX7_ahead_11 rfl 2 rfl ?_
      refine g_if_lt (tgt := 20) X dX7_ahead_12 (by decide) (by exact hr_what) (fun c_12 => ?_) (fun c_12 => ?_)
      · skip
        refine g_iconst X dX7_ahead_20 ?_
        exact g_iret X rfl rfl dX7_ahead_21 (by exact ⟨fun _ _ _ => rfl, hC1, fun _ => rfl, fun h => absurd h (by omega)⟩)
      · skip
        refine g_iload_n X dX7_ahead_15 rfl 2 rfl ?_
        refine g_iconst X dX7_ahead_16 ?_
        refine g_icmp_le (tgt := 22) X dX7_ahead_17 (by decide) (by exact hr_what) ⟨by decide, by decide⟩ (fun c_17 => ?_) (fun c_17 => ?_)
        · skip
          refine g_aload_n X dX7_ahead_22 rfl 0 rfl ?_
          refine g_geto (o' := 4) X ck_X7 (fx0 F) 3 (by decide) fl_X7_30 rfl (fl0_3 F) dX7_ahead_23 ?_
          refine g_aload_n X dX7_ahead_26 rfl 0 rfl ?_
          refine g_geto (o' := 3) X ck_X7 (fx0 F) 2 (by decide) fl_X7_26 rfl (fl0_2 F) dX7_ahead_27 ?_
          refine g_callv (st := []) X (c_X6_copyFrom l G 4 3 w (fx4 F) (fx3 F) (by first | assumption | omega | (unfold InR; omega))) cm_X6_copyFrom im_X6_copyFrom se_X6_copyFrom ml_X7_261 ck_X6 (fx4 F) ⟨Nat.le_of_ble_eq_true rfl, Nat.le_of_ble_eq_true rfl⟩ rfl rfl (Nat.le_of_ble_eq_true rfl) dX7_ahead_30 ?_
          rintro u_30 ⟨k1, k2⟩
          have e3 : u_30 3 = w 3 := k1 3 (by decide)
          have e2 : u_30 2 = w 2 := k1 2 (by decide)
          have e11 : u_30 11 = w 11 := k1 11 (by decide)
          refine g_iconst X dX7_ahead_33 ?_
          refine g_istore_n (lv' := [(3, .int (iI 0)), (0, .ref (gAd G 0)), (1, .int (iI n)), (2, .int (iI what))]) X dX7_ahead_34 rfl (by decide) rfl ?_
          refine g_iconst X dX7_ahead_35 ?_
          refine g_istore (lv' := [(4, .int (iI 0)), (3, .int (iI 0)), (0, .ref (gAd G 0)), (1, .int (iI n)), (2, .int (iI what))]) X dX7_ahead_36 (by decide) rfl ?_
          refine g_lv (lv' := [(0, .ref (gAd G 0)), (1, .int (iI n)), (2, .int (iI what)), (3, .int (iI 0)), (4, .int (iI 0))]) [2, 3, 4, 1, 0] rfl ?_
          refine g_loop3 (fun (k : Int) (sc : Int) (w1 : Wd) => [(0, .ref (gAd G 0)), (1, .int (iI n)), (2, .int (iI what)), (3, .int (iI sc)), (4, .int (iI k))]) (fun (k : Int) (sc : Int) (w1 : Wd) => w1) (fun (k : Int) (sc : Int) (w1 : Wd) => (0 ≤ k) ∧ (k ≤ n) ∧ (0 ≤ sc ∧ sc ≤ k) ∧ (AheadR (w 2) (w 3) k.toNat (w1 4) sc) ∧ (SV (9 * (w 3 1 0 + k)) (w 2 0 0) (w1 4)) ∧ (∀ o2, o2 ≠ 4 → o2 ≠ 11 → w1 o2 = u_30 o2) ∧ (ShC (w 2) (w1 11))) (fun (k : Int) (sc : Int) (w1 : Wd) => (n - k).toNat) 0 0 u_30 ⟨(by first | omega | rfl | assumption), (by first | omega | rfl | assumption), (by first | omega | rfl | assumption), (by exact ⟨k2, rfl⟩), (by rw [Int.add_zero]; exact sv_inS hS k2), (by intro _ _ _; rfl), (by rw [e11]; exact hC1)⟩ ?_
          intro k sc w1 hI_38 ih_38
          obtain ⟨h0, h1, h2, hti, hsv, hfo, hsc⟩ := hI_38
          try dsimp only at ih_38 ⊢
          have f2 : w1 2 = w 2 := by rw [hfo 2 (by decide) (by decide)]; exact e2
          have f3 : w1 3 = w 3 := by rw [hfo 3 (by decide) (by decide)]; exact e3
          refine g_iload X dX7_ahead_38 4 rfl ?_
          refine g_iload_n X dX7_ahead_40 rfl 1 rfl ?_
          refine g_icmp_ge (tgt := 87) X dX7_ahead_41 (by decide) (by unfold InR; omega) (by exact hr_n) (fun c_41 => ?_) (fun c_41 => ?_)
          · skip
            have hkn : k = n := by omega
            have c1 := hsv.2.2.1
            have f12 : w1 3 12 = w 3 12 := by rw [f3]
            have f4 : w1 3 4 0 = w 3 4 0 := by rw [f3]
            have hrun2 := bt_or (s := w1 4 6 0) (t := w1 4 7 0) (by omega) (by omega) (by omega) (by omega)
            refine g_iload_n X dX7_ahead_87 rfl 2 rfl ?_
            have hr_88 : InR what := (by exact hr_what)
            by_cases hs_88 : what < 0 ∨ 2 < what
            · refine g_tableOut (tgt := 159) X dX7_ahead_88 hr_88 hs_88 (by decide) ?_
              refine g_iload_n X dX7_ahead_159 rfl 3 rfl ?_
              exact g_iret X rfl rfl dX7_ahead_160 (by refine ⟨fun o2 a b => by rw [hfo o2 a b]; exact k1 o2 a, hsc, fun h => absurd ⟨⟨by omega, by omega⟩, by omega, by omega⟩ h, fun _ => ⟨w1 4, sc, by rw [← hkn]; exact hti, (fun h => absurd h (by omega)), (fun h => absurd h (by omega)), (fun h => absurd h (by omega)), (fun _ => rfl)⟩⟩)
            by_cases hs_88_0 : what = 0
            · refine g_tableIn (off := 28) (tgt := 116) X dX7_ahead_88 hr_88 (by omega) (by omega) (by rw [hs_88_0]; rfl) (by decide) ?_
              refine g_aload_n X dX7_ahead_116 rfl 0 rfl ?_
              refine g_geto (o' := 4) X ck_X7 (fx0 F) 3 (by decide) fl_X7_30 rfl (fl0_3 F) dX7_ahead_117 ?_
              refine g_calli (st := []) X (c_X6_running l G 4 w1 (fx4 F)) cm_X6_running im_X6_running se_X6_running ml_X7_141 ck_X6 (fx4 F) ⟨Nat.le_of_ble_eq_true rfl, Nat.le_of_ble_eq_true rfl⟩ rfl rfl (Nat.le_of_ble_eq_true rfl) dX7_ahead_120 (fn_i ?_)
              refine g_callsi (st := []) X (c_J6_bitCount_0f7a4 l G (bor (w1 4 6 0) (w1 4 7 0)) w1 (by first | assumption | omega | (unfold InR; omega))) cm_J6_bitCount_0f7a4 sm_J6_bitCount_0f7a4 ml_X7_135 ⟨Nat.le_of_ble_eq_true rfl, Nat.le_of_ble_eq_true rfl⟩ rfl rfl (Nat.le_of_ble_eq_true rfl) dX7_ahead_123 (fn_i ?_)
              exact g_iret X rfl rfl dX7_ahead_126 (by refine ⟨fun o2 a b => by rw [hfo o2 a b]; exact k1 o2 a, hsc, fun h => absurd ⟨⟨by omega, by omega⟩, by omega, by omega⟩ h, fun _ => ⟨w1 4, sc, by rw [← hkn]; exact hti, (fun _ => rfl), (fun h => absurd h (by omega)), (fun h => absurd h (by omega)), (fun h => absurd h (by omega))⟩⟩)
            by_cases hs_88_1 : what = 1
            · refine g_tableIn (off := 39) (tgt := 127) X dX7_ahead_88 hr_88 (by omega) (by omega) (by rw [hs_88_1]; rfl) (by decide) ?_
              refine g_aload_n X dX7_ahead_127 rfl 0 rfl ?_
              refine g_geto (o' := 4) X ck_X7 (fx0 F) 3 (by decide) fl_X7_30 rfl (fl0_3 F) dX7_ahead_128 ?_
              refine g_calli (st := []) X (c_X6_startedSoFar l G 4 w1 (fx4 F)) cm_X6_startedSoFar im_X6_startedSoFar se_X6_startedSoFar ml_X7_150 ck_X6 (fx4 F) ⟨Nat.le_of_ble_eq_true rfl, Nat.le_of_ble_eq_true rfl⟩ rfl rfl (Nat.le_of_ble_eq_true rfl) dX7_ahead_131 (fn_i ?_)
              refine g_aload_n X dX7_ahead_134 rfl 0 rfl ?_
              refine g_geto (o' := 3) X ck_X7 (fx0 F) 2 (by decide) fl_X7_26 rfl (fl0_2 F) dX7_ahead_135 ?_
              refine g_calli (st := [.int (iI (sumN (w1 4 12) 6))]) X (c_X6_startedSoFar l G 3 w1 (fx3 F)) cm_X6_startedSoFar im_X6_startedSoFar se_X6_startedSoFar ml_X7_150 ck_X6 (fx3 F) ⟨Nat.le_of_ble_eq_true rfl, Nat.le_of_ble_eq_true rfl⟩ rfl rfl (Nat.le_of_ble_eq_true rfl) dX7_ahead_138 (fn_i ?_)
              refine g_isub X dX7_ahead_141 ?_
              exact g_iret X rfl rfl dX7_ahead_142 (by refine ⟨fun o2 a b => by rw [hfo o2 a b]; exact k1 o2 a, hsc, fun h => absurd ⟨⟨by omega, by omega⟩, by omega, by omega⟩ h, fun _ => ⟨w1 4, sc, by rw [← hkn]; exact hti, (fun h => absurd h (by omega)), (fun _ => by rw [f12]), (fun h => absurd h (by omega)), (fun h => absurd h (by omega))⟩⟩)
            by_cases hs_88_2 : what = 2
            · refine g_tableIn (off := 55) (tgt := 143) X dX7_ahead_88 hr_88 (by omega) (by omega) (by rw [hs_88_2]; rfl) (by decide) ?_
              refine g_aload_n X dX7_ahead_143 rfl 0 rfl ?_
              refine g_geto (o' := 4) X ck_X7 (fx0 F) 3 (by decide) fl_X7_30 rfl (fl0_3 F) dX7_ahead_144 ?_
              refine g_geti X ck_X6 (fx4 F) 4 (by decide) fl_X7_264 (Or.inl rfl) dX7_ahead_147 ?_
              refine g_aload_n X dX7_ahead_150 rfl 0 rfl ?_
              refine g_geto (o' := 3) X ck_X7 (fx0 F) 2 (by decide) fl_X7_26 rfl (fl0_2 F) dX7_ahead_151 ?_
              refine g_geti X ck_X6 (fx3 F) 4 (by decide) fl_X7_264 (Or.inl rfl) dX7_ahead_154 ?_
              refine g_isub X dX7_ahead_157 ?_
              exact g_iret X rfl rfl dX7_ahead_158 (by refine ⟨fun o2 a b => by rw [hfo o2 a b]; exact k1 o2 a, hsc, fun h => absurd ⟨⟨by omega, by omega⟩, by omega, by omega⟩ h, fun _ => ⟨w1 4, sc, by rw [← hkn]; exact hti, (fun h => absurd h (by omega)), (fun h => absurd h (by omega)), (fun _ => by rw [f4]), (fun h => absurd h (by omega))⟩⟩)
            exact absurd trivial (by omega)
          · skip
            refine g_aload_n X dX7_ahead_44 rfl 0 rfl ?_
            refine g_geto (o' := 10) X ck_X7 (fx0 F) 5 (by decide) fl_X7_45 rfl (fl0_5 F) dX7_ahead_45 ?_
            refine g_aload_n X dX7_ahead_48 rfl 0 rfl ?_
            refine g_geto (o' := 4) X ck_X7 (fx0 F) 3 (by decide) fl_X7_30 rfl (fl0_3 F) dX7_ahead_49 ?_
            refine g_callv (st := []) X (c_X5_pass l G 4 (9 * (w 3 1 0 + k)) w1 F (fx4 F) (by rw [f2]; exact hp) (by rw [f2]; exact hsv) (by first | assumption | omega | (unfold InR; omega)) (by rw [f2]; exact hsc) (by first | assumption | omega | (unfold InR; omega))) cm_X5_pass im_X5_pass se_X5_pass ml_X7_153 ck_X5 (fx10 F) ⟨Nat.le_of_ble_eq_true rfl, Nat.le_of_ble_eq_true rfl⟩ rfl rfl (Nat.le_of_ble_eq_true rfl) dX7_ahead_52 ?_
            rintro u_52 ⟨e, hpw, hps, hpo, hpc⟩
            have g2 : u_52 2 = w 2 := by rw [hpo 2 (by decide) (by decide)]; exact f2
            rw [f2] at hpw hps hpc
            have hsv2 := sv_ps (e := e) hp hsv (by omega)
            rw [← hps] at hsv2
            have s00 := hsv2.1.1
            have mr := (made_can (u := u_52 4) hp).2 s00.1 s00.2
            refine g_aload_n X dX7_ahead_55 rfl 0 rfl ?_
            refine g_geto (o' := 10) X ck_X7 (fx0 F) 5 (by decide) fl_X7_45 rfl (fl0_5 F) dX7_ahead_56 ?_
            refine g_aload_n X dX7_ahead_59 rfl 0 rfl ?_
            refine g_geto (o' := 4) X ck_X7 (fx0 F) 3 (by decide) fl_X7_30 rfl (fl0_3 F) dX7_ahead_60 ?_
            refine g_calli (st := []) X (c_X5_made l G 4 (9 * (w 3 1 0 + k) + 9) u_52 F (fx4 F) (by rw [g2]; exact hp) (by rw [g2]; exact hsv2) (by first | assumption | omega | (unfold InR; omega))) cm_X5_made im_X5_made se_X5_made ml_X7_243 ck_X5 (fx10 F) ⟨Nat.le_of_ble_eq_true rfl, Nat.le_of_ble_eq_true rfl⟩ rfl rfl (Nat.le_of_ble_eq_true rfl) dX7_ahead_63 (fn_i ?_)
            refine g_aload_n X dX7_ahead_66 rfl 0 rfl ?_
            refine g_geto (o' := 4) X ck_X7 (fx0 F) 3 (by decide) fl_X7_30 rfl (fl0_3 F) dX7_ahead_67 ?_
            refine g_geta X ck_X6 (fx4 F) 0 (by decide) fl_X7_114 rfl dX7_ahead_70 ?_
            refine g_iconst X dX7_ahead_73 ?_
            refine h_iald (a := 0) (j := 0) X rfl (fx4 F) (by decide) (show fkX 6 0 = (1, 4) from rfl) (by decide) (by omega) (by omega) dX7_ahead_74 ?_
            refine g_cut1 (pc' := 81) (fun (sc2 : Int) => [(0, .ref (gAd G 0)), (1, .int (iI n)), (2, .int (iI what)), (3, .int (iI sc2)), (4, .int (iI k))]) (fun (sc2 : Int) => []) (fun (sc2 : Int) => u_52) (fun (sc2 : Int) => (sc2 = (if madeX (w 2) (u_52 4) < u_52 4 0 0 then sc + 1 else sc)) ∧ (0 ≤ sc2 ∧ sc2 ≤ sc + 1)) ?_ ?_
            · intro sc2 hI_81
              obtain ⟨hs2, hs3⟩ := hI_81
              try dsimp only
              refine g_iinc (j := 4) (lv' := [(4, .int (iI (k + 1))), (0, .ref (gAd G 0)), (1, .int (iI n)), (2, .int (iI what)), (3, .int (iI sc2))]) X dX7_ahead_81 rfl (by decide) rfl ?_
              refine g_goto (tgt := 38) X dX7_ahead_84 (by decide) ?_
              refine g_lv (lv' := [(0, .ref (gAd G 0)), (1, .int (iI n)), (2, .int (iI what)), (3, .int (iI sc2)), (4, .int (iI (k + 1)))]) [1, 2, 3, 4, 0] rfl ?_
              exact ih_38 (k + 1) sc2 u_52 ⟨(by first | omega | rfl | assumption), (by first | omega | rfl | assumption), (by first | omega | rfl | assumption), (by rw [show (k + 1).toNat = k.toNat + 1 by omega]; exact ⟨w1 4, e, sc, hti, hpw, hps, hs2⟩), (by exact sv_mono hsv2 (by omega)), (by intro o2 a b; rw [hpo o2 a b]; exact hfo o2 a b), (by exact hpc)⟩ (by omega)
            · intro J_81
              try dsimp only at J_81
              refine g_icmp_ge (tgt := 81) X dX7_ahead_75 (by decide) (by rw [g2]; unfold InR; omega) (by unfold InR; omega) (fun c_75 => ?_) (fun c_75 => ?_)
              · skip
                refine g_lv (lv' := [(0, .ref (gAd G 0)), (1, .int (iI n)), (2, .int (iI what)), (3, .int (iI sc)), (4, .int (iI k))]) [0, 1, 2, 3, 4] rfl ?_
                exact J_81 sc ⟨(by rw [g2] at c_75; first | rw [if_neg (by omega)] | rw [if_pos (by omega)]), (by first | omega | rfl | assumption)⟩
              · skip
                refine g_iinc (j := 3) (lv' := [(3, .int (iI (sc + 1))), (0, .ref (gAd G 0)), (1, .int (iI n)), (2, .int (iI what)), (4, .int (iI k))]) X dX7_ahead_78 rfl (by decide) rfl ?_
                refine g_lv (lv' := [(0, .ref (gAd G 0)), (1, .int (iI n)), (2, .int (iI what)), (3, .int (iI (sc + 1))), (4, .int (iI k))]) [1, 2, 3, 0, 4] rfl ?_
                exact J_81 (sc + 1) ⟨(by rw [g2] at c_75; first | rw [if_neg (by omega)] | rw [if_pos (by omega)]), (by first | omega | rfl | assumption)⟩
        · skip
          refine g_iconst X dX7_ahead_20 ?_
          exact g_iret X rfl rfl dX7_ahead_21 (by exact ⟨fun _ _ _ => rfl, hC1, fun _ => rfl, fun h => absurd h (by omega)⟩)
