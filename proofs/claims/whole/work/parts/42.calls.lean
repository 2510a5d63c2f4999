/-- the row is kept among the past ones -/
def NoteR (w w2 : Wd) : Prop := w2 20 8 0 = min 4 (w 20 8 0 + 1) ∧ ∀ i k : Nat, (i : Int) < min 4 (w 20 8 0 + 1) → k < 101 → w2 20 7 (101 * i + k) = if (i : Int) + 1 = min 4 (w 20 8 0 + 1) then w 20 5 k else if w 20 8 0 = 4 then w 20 7 (101 * (i + 1) + k) else w 20 7 (101 * i + k)
def MF (w w2 : Wd) : Prop := w2 20 0 = w 20 0 ∧ w2 20 1 = w 20 1 ∧ w2 20 4 = w 20 4 ∧ w2 20 9 = w 20 9
theorem tell0 {what v : Int} (h : what = 0) : okTell what v ↔ 0 ≤ v ∧ v ≤ 480 := by
  subst h
  exact ⟨fun q => q.2.2, fun q => ⟨by decide, by decide, q⟩⟩
theorem tell1 {what v : Int} (h : what = 1) : okTell what v ↔ 0 ≤ v ∧ v ≤ 240 := by
  subst h
  exact ⟨fun q => q.2.2, fun q => ⟨by decide, by decide, q⟩⟩
theorem tell2 {what v : Int} (h : what = 2) : okTell what v ↔ 0 ≤ v ∧ v ≤ 45 := by
  subst h
  exact ⟨fun q => q.2.2, fun q => ⟨by decide, by decide, q⟩⟩
theorem tell3 {what v : Int} (h : what = 3) : okTell what v ↔ 4 ≤ v ∧ v ≤ 14 := by
  subst h
  exact ⟨fun q => q.2.2, fun q => ⟨by decide, by decide, q⟩⟩
theorem rs_told {u : Nat → Nat → Int} {D : Nat → Int} (h : RS u D) {j : Nat} (hj : j < 4) (a : Int) : RS (fu u 0 j a) (fup D j a) := by
  have hb := h.2.1
  have ht := h.1
  refine rs_misc h (fun f hf => fuf (by omega)) (fun i hi => fup_ne (by omega)) (fun i hi => ?_) ?_ ?_ ?_ ?_ ?_
  · by_cases e : i = j
    · rw [e, fup_at, fu_at]
    · rw [fup_ne e, fu_ne (fun z => e z.2)]; exact ht i hi
  · rw [fup_ne (by omega), fuf (by decide)]; exact hb.1
  · rw [fup_ne (by omega), fuf (by decide)]; exact hb.2.1
  · rw [fup_ne (by omega), fuf (by decide)]; exact hb.2.2.1
  · rw [fup_ne (by omega)]
  · rw [fup_ne (by omega), fuf (by decide)]; exact hb.2.2.2.2.1
set_option maxHeartbeats 4000000 in
set_option maxRecDepth 100000 in
theorem c_X8_power (l : Launch) (G : Ly) (m : Int) (load : Int) (lift : Int) (pl : Nat → Nat → Int) (w : Wd) (FM : gOb G 20 = some 8) (hT : PlR pl (w 20 4)) (hp : PV pl) (hr_m : InR m) (hr_load : InR load) (hr_lift : InR lift) : Mi l yX8_power cX8_power 4 (some .int) 2 43 G [.ref (gAd G 20), .int (iI m), .int (iI load), .int (iI lift)] w (fun z w2 => z = (if (0 ≤ m ∧ m < pl 0 0) ∧ (0 ≤ load ∧ load ≤ 99) ∧ 0 ≤ lift ∧ lift ≤ 45 then pwX pl lift m.toNat load else -1) ∧ w2 = w) := by
  refine mi_of (lv := [(0, .ref (gAd G 20)), (1, .int (iI m)), (2, .int (iI load)), (3, .int (iI lift))]) (by decide) (Nat.le_of_ble_eq_true rfl) rfl ?_
  intro p_ e_ s_ m_ b_ h_ c_ X
  have hp0 := hp.1
  have hp7 := hp.2.2
  have t36 := hT.1
  refine g_aload_n X dX8_power_0 rfl 0 rfl ?_
  refine g_iload_n X dX8_power_1 rfl 1 rfl ?_
  refine g_calli (st := []) X (c_X8_isMachine l G m pl w FM (by first | assumption | omega | (unfold InR; omega)) (by first | assumption | omega | (unfold InR; omega)) (by exact hr_m)) cm_X8_isMachine im_X8_isMachine se_X8_isMachine ml_X8_178 ck_X8 FM ⟨Nat.le_of_ble_eq_true rfl, Nat.le_of_ble_eq_true rfl⟩ rfl rfl (Nat.le_of_ble_eq_true rfl) dX8_power_2 (fn_i ?_)
  refine g_if_eq (tgt := 38) X dX8_power_5 (by decide) (by exact in01) (fun c_5 => ?_) (fun c_5 => ?_)
  · skip
    refine g_iconst X dX8_power_38 ?_
    exact g_iret X rfl rfl dX8_power_39 (by
        refine ⟨?_, rfl⟩
        first
        | exact (if_pos ⟨of_one c_5, of_one c_15, of_one c_25⟩).symm
        | exact (if_neg (fun h => of_zero c_5 h.1)).symm
        | exact (if_neg (fun h => of_zero c_15 h.2.1)).symm
        | exact (if_neg (fun h => of_zero c_25 h.2.2)).symm)
  · skip
    refine g_iload_n X dX8_power_8 rfl 2 rfl ?_
    refine g_iconst X dX8_power_9 ?_
    refine g_bipush X dX8_power_10 (by decide) ?_
    refine g_callsi (st := []) X (c_X8_in l G load 0 99 w (by exact hr_load) (by first | assumption | omega | (unfold InR; omega)) (by first | assumption | omega | (unfold InR; omega))) cm_X8_in sm_X8_in ml_X8_61 ⟨Nat.le_of_ble_eq_true rfl, Nat.le_of_ble_eq_true rfl⟩ rfl rfl (Nat.le_of_ble_eq_true rfl) dX8_power_12 (fn_i ?_)
    refine g_if_eq (tgt := 38) X dX8_power_15 (by decide) (by exact in01) (fun c_15 => ?_) (fun c_15 => ?_)
    · skip
      refine g_iconst X dX8_power_38 ?_
      exact g_iret X rfl rfl dX8_power_39 (by
          refine ⟨?_, rfl⟩
          first
          | exact (if_pos ⟨of_one c_5, of_one c_15, of_one c_25⟩).symm
          | exact (if_neg (fun h => of_zero c_5 h.1)).symm
          | exact (if_neg (fun h => of_zero c_15 h.2.1)).symm
          | exact (if_neg (fun h => of_zero c_25 h.2.2)).symm)
    · skip
      refine g_iload_n X dX8_power_18 rfl 3 rfl ?_
      refine g_iconst X dX8_power_19 ?_
      refine g_bipush X dX8_power_20 (by decide) ?_
      refine g_callsi (st := []) X (c_X8_in l G lift 0 45 w (by exact hr_lift) (by first | assumption | omega | (unfold InR; omega)) (by first | assumption | omega | (unfold InR; omega))) cm_X8_in sm_X8_in ml_X8_61 ⟨Nat.le_of_ble_eq_true rfl, Nat.le_of_ble_eq_true rfl⟩ rfl rfl (Nat.le_of_ble_eq_true rfl) dX8_power_22 (fn_i ?_)
      refine g_if_eq (tgt := 38) X dX8_power_25 (by decide) (by exact in01) (fun c_25 => ?_) (fun c_25 => ?_)
      · skip
        refine g_iconst X dX8_power_38 ?_
        exact g_iret X rfl rfl dX8_power_39 (by
            refine ⟨?_, rfl⟩
            first
            | exact (if_pos ⟨of_one c_5, of_one c_15, of_one c_25⟩).symm
            | exact (if_neg (fun h => of_zero c_5 h.1)).symm
            | exact (if_neg (fun h => of_zero c_15 h.2.1)).symm
            | exact (if_neg (fun h => of_zero c_25 h.2.2)).symm)
      · skip
        refine g_aload_n X dX8_power_28 rfl 0 rfl ?_
        refine g_iload_n X dX8_power_29 rfl 1 rfl ?_
        refine g_iload_n X dX8_power_30 rfl 2 rfl ?_
        refine g_iload_n X dX8_power_31 rfl 3 rfl ?_
        refine g_calli (st := []) X (c_X8_powerOf l G m load lift pl w FM (by first | assumption | omega | (unfold InR; omega)) (by first | assumption | omega | (unfold InR; omega)) (by exact of_one c_5) (by exact of_one c_15) (by exact of_one c_25)) cm_X8_powerOf im_X8_powerOf se_X8_powerOf ml_X8_102 ck_X8 FM ⟨Nat.le_of_ble_eq_true rfl, Nat.le_of_ble_eq_true rfl⟩ rfl rfl (Nat.le_of_ble_eq_true rfl) dX8_power_32 (fn_i ?_)
        refine g_goto (tgt := 39) X dX8_power_35 (by decide) ?_
        exact g_iret X rfl rfl dX8_power_39 (by
            refine ⟨?_, rfl⟩
            first
            | exact (if_pos ⟨of_one c_5, of_one c_15, of_one c_25⟩).symm
            | exact (if_neg (fun h => of_zero c_5 h.1)).symm
            | exact (if_neg (fun h => of_zero c_15 h.2.1)).symm
            | exact (if_neg (fun h => of_zero c_25 h.2.2)).symm)
set_option maxHeartbeats 4000000 in
set_option maxRecDepth 100000 in
theorem c_X8_tell (l : Launch) (G : Ly) (what : Int) (v : Int) (pl : Nat → Nat → Int) (u : Nat → Nat → Int) (B : Int) (w : Wd) (FM : gOb G 20 = some 8) (hT : PlR pl (w 20 4)) (hp : PV pl) (hR : RS u (w 20 5)) (hS : SV B (pl 0 0) u) (hU : SU (pl 0 0) u) (hB : B ≤ 99000) (hC : TbC pl (w 20)) (hch : 0 ≤ w 20 8 0 ∧ w 20 8 0 ≤ 4) (hr_what : InR what) (hr_v : InR v) : Mi l yX8_tell cX8_tell 5 (some .int) 1 22 G [.ref (gAd G 20), .int (iI what), .int (iI v)] w (fun z w2 => (¬ okTell what v ∧ z = -1 ∧ w2 = w) ∨ (okTell what v ∧ u 0 what.toNat = v ∧ z = -2 ∧ w2 = w) ∨ (okTell what v ∧ u 0 what.toNat ≠ v ∧ z = u 0 what.toNat ∧ RS (fu u 0 what.toNat v) (w2 20 5) ∧ NoteR w w2 ∧ MF w w2 ∧ TbC pl (w2 20))) := by
  refine mi_of (lv := [(0, .ref (gAd G 20)), (1, .int (iI what)), (2, .int (iI v))]) (by decide) (Nat.le_of_ble_eq_true rfl) rfl ?_
  intro p_ e_ s_ m_ b_ h_ c_ X
  have hp0 := hp.1
  have hp7 := hp.2.2
  have t36 := hT.1
  have sT := hS.1
  have sB := hS.2.1
  have sC := hS.2.2.1
  have sD := hS.2.2.2.1
  have sE := hS.2.2.2.2.1
  have sF := hS.2.2.2.2.2.1
  have sG := hS.2.2.2.2.2.2.1
  have sH := hS.2.2.2.2.2.2.2
  have rT := hR.1
  have rB := hR.2.1
  have rL := hR.2.2.1
  have rM := hR.2.2.2
  have uA := hU.1
  have hrun := bt_or (s := u 6 0) (t := u 7 0) (by omega) (by omega) (by omega) (by omega)
  have r00 : w 20 5 0 = u 0 0 := rT 0 (by decide)
  have r01 : w 20 5 1 = u 0 1 := rT 1 (by decide)
  have r02 : w 20 5 2 = u 0 2 := rT 2 (by decide)
  have r03 : w 20 5 3 = u 0 3 := rT 3 (by decide)
  have r04 : w 20 5 4 = u 1 0 := rB.1
  have hall := bt_all (pl 0 0) (by omega) (by omega)
  have hlf0 : 0 ≤ liftX u ∧ liftX u ≤ 45 := by unfold liftX; omega
  refine g_cut1 (pc' := 66) (fun (y : Int) => [(0, .ref (gAd G 20)), (1, .int (iI what)), (2, .int (iI v))]) (fun (y : Int) => [.int (iI y)]) (fun (y : Int) => w) (fun (y : Int) => ((y = 1 ∧ okTell what v) ∨ (y = 0 ∧ ¬ okTell what v))) ?_ ?_
  · intro y hI_66
    have hy := hI_66
    try dsimp only at hy ⊢
    refine g_istore_n (lv' := [(3, .int (iI y)), (0, .ref (gAd G 20)), (1, .int (iI what)), (2, .int (iI v))]) X dX8_tell_66 rfl (by decide) rfl ?_
    refine g_iload_n X dX8_tell_67 rfl 0 rfl ?_
    refine g_if_ne (tgt := 73) X dX8_tell_68 (by decide) (by rcases hy with q | q <;> (rw [q.1]; exact ⟨by decide, by decide⟩)) (fun c_68 => ?_) (fun c_68 => ?_)
    · skip
      have hok : okTell what v := by rcases hy with q | q; exact q.2; exact absurd q.1 c_68
      have hwt := hok.1
      have hwt2 := hok.2.1
      have hold : w 20 5 what.toNat = u 0 what.toNat := rT what.toNat (by omega)
      have holdr : 0 ≤ u 0 what.toNat ∧ u 0 what.toNat ≤ 480 := by rcases (show what = 0 ∨ what = 1 ∨ what = 2 ∨ what = 3 by omega) with e | e | e | e <;> (subst e; first | exact sT.1 | exact ⟨sT.2.1.1, by have := sT.2.1.2; exact Int.le_trans this (by decide)⟩ | exact ⟨sT.2.2.1.1, Int.le_trans sT.2.2.1.2 (by decide)⟩ | exact ⟨Int.le_trans (by decide) sT.2.2.2.1, Int.le_trans sT.2.2.2.2 (by decide)⟩)
      refine g_aload_n X dX8_tell_73 rfl 1 rfl ?_
      refine g_geta X ck_X8 FM 5 (by decide) fl_X8_19 rfl dX8_tell_74 ?_
      refine g_iload_n X dX8_tell_77 rfl 2 rfl ?_
      refine h_iald (a := what) (j := (what).toNat) X rfl FM (by decide) (show fkX 8 5 = (1, 101) from rfl) (by decide) (by omega) (by omega) dX8_tell_78 ?_
      rw [show (w 20 5 (what).toNat : Int) = u 0 what.toNat from hold]
      refine g_istore (lv' := [(4, .int (iI (u 0 what.toNat))), (3, .int (iI y)), (0, .ref (gAd G 20)), (1, .int (iI what)), (2, .int (iI v))]) X dX8_tell_79 (by decide) rfl ?_
      refine g_iload X dX8_tell_81 0 rfl ?_
      refine g_iload_n X dX8_tell_83 rfl 4 rfl ?_
      refine g_icmp_ne (tgt := 90) X dX8_tell_84 (by decide) (by unfold InR; omega) (by exact hr_v) (fun c_84 => ?_) (fun c_84 => ?_)
      · skip
        refine g_aload_n X dX8_tell_90 rfl 2 rfl ?_
        refine g_callv (st := []) X (c_X8_note l G  w FM (by exact hch)) cm_X8_note im_X8_note se_X8_note ml_X8_175 ck_X8 FM ⟨Nat.le_of_ble_eq_true rfl, Nat.le_of_ble_eq_true rfl⟩ rfl rfl (Nat.le_of_ble_eq_true rfl) dX8_tell_91 ?_
        rintro u_91 ⟨nfr, n8, npast⟩
        have n5 : u_91 20 5 = w 20 5 := nfr 20 5 (by decide)
        have n4 : u_91 20 4 = w 20 4 := nfr 20 4 (by decide)
        have nN : NoteR w u_91 := ⟨n8, npast⟩
        have nC : TbC pl (u_91 20) := by unfold TbC; rw [nfr 20 10 (by decide), nfr 20 11 (by decide), nfr 20 12 (by decide)]; exact hC
        refine g_aload_n X dX8_tell_94 rfl 2 rfl ?_
        refine g_geta X ck_X8 FM 5 (by decide) fl_X8_19 rfl dX8_tell_95 ?_
        refine g_iload_n X dX8_tell_98 rfl 3 rfl ?_
        refine g_iload_n X dX8_tell_99 rfl 4 rfl ?_
        refine h_iast (a := what) (j := (what).toNat) X rfl FM (by decide) (show fkX 8 5 = (1, 101) from rfl) (by decide) (by omega) (by omega) dX8_tell_100 ?_
        obtain ⟨w_1, ew_1⟩ : ∃ q_ : Wd, q_ = up u_91 20 5 (what).toNat v := ⟨_, rfl⟩
        refine g_w (w' := w_1) ew_1 ?_
        refine g_iload X dX8_tell_101 0 rfl ?_
        exact g_iret X rfl rfl dX8_tell_103 (by
            refine Or.inr (Or.inr ⟨hok, c_84, rfl, ?_, ⟨?_, ?_⟩, ⟨?_, ?_, ?_, ?_⟩, ?_⟩)
            · rw [ew_1, up_row, n5]; exact rs_told hR (by omega) v
            · rw [ew_1, up_fn (by decide)]; exact n8
            · rw [ew_1, up_fn (by decide)]; exact npast
            · rw [ew_1, up_fn (by decide)]; exact nfr 20 0 (by decide)
            · rw [ew_1, up_fn (by decide)]; exact nfr 20 1 (by decide)
            · rw [ew_1, up_fn (by decide)]; exact nfr 20 4 (by decide)
            · rw [ew_1, up_fn (by decide)]; exact nfr 20 9 (by decide)
            · unfold TbC; rw [ew_1, up_fn (by decide), up_fn (by decide), up_fn (by decide)]; exact nC)
      · skip
        refine g_bipush X dX8_tell_87 (by decide) ?_
        exact g_iret X rfl rfl dX8_tell_89 (by exact Or.inr (Or.inl ⟨hok, Classical.not_not.mp c_84, rfl, rfl⟩))
    · skip
      refine g_iconst X dX8_tell_71 ?_
      exact g_iret X rfl rfl dX8_tell_72 (by refine Or.inl ⟨?_, rfl, rfl⟩; rcases hy with q | q; exact absurd (q.1.symm.trans (Classical.not_not.mp c_68)) (by decide); exact q.2)
  · intro J_66
    try dsimp only at J_66
    refine g_iload_n X dX8_tell_0 rfl 1 rfl ?_
    refine g_if_ne (tgt := 15) X dX8_tell_1 (by decide) (by exact hr_what) (fun c_1 => ?_) (fun c_1 => ?_)
    · skip
      refine g_iload_n X dX8_tell_15 rfl 1 rfl ?_
      refine g_iconst X dX8_tell_16 ?_
      refine g_icmp_ne (tgt := 31) X dX8_tell_17 (by decide) (by exact hr_what) ⟨by decide, by decide⟩ (fun c_17 => ?_) (fun c_17 => ?_)
      · skip
        refine g_iload_n X dX8_tell_31 rfl 1 rfl ?_
        refine g_iconst X dX8_tell_32 ?_
        refine g_icmp_ne (tgt := 46) X dX8_tell_33 (by decide) (by exact hr_what) ⟨by decide, by decide⟩ (fun c_33 => ?_) (fun c_33 => ?_)
        · skip
          refine g_iload_n X dX8_tell_46 rfl 1 rfl ?_
          refine g_iconst X dX8_tell_47 ?_
          refine g_icmp_ne (tgt := 65) X dX8_tell_48 (by decide) (by exact hr_what) ⟨by decide, by decide⟩ (fun c_48 => ?_) (fun c_48 => ?_)
          · skip
            refine g_iconst X dX8_tell_65 ?_
            refine g_lv (lv' := [(0, .ref (gAd G 20)), (1, .int (iI what)), (2, .int (iI v))]) [0, 1, 2] rfl ?_
            exact J_66 0 (by
                first
                | (by_cases h : 0 ≤ v ∧ v ≤ 480
                   · rw [if_pos h]; exact Or.inl ⟨rfl, (tell0 (by omega)).mpr h⟩
                   · rw [if_neg h]; exact Or.inr ⟨rfl, fun q => h ((tell0 (by omega)).mp q)⟩)
                | (by_cases h : 0 ≤ v ∧ v ≤ 240
                   · rw [if_pos h]; exact Or.inl ⟨rfl, (tell1 (by omega)).mpr h⟩
                   · rw [if_neg h]; exact Or.inr ⟨rfl, fun q => h ((tell1 (by omega)).mp q)⟩)
                | (by_cases h : 0 ≤ v ∧ v ≤ 45
                   · rw [if_pos h]; exact Or.inl ⟨rfl, (tell2 (by omega)).mpr h⟩
                   · rw [if_neg h]; exact Or.inr ⟨rfl, fun q => h ((tell2 (by omega)).mp q)⟩)
                | exact Or.inl ⟨rfl, (tell3 (by omega)).mpr (of_one c_58)⟩
                | exact Or.inr ⟨rfl, fun q => of_zero c_58 ((tell3 (by omega)).mp q)⟩
                | exact Or.inr ⟨rfl, fun q => by have a := q.1; have b := q.2.1; omega⟩)
          · skip
            refine g_iload_n X dX8_tell_51 rfl 2 rfl ?_
            refine g_iconst X dX8_tell_52 ?_
            refine g_bipush X dX8_tell_53 (by decide) ?_
            refine g_callsi (st := []) X (c_X8_in l G v 4 14 w (by first | assumption | omega | (unfold InR; omega)) (by first | assumption | omega | (unfold InR; omega)) (by first | assumption | omega | (unfold InR; omega))) cm_X8_in sm_X8_in ml_X8_61 ⟨Nat.le_of_ble_eq_true rfl, Nat.le_of_ble_eq_true rfl⟩ rfl rfl (Nat.le_of_ble_eq_true rfl) dX8_tell_55 (fn_i ?_)
            refine g_if_eq (tgt := 65) X dX8_tell_58 (by decide) (by exact in01) (fun c_58 => ?_) (fun c_58 => ?_)
            · skip
              refine g_iconst X dX8_tell_65 ?_
              refine g_lv (lv' := [(0, .ref (gAd G 20)), (1, .int (iI what)), (2, .int (iI v))]) [0, 1, 2] rfl ?_
              exact J_66 0 (by
                  first
                  | (by_cases h : 0 ≤ v ∧ v ≤ 480
                     · rw [if_pos h]; exact Or.inl ⟨rfl, (tell0 (by omega)).mpr h⟩
                     · rw [if_neg h]; exact Or.inr ⟨rfl, fun q => h ((tell0 (by omega)).mp q)⟩)
                  | (by_cases h : 0 ≤ v ∧ v ≤ 240
                     · rw [if_pos h]; exact Or.inl ⟨rfl, (tell1 (by omega)).mpr h⟩
                     · rw [if_neg h]; exact Or.inr ⟨rfl, fun q => h ((tell1 (by omega)).mp q)⟩)
                  | (by_cases h : 0 ≤ v ∧ v ≤ 45
                     · rw [if_pos h]; exact Or.inl ⟨rfl, (tell2 (by omega)).mpr h⟩
                     · rw [if_neg h]; exact Or.inr ⟨rfl, fun q => h ((tell2 (by omega)).mp q)⟩)
                  | exact Or.inl ⟨rfl, (tell3 (by omega)).mpr (of_one c_58)⟩
                  | exact Or.inr ⟨rfl, fun q => of_zero c_58 ((tell3 (by omega)).mp q)⟩
                  | exact Or.inr ⟨rfl, fun q => by have a := q.1; have b := q.2.1; omega⟩)
            · skip
              refine g_iconst X dX8_tell_61 ?_
              refine g_goto (tgt := 66) X dX8_tell_62 (by decide) ?_
              refine g_lv (lv' := [(0, .ref (gAd G 20)), (1, .int (iI what)), (2, .int (iI v))]) [0, 1, 2] rfl ?_
              exact J_66 1 (by
                  first
                  | (by_cases h : 0 ≤ v ∧ v ≤ 480
                     · rw [if_pos h]; exact Or.inl ⟨rfl, (tell0 (by omega)).mpr h⟩
                     · rw [if_neg h]; exact Or.inr ⟨rfl, fun q => h ((tell0 (by omega)).mp q)⟩)
                  | (by_cases h : 0 ≤ v ∧ v ≤ 240
                     · rw [if_pos h]; exact Or.inl ⟨rfl, (tell1 (by omega)).mpr h⟩
                     · rw [if_neg h]; exact Or.inr ⟨rfl, fun q => h ((tell1 (by omega)).mp q)⟩)
                  | (by_cases h : 0 ≤ v ∧ v ≤ 45
                     · rw [if_pos h]; exact Or.inl ⟨rfl, (tell2 (by omega)).mpr h⟩
                     · rw [if_neg h]; exact Or.inr ⟨rfl, fun q => h ((tell2 (by omega)).mp q)⟩)
                  | exact Or.inl ⟨rfl, (tell3 (by omega)).mpr (of_one c_58)⟩
                  | exact Or.inr ⟨rfl, fun q => of_zero c_58 ((tell3 (by omega)).mp q)⟩
                  | exact Or.inr ⟨rfl, fun q => by have a := q.1; have b := q.2.1; omega⟩)
        · skip
          refine g_iload_n X dX8_tell_36 rfl 2 rfl ?_
          refine g_iconst X dX8_tell_37 ?_
          refine g_bipush X dX8_tell_38 (by decide) ?_
          refine g_callsi (st := []) X (c_X8_in l G v 0 45 w (by first | assumption | omega | (unfold InR; omega)) (by first | assumption | omega | (unfold InR; omega)) (by first | assumption | omega | (unfold InR; omega))) cm_X8_in sm_X8_in ml_X8_61 ⟨Nat.le_of_ble_eq_true rfl, Nat.le_of_ble_eq_true rfl⟩ rfl rfl (Nat.le_of_ble_eq_true rfl) dX8_tell_40 (fn_i ?_)
          refine g_goto (tgt := 66) X dX8_tell_43 (by decide) ?_
          refine g_lv (lv' := [(0, .ref (gAd G 20)), (1, .int (iI what)), (2, .int (iI v))]) [0, 1, 2] rfl ?_
          exact J_66 (if 0 ≤ v ∧ v ≤ 45 then 1 else 0) (by
              first
              | (by_cases h : 0 ≤ v ∧ v ≤ 480
                 · rw [if_pos h]; exact Or.inl ⟨rfl, (tell0 (by omega)).mpr h⟩
                 · rw [if_neg h]; exact Or.inr ⟨rfl, fun q => h ((tell0 (by omega)).mp q)⟩)
              | (by_cases h : 0 ≤ v ∧ v ≤ 240
                 · rw [if_pos h]; exact Or.inl ⟨rfl, (tell1 (by omega)).mpr h⟩
                 · rw [if_neg h]; exact Or.inr ⟨rfl, fun q => h ((tell1 (by omega)).mp q)⟩)
              | (by_cases h : 0 ≤ v ∧ v ≤ 45
                 · rw [if_pos h]; exact Or.inl ⟨rfl, (tell2 (by omega)).mpr h⟩
                 · rw [if_neg h]; exact Or.inr ⟨rfl, fun q => h ((tell2 (by omega)).mp q)⟩)
              | exact Or.inl ⟨rfl, (tell3 (by omega)).mpr (of_one c_58)⟩
              | exact Or.inr ⟨rfl, fun q => of_zero c_58 ((tell3 (by omega)).mp q)⟩
              | exact Or.inr ⟨rfl, fun q => by have a := q.1; have b := q.2.1; omega⟩)
      · skip
        refine g_iload_n X dX8_tell_20 rfl 2 rfl ?_
        refine g_iconst X dX8_tell_21 ?_
        refine g_sipush X dX8_tell_22 (by decide) ?_
        refine g_callsi (st := []) X (c_X8_in l G v 0 240 w (by first | assumption | omega | (unfold InR; omega)) (by first | assumption | omega | (unfold InR; omega)) (by first | assumption | omega | (unfold InR; omega))) cm_X8_in sm_X8_in ml_X8_61 ⟨Nat.le_of_ble_eq_true rfl, Nat.le_of_ble_eq_true rfl⟩ rfl rfl (Nat.le_of_ble_eq_true rfl) dX8_tell_25 (fn_i ?_)
        refine g_goto (tgt := 66) X dX8_tell_28 (by decide) ?_
        refine g_lv (lv' := [(0, .ref (gAd G 20)), (1, .int (iI what)), (2, .int (iI v))]) [0, 1, 2] rfl ?_
        exact J_66 (if 0 ≤ v ∧ v ≤ 240 then 1 else 0) (by
            first
            | (by_cases h : 0 ≤ v ∧ v ≤ 480
               · rw [if_pos h]; exact Or.inl ⟨rfl, (tell0 (by omega)).mpr h⟩
               · rw [if_neg h]; exact Or.inr ⟨rfl, fun q => h ((tell0 (by omega)).mp q)⟩)
            | (by_cases h : 0 ≤ v ∧ v ≤ 240
               · rw [if_pos h]; exact Or.inl ⟨rfl, (tell1 (by omega)).mpr h⟩
               · rw [if_neg h]; exact Or.inr ⟨rfl, fun q => h ((tell1 (by omega)).mp q)⟩)
            | (by_cases h : 0 ≤ v ∧ v ≤ 45
               · rw [if_pos h]; exact Or.inl ⟨rfl, (tell2 (by omega)).mpr h⟩
               · rw [if_neg h]; exact Or.inr ⟨rfl, fun q => h ((tell2 (by omega)).mp q)⟩)
            | exact Or.inl ⟨rfl, (tell3 (by omega)).mpr (of_one c_58)⟩
            | exact Or.inr ⟨rfl, fun q => of_zero c_58 ((tell3 (by omega)).mp q)⟩
            | exact Or.inr ⟨rfl, fun q => by have a := q.1; have b := q.2.1; omega⟩)
    · skip
      refine g_iload_n X dX8_tell_4 rfl 2 rfl ?_
      refine g_iconst X dX8_tell_5 ?_
      refine g_sipush X dX8_tell_6 (by decide) ?_
      refine g_callsi (st := []) X (c_X8_in l G v 0 480 w (by first | assumption | omega | (unfold InR; omega)) (by first | assumption | omega | (unfold InR; omega)) (by first | assumption | omega | (unfold InR; omega))) cm_X8_in sm_X8_in ml_X8_61 ⟨Nat.le_of_ble_eq_true rfl, Nat.le_of_ble_eq_true rfl⟩ rfl rfl (Nat.le_of_ble_eq_true rfl) dX8_tell_9 (fn_i ?_)
      refine g_goto (tgt := 66) X dX8_tell_12 (by decide) ?_
      refine g_lv (lv' := [(0, .ref (gAd G 20)), (1, .int (iI what)), (2, .int (iI v))]) [0, 1, 2] rfl ?_
      exact J_66 (if 0 ≤ v ∧ v ≤ 480 then 1 else 0) (by
          first
          | (by_cases h : 0 ≤ v ∧ v ≤ 480
             · rw [if_pos h]; exact Or.inl ⟨rfl, (tell0 (by omega)).mpr h⟩
             · rw [if_neg h]; exact Or.inr ⟨rfl, fun q => h ((tell0 (by omega)).mp q)⟩)
          | (by_cases h : 0 ≤ v ∧ v ≤ 240
             · rw [if_pos h]; exact Or.inl ⟨rfl, (tell1 (by omega)).mpr h⟩
             · rw [if_neg h]; exact Or.inr ⟨rfl, fun q => h ((tell1 (by omega)).mp q)⟩)
          | (by_cases h : 0 ≤ v ∧ v ≤ 45
             · rw [if_pos h]; exact Or.inl ⟨rfl, (tell2 (by omega)).mpr h⟩
             · rw [if_neg h]; exact Or.inr ⟨rfl, fun q => h ((tell2 (by omega)).mp q)⟩)
          | exact Or.inl ⟨rfl, (tell3 (by omega)).mpr (of_one c_58)⟩
          | exact Or.inr ⟨rfl, fun q => of_zero c_58 ((tell3 (by omega)).mp q)⟩
          | exact Or.inr ⟨rfl, fun q => by have a := q.1; have b := q.2.1; omega⟩)
set_option maxHeartbeats 4000000 in
set_option maxRecDepth 100000 in
theorem c_X8_tick (l : Launch) (G : Ly) (n : Int) (pl : Nat → Nat → Int) (u : Nat → Nat → Int) (B : Int) (w : Wd) (FM : gOb G 20 = some 8) (hT : PlR pl (w 20 4)) (hp : PV pl) (hR : RS u (w 20 5)) (hS : SV B (pl 0 0) u) (hU : SU (pl 0 0) u) (hB : B ≤ 99000) (hC : TbC pl (w 20)) (hch : 0 ≤ w 20 8 0 ∧ w 20 8 0 ≤ 4) (hB1 : B = 9 * u 1 0) (hr_n : InR n) : Mi l yX8_tick cX8_tick 4 (some .int) 7 172 G [.ref (gAd G 20), .int (iI n)] w (fun z w2 => ((n < 1 ∨ 60 < n) ∧ z = -1 ∧ w2 = w) ∨ (1 ≤ n ∧ n ≤ 60 ∧ 9999 < u 1 0 + n ∧ z = -2 ∧ w2 = w) ∨ (1 ≤ n ∧ n ≤ 60 ∧ u 1 0 + n ≤ 9999 ∧ ∃ q, TickR pl u n.toNat q ∧ z = sumN (q 12) 6 - sumN (u 12) 6 ∧ RS q (w2 20 5) ∧ SU (pl 0 0) q ∧ NoteR w w2 ∧ MF w w2 ∧ TbC pl (w2 20))) := by
  refine mi_of (lv := [(0, .ref (gAd G 20)), (1, .int (iI n))]) (by decide) (Nat.le_of_ble_eq_true rfl) rfl ?_
  intro p_ e_ s_ m_ b_ h_ c_ X
  have hp0 := hp.1
  have hp7 := hp.2.2
  have t36 := hT.1
  have sT := hS.1
  have sB := hS.2.1
  have sC := hS.2.2.1
  have sD := hS.2.2.2.1
  have sE := hS.2.2.2.2.1
  have sF := hS.2.2.2.2.2.1
  have sG := hS.2.2.2.2.2.2.1
  have sH := hS.2.2.2.2.2.2.2
  have rT := hR.1
  have rB := hR.2.1
  have rL := hR.2.2.1
  have rM := hR.2.2.2
  have uA := hU.1
  have hrun := bt_or (s := u 6 0) (t := u 7 0) (by omega) (by omega) (by omega) (by omega)
  have r00 : w 20 5 0 = u 0 0 := rT 0 (by decide)
  have r01 : w 20 5 1 = u 0 1 := rT 1 (by decide)
  have r02 : w 20 5 2 = u 0 2 := rT 2 (by decide)
  have r03 : w 20 5 3 = u 0 3 := rT 3 (by decide)
  have r04 : w 20 5 4 = u 1 0 := rB.1
  have hall := bt_all (pl 0 0) (by omega) (by omega)
  have hlf0 : 0 ≤ liftX u ∧ liftX u ≤ 45 := by unfold liftX; omega
  have r07 : w 20 5 7 = sumN (u 12) 6 := rB.2.2.2.1
  refine g_iload_n X dX8_tick_0 rfl 1 rfl ?_
  refine g_iconst X dX8_tick_1 ?_
  refine g_bipush X dX8_tick_2 (by decide) ?_
  refine g_callsi (st := []) X (c_X8_in l G n 1 60 w (by exact hr_n) (by first | assumption | omega | (unfold InR; omega)) (by first | assumption | omega | (unfold InR; omega))) cm_X8_in sm_X8_in ml_X8_61 ⟨Nat.le_of_ble_eq_true rfl, Nat.le_of_ble_eq_true rfl⟩ rfl rfl (Nat.le_of_ble_eq_true rfl) dX8_tick_4 (fn_i ?_)
  refine g_if_ne (tgt := 12) X dX8_tick_7 (by decide) (by exact in01) (fun c_7 => ?_) (fun c_7 => ?_)
  · skip
    refine g_aload_n X dX8_tick_12 rfl 0 rfl ?_
    refine g_geta X ck_X8 FM 5 (by decide) fl_X8_19 rfl dX8_tick_13 ?_
    refine g_iconst X dX8_tick_16 ?_
    refine h_iald (a := 4) (j := 4) X rfl FM (by decide) (show fkX 8 5 = (1, 101) from rfl) (by decide) (by omega) (by omega) dX8_tick_17 ?_
    rw [show (w 20 5 4 : Int) = u 1 0 from r04]
    refine g_iload_n X dX8_tick_18 rfl 1 rfl ?_
    refine g_iadd X dX8_tick_19 ?_
    refine g_sipush X dX8_tick_20 (by decide) ?_
    refine g_icmp_le (tgt := 29) X dX8_tick_23 (by decide) (by have := of_one c_7; unfold InR; omega) ⟨by decide, by decide⟩ (fun c_23 => ?_) (fun c_23 => ?_)
    · skip
      refine g_aload_n X dX8_tick_29 rfl 0 rfl ?_
      refine g_callv (st := []) X (c_X8_note l G  w FM (by exact hch)) cm_X8_note im_X8_note se_X8_note ml_X8_175 ck_X8 FM ⟨Nat.le_of_ble_eq_true rfl, Nat.le_of_ble_eq_true rfl⟩ rfl rfl (Nat.le_of_ble_eq_true rfl) dX8_tick_30 ?_
      rintro u_30 ⟨nfr, n8, npast⟩
      have n5 : u_30 20 5 = w 20 5 := nfr 20 5 (by decide)
      have n4 : u_30 20 4 = w 20 4 := nfr 20 4 (by decide)
      have nN : NoteR w u_30 := ⟨n8, npast⟩
      have nC : TbC pl (u_30 20) := by unfold TbC; rw [nfr 20 10 (by decide), nfr 20 11 (by decide), nfr 20 12 (by decide)]; exact hC
      refine g_aload_n X dX8_tick_33 rfl 0 rfl ?_
      refine g_geta X ck_X8 FM 5 (by decide) fl_X8_19 rfl dX8_tick_34 ?_
      refine g_bipush X dX8_tick_37 (by decide) ?_
      refine h_iald (a := 7) (j := 7) X rfl FM (by decide) (show fkX 8 5 = (1, 101) from rfl) (by decide) (by omega) (by omega) dX8_tick_39 ?_
      rw [show (u_30 20 5 7 : Int) = sumN (u 12) 6 from (by rw [n5]; exact r07)]
      refine g_istore_n (lv' := [(2, .int (iI (sumN (u 12) 6))), (0, .ref (gAd G 20)), (1, .int (iI n))]) X dX8_tick_40 rfl (by decide) rfl ?_
      refine g_iconst X dX8_tick_41 ?_
      refine g_istore_n (lv' := [(3, .int (iI 0)), (2, .int (iI (sumN (u 12) 6))), (0, .ref (gAd G 20)), (1, .int (iI n))]) X dX8_tick_42 rfl (by decide) rfl ?_
      refine g_lv (lv' := [(0, .ref (gAd G 20)), (1, .int (iI n)), (2, .int (iI (sumN (u 12) 6))), (3, .int (iI 0))]) [2, 3, 1, 0] rfl ?_
      refine g_loop2 (fun (k : Int) (w1 : Wd) => [(0, .ref (gAd G 20)), (1, .int (iI n)), (2, .int (iI (sumN (u 12) 6))), (3, .int (iI k))]) (fun (k : Int) (w1 : Wd) => w1) (fun (k : Int) (w1 : Wd) => (0 ≤ k) ∧ (k ≤ n) ∧ (Hid (∃ q, TickR pl u k.toNat q ∧ RS q (w1 20 5) ∧ SU (pl 0 0) q ∧ SV (9 * (u 1 0 + k)) (pl 0 0) q)) ∧ (∀ o f, ¬ (o = 20 ∧ (f = 5 ∨ (10 ≤ f ∧ f ≤ 13))) → w1 o f = u_30 o f) ∧ (TbC pl (w1 20))) (fun (k : Int) (w1 : Wd) => (n - k).toNat) 0 u_30 ⟨(by first | omega | rfl | assumption), (by have := of_one c_7; omega), (by exact ⟨u, rfl, by rw [n5]; exact hR, hU, by rw [Int.add_zero, ← hB1]; exact hS⟩), (by intro _ _ _; rfl), (by exact nC)⟩ ?_
      intro k w1 hI_43 ih_43
      obtain ⟨h0, h1, hti, hfr, hC1⟩ := hI_43
      try dsimp only at ih_43 ⊢
      refine g_iload_n X dX8_tick_43 rfl 3 rfl ?_
      refine g_iload_n X dX8_tick_44 rfl 1 rfl ?_
      refine g_icmp_ge (tgt := 58) X dX8_tick_45 (by decide) (by unfold InR; omega) (by exact hr_n) (fun c_45 => ?_) (fun c_45 => ?_)
      · skip
        obtain ⟨q, g1, g2, g3, g4⟩ := id hti
        have hkn : k = n := by omega
        have g07 : w1 20 5 7 = sumN (q 12) 6 := g2.2.1.2.2.2.1
        refine g_aload_n X dX8_tick_58 rfl 0 rfl ?_
        refine g_geta X ck_X8 FM 5 (by decide) fl_X8_19 rfl dX8_tick_59 ?_
        refine g_bipush X dX8_tick_62 (by decide) ?_
        refine h_iald (a := 7) (j := 7) X rfl FM (by decide) (show fkX 8 5 = (1, 101) from rfl) (by decide) (by omega) (by omega) dX8_tick_64 ?_
        rw [show (w1 20 5 7 : Int) = sumN (q 12) 6 from g07]
        refine g_iload_n X dX8_tick_65 rfl 2 rfl ?_
        refine g_isub X dX8_tick_66 ?_
        exact g_iret X rfl rfl dX8_tick_67 (by
            have := of_one c_7
            rw [hkn] at g1
            refine Or.inr (Or.inr ⟨by omega, by omega, by omega, q, g1, rfl, g2, g3, ⟨?_, ?_⟩, ⟨?_, ?_, ?_, ?_⟩, hC1⟩)
            · rw [hfr 20 8 (by decide)]; exact n8
            · rw [hfr 20 7 (by decide)]; exact npast
            · rw [hfr 20 0 (by decide)]; exact nfr 20 0 (by decide)
            · rw [hfr 20 1 (by decide)]; exact nfr 20 1 (by decide)
            · rw [hfr 20 4 (by decide)]; exact nfr 20 4 (by decide)
            · rw [hfr 20 9 (by decide)]; exact nfr 20 9 (by decide))
      · skip
        obtain ⟨q, g1, g2, g3, g4⟩ := id hti
        refine g_aload_n X dX8_tick_48 rfl 0 rfl ?_
        refine g_callv (st := []) X (c_X8_tickOnce l G pl q (9 * (u 1 0 + k)) w1 FM (by rw [hfr 20 4 (by decide), n4]; exact hT) (by first | assumption | omega | (unfold InR; omega)) (by first | assumption | omega | (unfold InR; omega)) (by first | assumption | omega | (unfold InR; omega)) (by first | assumption | omega | (unfold InR; omega)) (by omega) (by first | assumption | omega | (unfold InR; omega)) (by omega)) cm_X8_tickOnce im_X8_tickOnce se_X8_tickOnce ml_X8_181 ck_X8 FM ⟨Nat.le_of_ble_eq_true rfl, Nat.le_of_ble_eq_true rfl⟩ rfl rfl (Nat.le_of_ble_eq_true rfl) dX8_tick_49 ?_
        rintro u_49 ⟨e, x1, x2, x3, x4, x5⟩
        refine g_iinc (j := 3) (lv' := [(3, .int (iI (k + 1))), (0, .ref (gAd G 20)), (1, .int (iI n)), (2, .int (iI (sumN (u 12) 6)))]) X dX8_tick_52 rfl (by decide) rfl ?_
        refine g_goto (tgt := 43) X dX8_tick_55 (by decide) ?_
        refine g_lv (lv' := [(0, .ref (gAd G 20)), (1, .int (iI n)), (2, .int (iI (sumN (u 12) 6))), (3, .int (iI (k + 1)))]) [1, 2, 3, 0] rfl ?_
        exact ih_43 (k + 1) u_49 ⟨(by first | omega | rfl | assumption), (by first | omega | rfl | assumption), (by
            refine ⟨psX pl q e, ?_, x2, x3, ?_⟩
            · rw [show (k + 1).toNat = k.toNat + 1 by omega]; exact ⟨q, e, g1, x1, rfl⟩
            · exact sv_mono (sv_ps hp g4 (by omega)) (by omega)), (by intro o f h; rw [x4 o f h]; exact hfr o f h), (by exact x5)⟩ (by omega)
    · skip
      refine g_bipush X dX8_tick_26 (by decide) ?_
      exact g_iret X rfl rfl dX8_tick_28 (by have := of_one c_7; exact Or.inr (Or.inl ⟨by omega, by omega, by omega, rfl, rfl⟩))
  · skip
    refine g_iconst X dX8_tick_10 ?_
    exact g_iret X rfl rfl dX8_tick_11 (by refine Or.inl ⟨?_, rfl, rfl⟩; have := of_zero (Classical.not_not.mp c_7); omega)
