theorem taX_congr {u : Nat → Nat → Int} {c : Int} {v v' : Nat → Int} (h : ∀ k, k < kNX c → v k = v' k) : taX u c v = taX u c v' := by
  unfold taX
  by_cases c1 : c = 99
  · subst c1
    have h' : ∀ k, k < 6 → v k = v' k := h
    rw [if_pos rfl, if_pos rfl]
    unfold tmX
    rw [h' 0 (by decide), h' 1 (by decide), h' 2 (by decide), h' 3 (by decide), h' 4 (by decide), h' 5 (by decide)]
  · rw [if_neg c1, if_neg c1]
    by_cases c2 : c = 114
    · subst c2
      have h' : ∀ k, k < 4 → v k = v' k := h
      rw [if_pos rfl, if_pos rfl, h' 0 (by decide), h' 1 (by decide), h' 2 (by decide), h' 3 (by decide)]
    · rw [if_neg c2, if_neg c2]
      have hk : kNX c = 3 := by unfold kNX; rw [if_neg c1, if_neg c2]
      rw [hk] at h
      split
      · rw [h 0 (by decide), h 1 (by decide), h 2 (by decide)]
      · rfl
set_option maxHeartbeats 4000000 in
set_option maxRecDepth 100000 in
theorem c_X3_readItem (l : Launch) (G : Ly) (start : Int) (w : Wd) (F : FX G) (hL : 0 ≤ w 1 0 0 ∧ w 1 0 0 ≤ 200) (hT : ∀ j : Nat, j < 200 → 0 ≤ w 1 1 j ∧ w 1 1 j ≤ 126) (hN : ∀ j : Nat, j < 6 → 0 ≤ w 1 2 j ∧ w 1 2 j ≤ 99) (hs : 0 ≤ start ∧ start ≤ 900) : Mi l yX3_readItem cX3_readItem 4 (some .int) 3 71 G [.ref (gAd G 1), .int (iI start)] w (fun z w2 => z = itX (w 1 1) (w 1 0 0) start ∧ (∀ o2 f j, ¬ (o2 = 1 ∧ f = 2) → w2 o2 f j = w o2 f j) ∧ (∀ j : Nat, j < 6 → 0 ≤ w2 1 2 j ∧ w2 1 2 j ≤ 99) ∧ (z ≠ -4 → ∀ k, k < kNX (ltX (w 1 1) (w 1 0 0) start) → w2 1 2 k = ivX (w 1 1) (w 1 0 0) start k)) := by
  refine mi_of (lv := [(0, .ref (gAd G 1)), (1, .int (iI start))]) (by decide) (Nat.le_of_ble_eq_true rfl) rfl ?_
  intro p_ e_ s_ m_ b_ h_ c_ X
  have hr := ltX_in hT hL.2 start
  refine g_aload_n X dX3_readItem_0 rfl 0 rfl ?_
  refine g_iload_n X dX3_readItem_1 rfl 1 rfl ?_
  refine g_calli (st := []) X (c_X3_letterAt l G start w F (by first | assumption | omega | (unfold InR; omega)) (by first | assumption | omega | (unfold InR; omega)) (by first | assumption | omega | (unfold InR; omega))) cm_X3_letterAt im_X3_letterAt se_X3_letterAt ml_X3_39 ck_X3 (fx1 F) ⟨Nat.le_of_ble_eq_true rfl, Nat.le_of_ble_eq_true rfl⟩ rfl rfl (Nat.le_of_ble_eq_true rfl) dX3_readItem_2 (fn_i ?_)
  refine g_istore_n (lv' := [(2, .int (iI (ltX (w 1 1) (w 1 0 0) start))), (0, .ref (gAd G 1)), (1, .int (iI start))]) X dX3_readItem_5 rfl (by decide) rfl ?_
  refine g_iload_n X dX3_readItem_6 rfl 0 rfl ?_
  refine g_bipush X dX3_readItem_7 (by decide) ?_
  refine g_icmp_ne (tgt := 48) X dX3_readItem_9 (by decide) (by unfold InR; omega) ⟨by decide, by decide⟩ (fun c_9 => ?_) (fun c_9 => ?_)
  · skip
    refine g_iload_n X dX3_readItem_48 rfl 0 rfl ?_
    refine g_bipush X dX3_readItem_49 (by decide) ?_
    refine g_icmp_ne (tgt := 68) X dX3_readItem_51 (by decide) (by unfold InR; omega) ⟨by decide, by decide⟩ (fun c_51 => ?_) (fun c_51 => ?_)
    · skip
      refine g_iload_n X dX3_readItem_68 rfl 0 rfl ?_
      refine g_bipush X dX3_readItem_69 (by decide) ?_
      refine g_icmp_ne (tgt := 88) X dX3_readItem_71 (by decide) (by unfold InR; omega) ⟨by decide, by decide⟩ (fun c_71 => ?_) (fun c_71 => ?_)
      · skip
        refine g_bipush X dX3_readItem_88 (by decide) ?_
        exact g_iret X rfl rfl dX3_readItem_90 (by refine ⟨?_, fun _ _ _ _ => rfl, hN, fun h => absurd rfl h⟩; unfold itX; rw [if_neg (by omega), if_neg (by omega), if_neg (by omega)])
      · skip
        have hc : ltX (w 1 1) (w 1 0 0) start = 104 := by omega
        have hip : ∀ k, ipX (w 1 1) (w 1 0 0) start k = rqX (w 1 1) (w 1 0 0) 3 (loX 7) (loX 8) (start + 1) k := by
          intro k
          unfold ipX kNX kAX
          rw [hc]
          rfl
        have hkn : kNX (ltX (w 1 1) (w 1 0 0) start) = 3 := by rw [hc]; rfl
        refine g_aload_n X dX3_readItem_74 rfl 1 rfl ?_
        refine g_iload_n X dX3_readItem_75 rfl 2 rfl ?_
        refine g_iconst X dX3_readItem_76 ?_
        refine g_iadd X dX3_readItem_77 ?_
        refine g_getsN X 7 (by decide) fn_X3_56 dX3_readItem_78 ?_
        refine g_getsN X 8 (by decide) fn_X3_59 dX3_readItem_81 ?_
        refine g_calli (st := []) X (c_X3_readNumbers_v7 l G (start + 1) w F (by first | assumption | omega | (unfold InR; omega)) (by first | assumption | omega | (unfold InR; omega)) (by first | assumption | omega | (unfold InR; omega)) (by first | assumption | omega | (unfold InR; omega))) cm_X3_readNumbers im_X3_readNumbers se_X3_readNumbers ml_X3_46 ck_X3 (fx1 F) ⟨Nat.le_of_ble_eq_true rfl, Nat.le_of_ble_eq_true rfl⟩ rfl rfl (Nat.le_of_ble_eq_true rfl) dX3_readItem_84 ?_
        rintro z_84 u_84 ⟨hz, hfr, hn1, hv⟩
        exact g_iret X rfl rfl dX3_readItem_87 (by
            refine ⟨?_, hfr, hn1, ?_⟩
            · unfold itX
              rw [if_neg (by omega), if_neg (by omega), if_pos hc, hip]
              exact hz
            · intro h k hk
              rw [hkn] at hk
              unfold ivX
              rw [hip]
              exact hv h k hk)
    · skip
      have hc : ltX (w 1 1) (w 1 0 0) start = 114 := by omega
      have hip : ∀ k, ipX (w 1 1) (w 1 0 0) start k = rqX (w 1 1) (w 1 0 0) 4 (loX 5) (loX 6) (start + 1) k := by
        intro k
        unfold ipX kNX kAX
        rw [hc]
        rfl
      have hkn : kNX (ltX (w 1 1) (w 1 0 0) start) = 4 := by rw [hc]; rfl
      refine g_aload_n X dX3_readItem_54 rfl 1 rfl ?_
      refine g_iload_n X dX3_readItem_55 rfl 2 rfl ?_
      refine g_iconst X dX3_readItem_56 ?_
      refine g_iadd X dX3_readItem_57 ?_
      refine g_getsN X 5 (by decide) fn_X3_50 dX3_readItem_58 ?_
      refine g_getsN X 6 (by decide) fn_X3_53 dX3_readItem_61 ?_
      refine g_calli (st := []) X (c_X3_readNumbers_v5 l G (start + 1) w F (by first | assumption | omega | (unfold InR; omega)) (by first | assumption | omega | (unfold InR; omega)) (by first | assumption | omega | (unfold InR; omega)) (by first | assumption | omega | (unfold InR; omega))) cm_X3_readNumbers im_X3_readNumbers se_X3_readNumbers ml_X3_46 ck_X3 (fx1 F) ⟨Nat.le_of_ble_eq_true rfl, Nat.le_of_ble_eq_true rfl⟩ rfl rfl (Nat.le_of_ble_eq_true rfl) dX3_readItem_64 ?_
      rintro z_64 u_64 ⟨hz, hfr, hn1, hv⟩
      exact g_iret X rfl rfl dX3_readItem_67 (by
          refine ⟨?_, hfr, hn1, ?_⟩
          · unfold itX
            rw [if_neg (by omega), if_pos hc, hip]
            exact hz
          · intro h k hk
            rw [hkn] at hk
            unfold ivX
            rw [hip]
            exact hv h k hk)
  · skip
    have hc : ltX (w 1 1) (w 1 0 0) start = 99 := by omega
    have hip : ∀ k, ipX (w 1 1) (w 1 0 0) start k = rqX (w 1 1) (w 1 0 0) 6 (loX 3) (loX 4) (start + 1) k := by
      intro k
      unfold ipX kNX kAX
      rw [hc]
      rfl
    have hkn : kNX (ltX (w 1 1) (w 1 0 0) start) = 6 := by rw [hc]; rfl
    refine g_aload_n X dX3_readItem_12 rfl 1 rfl ?_
    refine g_iload_n X dX3_readItem_13 rfl 2 rfl ?_
    refine g_iconst X dX3_readItem_14 ?_
    refine g_iadd X dX3_readItem_15 ?_
    refine g_getsN X 3 (by decide) fn_X3_43 dX3_readItem_16 ?_
    refine g_getsN X 4 (by decide) fn_X3_15 dX3_readItem_19 ?_
    refine g_calli (st := []) X (c_X3_readNumbers_v3 l G (start + 1) w F (by first | assumption | omega | (unfold InR; omega)) (by first | assumption | omega | (unfold InR; omega)) (by first | assumption | omega | (unfold InR; omega)) (by first | assumption | omega | (unfold InR; omega))) cm_X3_readNumbers im_X3_readNumbers se_X3_readNumbers ml_X3_46 ck_X3 (fx1 F) ⟨Nat.le_of_ble_eq_true rfl, Nat.le_of_ble_eq_true rfl⟩ rfl rfl (Nat.le_of_ble_eq_true rfl) dX3_readItem_22 ?_
    rintro z_22 u_22 ⟨hz, hfr, hn1, hv⟩
    have n0 := hn1 0 (by decide)
    have n1 := hn1 1 (by decide)
    refine g_istore_n (lv' := [(3, .int (iI z_22)), (2, .int (iI (ltX (w 1 1) (w 1 0 0) start))), (0, .ref (gAd G 1)), (1, .int (iI start))]) X dX3_readItem_25 rfl (by decide) rfl ?_
    refine g_aload_n X dX3_readItem_26 rfl 2 rfl ?_
    refine g_geta X ck_X3 (fx1 F) 2 (by decide) fl_X3_19 rfl dX3_readItem_27 ?_
    refine g_iconst X dX3_readItem_30 ?_
    refine h_iald (a := 0) (j := 0) X rfl (fx1 F) (by decide) (show fkX 3 2 = (1, 6) from rfl) (by decide) (by omega) (by omega) dX3_readItem_31 ?_
    refine g_aload_n X dX3_readItem_32 rfl 2 rfl ?_
    refine g_geta X ck_X3 (fx1 F) 2 (by decide) fl_X3_19 rfl dX3_readItem_33 ?_
    refine g_iconst X dX3_readItem_36 ?_
    refine h_iald (a := 1) (j := 1) X rfl (fx1 F) (by decide) (show fkX 3 2 = (1, 6) from rfl) (by decide) (by omega) (by omega) dX3_readItem_37 ?_
    refine g_icmp_gt (tgt := 45) X dX3_readItem_38 (by decide) (by unfold InR; omega) (by unfold InR; omega) (fun c_38 => ?_) (fun c_38 => ?_)
    · skip
      refine g_bipush X dX3_readItem_45 (by decide) ?_
      exact g_iret X rfl rfl dX3_readItem_47 (by
          refine ⟨?_, hfr, hn1, ?_⟩
          · unfold itX
            rw [if_pos hc, hip 6]
            by_cases q : z_22 = -4
            · rw [← hz, q]
              split <;> first | rfl | exact q
            · have v0 : u_22 1 2 0 = ivX (w 1 1) (w 1 0 0) start 0 := by rw [hv q 0 (by decide)]; unfold ivX; rw [hip]
              have v1 : u_22 1 2 1 = ivX (w 1 1) (w 1 0 0) start 1 := by rw [hv q 1 (by decide)]; unfold ivX; rw [hip]
              rw [v0, v1] at c_38
              first
              | rw [if_pos (by omega)]; exact hz
              | rw [if_neg (by omega)]
          · intro h k hk
            rw [hkn] at hk
            first
            | (unfold ivX; rw [hip]; exact hv h k hk)
            | exact absurd rfl h)
    · skip
      refine g_iload_n X dX3_readItem_41 rfl 0 rfl ?_
      refine g_goto (tgt := 47) X dX3_readItem_42 (by decide) ?_
      exact g_iret X rfl rfl dX3_readItem_47 (by
          refine ⟨?_, hfr, hn1, ?_⟩
          · unfold itX
            rw [if_pos hc, hip 6]
            by_cases q : z_22 = -4
            · rw [← hz, q]
              split <;> first | rfl | exact q
            · have v0 : u_22 1 2 0 = ivX (w 1 1) (w 1 0 0) start 0 := by rw [hv q 0 (by decide)]; unfold ivX; rw [hip]
              have v1 : u_22 1 2 1 = ivX (w 1 1) (w 1 0 0) start 1 := by rw [hv q 1 (by decide)]; unfold ivX; rw [hip]
              rw [v0, v1] at c_38
              first
              | rw [if_pos (by omega)]; exact hz
              | rw [if_neg (by omega)]
          · intro h k hk
            rw [hkn] at hk
            first
            | (unfold ivX; rw [hip]; exact hv h k hk)
            | exact absurd rfl h)
set_option maxHeartbeats 4000000 in
set_option maxRecDepth 100000 in
theorem c_X3_firstFault (l : Launch) (G : Ly)  (w : Wd) (F : FX G) (hL : 0 ≤ w 1 0 0 ∧ w 1 0 0 ≤ 200) (hT : ∀ j : Nat, j < 200 → 0 ≤ w 1 1 j ∧ w 1 1 j ≤ 126) (hN : ∀ j : Nat, j < 6 → 0 ≤ w 1 2 j ∧ w 1 2 j ≤ 99) : Mi l yX3_firstFault cX3_firstFault 5 (some .int) 4 94 G [.ref (gAd G 1)] w (fun z w2 => z = (scX (w 1 1) (w 1 0 0) 200).2.2 ∧ (∀ o2 f j, ¬ (o2 = 1 ∧ f = 2) → w2 o2 f j = w o2 f j) ∧ (∀ j : Nat, j < 6 → 0 ≤ w2 1 2 j ∧ w2 1 2 j ≤ 99)) := by
  refine mi_of (lv := [(0, .ref (gAd G 1))]) (by decide) (Nat.le_of_ble_eq_true rfl) rfl ?_
  intro p_ e_ s_ m_ b_ h_ c_ X
  refine g_iconst X dX3_firstFault_0 ?_
  refine g_istore_n (lv' := [(1, .int (iI 0)), (0, .ref (gAd G 1))]) X dX3_firstFault_1 rfl (by decide) rfl ?_
  refine g_iconst X dX3_firstFault_2 ?_
  refine g_istore_n (lv' := [(2, .int (iI 0)), (1, .int (iI 0)), (0, .ref (gAd G 1))]) X dX3_firstFault_3 rfl (by decide) rfl ?_
  refine g_iconst X dX3_firstFault_4 ?_
  refine g_istore_n (lv' := [(3, .int (iI 0)), (2, .int (iI 0)), (1, .int (iI 0)), (0, .ref (gAd G 1))]) X dX3_firstFault_5 rfl (by decide) rfl ?_
  refine g_lv (lv' := [(0, .ref (gAd G 1)), (1, .int (iI 0)), (2, .int (iI 0)), (3, .int (iI 0))]) [3, 2, 1, 0] rfl ?_
  refine g_loop4 (fun (place : Int) (many : Int) (k : Int) (w1 : Wd) => [(0, .ref (gAd G 1)), (1, .int (iI place)), (2, .int (iI many)), (3, .int (iI k))]) (fun (place : Int) (many : Int) (k : Int) (w1 : Wd) => w1) (fun (place : Int) (many : Int) (k : Int) (w1 : Wd) => (0 ≤ k) ∧ (k ≤ 200) ∧ (place = (scX (w 1 1) (w 1 0 0) k.toNat).1) ∧ (many = (scX (w 1 1) (w 1 0 0) k.toNat).2.1) ∧ ((scX (w 1 1) (w 1 0 0) k.toNat).2.2 = -4) ∧ (∀ o2 f j, ¬ (o2 = 1 ∧ f = 2) → w1 o2 f j = w o2 f j) ∧ (∀ j : Nat, j < 6 → 0 ≤ w1 1 2 j ∧ w1 1 2 j ≤ 99)) (fun (place : Int) (many : Int) (k : Int) (w1 : Wd) => (200 - k).toNat) 0 0 0 w ⟨(by first | omega | rfl | assumption), (by first | omega | rfl | assumption), (by rfl), (by rfl), (by rfl), (by intro _ _ _ _; rfl), (by exact hN)⟩ ?_
  intro place many k w1 hI_6 ih_6
  obtain ⟨h0, h1, hp, hm, hf, hfr, hn1⟩ := hI_6
  try dsimp only at ih_6 ⊢
  have e11 : w1 1 1 = w 1 1 := by funext j; exact hfr 1 1 j (by decide)
  have e10 : w1 1 0 0 = w 1 0 0 := hfr 1 0 0 (by decide)
  have hsc := scX_in (t := w 1 1) hL.1 k.toNat
  rw [← hp, ← hm] at hsc
  refine g_iload_n X dX3_firstFault_6 rfl 3 rfl ?_
  refine g_sipush X dX3_firstFault_7 (by decide) ?_
  refine g_icmp_ge (tgt := 68) X dX3_firstFault_10 (by decide) (by unfold InR; omega) ⟨by decide, by decide⟩ (fun c_10 => ?_) (fun c_10 => ?_)
  · skip
    refine g_bipush X dX3_firstFault_68 (by decide) ?_
    exact g_iret X rfl rfl dX3_firstFault_70 (by
        refine ⟨?_, hfr, hn1⟩
        have hst : w 1 0 0 ≤ place := by have := hsc.2.2.1 hf; omega
        have e2 := scX_stop (t := w 1 1) (L := w 1 0 0) k.toNat (Or.inr (by rw [← hp]; exact hst)) (200 - k.toNat)
        rw [show k.toNat + (200 - k.toNat) = 200 by omega] at e2
        rw [e2, hf])
  · skip
    refine g_iload_n X dX3_firstFault_13 rfl 1 rfl ?_
    refine g_aload_n X dX3_firstFault_14 rfl 0 rfl ?_
    refine g_geti X ck_X3 (fx1 F) 0 (by decide) fl_X3_22 (Or.inl rfl) dX3_firstFault_15 ?_
    refine g_icmp_ge (tgt := 68) X dX3_firstFault_18 (by decide) (by unfold InR; omega) (by unfold InR; omega) (fun c_18 => ?_) (fun c_18 => ?_)
    · skip
      refine g_bipush X dX3_firstFault_68 (by decide) ?_
      exact g_iret X rfl rfl dX3_firstFault_70 (by
          refine ⟨?_, hfr, hn1⟩
          have hst : w 1 0 0 ≤ place := by have := hsc.2.2.1 hf; omega
          have e2 := scX_stop (t := w 1 1) (L := w 1 0 0) k.toNat (Or.inr (by rw [← hp]; exact hst)) (200 - k.toNat)
          rw [show k.toNat + (200 - k.toNat) = 200 by omega] at e2
          rw [e2, hf])
    · skip
      refine g_aload_n X dX3_firstFault_21 rfl 0 rfl ?_
      refine g_iload_n X dX3_firstFault_22 rfl 1 rfl ?_
      refine g_calli (st := []) X (c_X3_readItem l G place w1 F (by rw [e10]; exact hL) (by rw [e11]; exact hT) (by exact hn1) (by first | assumption | omega | (unfold InR; omega))) cm_X3_readItem im_X3_readItem se_X3_readItem ml_X3_26 ck_X3 (fx1 F) ⟨Nat.le_of_ble_eq_true rfl, Nat.le_of_ble_eq_true rfl⟩ rfl rfl (Nat.le_of_ble_eq_true rfl) dX3_firstFault_23 ?_
      rintro z_23 u_23 ⟨hz, hfr2, hn2, hv2⟩
      rw [e11, e10] at hz
      have hit := itX_in (t := w 1 1) (p := place) hL.1
      rw [← hz] at hit
      refine g_istore (lv' := [(4, .int (iI z_23)), (0, .ref (gAd G 1)), (1, .int (iI place)), (2, .int (iI many)), (3, .int (iI k))]) X dX3_firstFault_26 (by decide) rfl ?_
      refine g_iload X dX3_firstFault_28 0 rfl ?_
      refine g_bipush X dX3_firstFault_30 (by decide) ?_
      refine g_icmp_ne (tgt := 37) X dX3_firstFault_32 (by decide) (by unfold InR; omega) ⟨by decide, by decide⟩ (fun c_32 => ?_) (fun c_32 => ?_)
      · skip
        have hlt := hT place.toNat (by omega)
        have g11 : u_23 1 1 = w1 1 1 := by funext j; exact hfr2 1 1 j (by decide)
        have hmc := mcX_in (w 1 1) place many
        refine g_aload_n X dX3_firstFault_37 rfl 1 rfl ?_
        refine g_cut1 (pc' := 51) (fun (m2 : Int) => [(0, .ref (gAd G 1)), (1, .int (iI place)), (2, .int (iI m2)), (3, .int (iI k)), (4, .int (iI z_23))]) (fun (m2 : Int) => []) (fun (m2 : Int) => u_23) (fun (m2 : Int) => (m2 = mcX (w 1 1) place many)) ?_ ?_
        · intro m2 hI_51
          have hm2 := hI_51
          try dsimp only at hm2 ⊢
          refine g_iload_n X dX3_firstFault_51 rfl 2 rfl ?_
          refine g_bipush X dX3_firstFault_52 (by decide) ?_
          refine g_icmp_le (tgt := 59) X dX3_firstFault_54 (by decide) (by unfold InR; omega) ⟨by decide, by decide⟩ (fun c_54 => ?_) (fun c_54 => ?_)
          · skip
            refine g_iload X dX3_firstFault_59 4 rfl ?_
            refine g_istore_n (lv' := [(1, .int (iI z_23)), (0, .ref (gAd G 1)), (2, .int (iI m2)), (3, .int (iI k)), (4, .int (iI z_23))]) X dX3_firstFault_61 rfl (by decide) rfl ?_
            refine g_iinc (j := 3) (lv' := [(3, .int (iI (k + 1))), (1, .int (iI z_23)), (0, .ref (gAd G 1)), (2, .int (iI m2)), (4, .int (iI z_23))]) X dX3_firstFault_62 rfl (by decide) rfl ?_
            refine g_goto (tgt := 6) X dX3_firstFault_65 (by decide) ?_
            refine g_lv (lv' := [(0, .ref (gAd G 1)), (1, .int (iI z_23)), (2, .int (iI m2)), (3, .int (iI (k + 1)))]) [2, 1, 3, 0] rfl ?_
            exact ih_6 z_23 m2 (k + 1) u_23 ⟨(by first | omega | rfl | assumption), (by first | omega | rfl | assumption), (by
                rw [show (k + 1).toNat = k.toNat + 1 by omega, scX_s, ← hp, ← hm, if_neg (by rintro (z | z); exact z hf; omega), if_neg (by rintro (z | z); omega; omega)]
                exact hz), (by
                rw [show (k + 1).toNat = k.toNat + 1 by omega, scX_s, ← hp, ← hm, if_neg (by rintro (z | z); exact z hf; omega), if_neg (by rintro (z | z); omega; omega)]
                exact hm2), (by rw [show (k + 1).toNat = k.toNat + 1 by omega, scX_s, ← hp, ← hm, if_neg (by rintro (z | z); exact z hf; omega), if_neg (by rintro (z | z); omega; omega)]), (by intro o2 f j h; rw [hfr2 o2 f j h]; exact hfr o2 f j h), (by exact hn2)⟩ (by omega)
          · skip
            refine g_iload_n X dX3_firstFault_57 rfl 1 rfl ?_
            exact g_iret X rfl rfl dX3_firstFault_58 (by
                refine ⟨?_, fun o2 f j h => by rw [hfr2 o2 f j h]; exact hfr o2 f j h, hn2⟩
                have e1 : scX (w 1 1) (w 1 0 0) (k.toNat + 1) = (place, many, place) := by
                  rw [scX_s, ← hp, ← hm, if_neg (by rintro (z | z); exact z hf; omega), if_pos (Or.inr (by omega))]
                have e2 := scX_stop (t := w 1 1) (L := w 1 0 0) (k.toNat + 1) (Or.inl (by rw [e1]; show place ≠ -4; omega)) (200 - (k.toNat + 1))
                rw [show k.toNat + 1 + (200 - (k.toNat + 1)) = 200 by omega] at e2
                rw [e2, e1])
        · intro J_51
          try dsimp only at J_51
          refine g_geta X ck_X3 (fx1 F) 1 (by decide) fl_X3_9 rfl dX3_firstFault_38 ?_
          refine g_iload_n X dX3_firstFault_41 rfl 2 rfl ?_
          refine h_cald (a := place) (j := (place).toNat) X rfl (fx1 F) (by decide) (show fkX 3 1 = (3, 200) from rfl) (by decide) (by omega) (by omega) dX3_firstFault_42 ?_
          refine g_bipush X dX3_firstFault_43 (by decide) ?_
          refine g_icmp_ne (tgt := 51) X dX3_firstFault_45 (by decide) (by rw [g11, e11]; unfold InR; omega) ⟨by decide, by decide⟩ (fun c_45 => ?_) (fun c_45 => ?_)
          · skip
            refine g_lv (lv' := [(0, .ref (gAd G 1)), (1, .int (iI place)), (2, .int (iI many)), (3, .int (iI k)), (4, .int (iI z_23))]) [1, 2, 3, 4, 0] rfl ?_
            exact J_51 many (by unfold mcX; rw [g11, e11] at c_45; first | rw [if_neg c_45] | rw [if_pos (Classical.not_not.mp c_45)])
          · skip
            refine g_iinc (j := 3) (lv' := [(2, .int (iI (many + 1))), (4, .int (iI z_23)), (0, .ref (gAd G 1)), (1, .int (iI place)), (3, .int (iI k))]) X dX3_firstFault_48 rfl (by decide) rfl ?_
            refine g_lv (lv' := [(0, .ref (gAd G 1)), (1, .int (iI place)), (2, .int (iI (many + 1))), (3, .int (iI k)), (4, .int (iI z_23))]) [2, 3, 0, 4, 1] rfl ?_
            exact J_51 (many + 1) (by unfold mcX; rw [g11, e11] at c_45; first | rw [if_neg c_45] | rw [if_pos (Classical.not_not.mp c_45)])
      · skip
        refine g_iload_n X dX3_firstFault_35 rfl 2 rfl ?_
        exact g_iret X rfl rfl dX3_firstFault_36 (by
            refine ⟨?_, fun o2 f j h => by rw [hfr2 o2 f j h]; exact hfr o2 f j h, hn2⟩
            have e1 : scX (w 1 1) (w 1 0 0) (k.toNat + 1) = (place, many, place) := by
              rw [scX_s, ← hp, ← hm, if_neg (by rintro (z | z); exact z hf; omega), if_pos (Or.inl (by rw [← hz]; exact Classical.not_not.mp c_32))]
            have e2 := scX_stop (t := w 1 1) (L := w 1 0 0) (k.toNat + 1) (Or.inl (by rw [e1]; show place ≠ -4; omega)) (200 - (k.toNat + 1))
            rw [show k.toNat + 1 + (200 - (k.toNat + 1)) = 200 by omega] at e2
            rw [e2, e1])
set_option maxHeartbeats 4000000 in
set_option maxRecDepth 100000 in
theorem c_X2_reset (l : Launch) (G : Ly)  (w : Wd) (F : FX G) : Mv l yX2_reset cX2_reset 1 none 0 0 G [.ref (gAd G 2)] w (fun w2 => w2 = setO w 2 (p0X (w 2))) := by
  refine mv_of (lv := [(0, .ref (gAd G 2))]) (by decide) (Nat.le_of_ble_eq_true rfl) rfl ?_
  intro p_ e_ s_ m_ b_ h_ c_ X
  refine g_aload_n X dX2_reset_0 rfl 0 rfl ?_
  refine g_iconst X dX2_reset_1 ?_
  refine g_puti X ck_X2 (fx2 F) 0 (by decide) fl_X2_30 rfl rfl rfl dX2_reset_2 ?_
  obtain ⟨w_1, ew_1⟩ : ∃ q_ : Wd, q_ = up w 2 0 0 0 := ⟨_, rfl⟩
  refine g_w (w' := w_1) ew_1 ?_
  refine g_aload_n X dX2_reset_5 rfl 0 rfl ?_
  refine g_iconst X dX2_reset_6 ?_
  refine g_puti X ck_X2 (fx2 F) 7 (by decide) fl_X2_34 rfl rfl rfl dX2_reset_7 ?_
  obtain ⟨w_2, ew_2⟩ : ∃ q_ : Wd, q_ = up w_1 2 7 0 5 := ⟨_, rfl⟩
  refine g_w (w' := w_2) ew_2 ?_
  refine g_aload_n X dX2_reset_10 rfl 0 rfl ?_
  refine g_iconst X dX2_reset_11 ?_
  refine g_puti X ck_X2 (fx2 F) 8 (by decide) fl_X2_37 rfl rfl rfl dX2_reset_12 ?_
  obtain ⟨w_3, ew_3⟩ : ∃ q_ : Wd, q_ = up w_2 2 8 0 3 := ⟨_, rfl⟩
  refine g_w (w' := w_3) ew_3 ?_
  refine g_aload_n X dX2_reset_15 rfl 0 rfl ?_
  refine g_iconst X dX2_reset_16 ?_
  refine g_puti X ck_X2 (fx2 F) 9 (by decide) fl_X2_40 rfl rfl rfl dX2_reset_17 ?_
  obtain ⟨w_4, ew_4⟩ : ∃ q_ : Wd, q_ = up w_3 2 9 0 3 := ⟨_, rfl⟩
  refine g_w (w' := w_4) ew_4 ?_
  refine g_aload_n X dX2_reset_20 rfl 0 rfl ?_
  refine g_iconst X dX2_reset_21 ?_
  refine g_puti X ck_X2 (fx2 F) 10 (by decide) fl_X2_43 rfl rfl rfl dX2_reset_22 ?_
  obtain ⟨w_5, ew_5⟩ : ∃ q_ : Wd, q_ = up w_4 2 10 0 1 := ⟨_, rfl⟩
  refine g_w (w' := w_5) ew_5 ?_
  refine g_aload_n X dX2_reset_25 rfl 0 rfl ?_
  refine g_bipush X dX2_reset_26 (by decide) ?_
  refine g_puti X ck_X2 (fx2 F) 11 (by decide) fl_X2_46 rfl rfl rfl dX2_reset_28 ?_
  obtain ⟨w_6, ew_6⟩ : ∃ q_ : Wd, q_ = up w_5 2 11 0 90 := ⟨_, rfl⟩
  refine g_w (w' := w_6) ew_6 ?_
  refine g_aload_n X dX2_reset_31 rfl 0 rfl ?_
  refine g_bipush X dX2_reset_32 (by decide) ?_
  refine g_puti X ck_X2 (fx2 F) 12 (by decide) fl_X2_49 rfl rfl rfl dX2_reset_34 ?_
  obtain ⟨w_7, ew_7⟩ : ∃ q_ : Wd, q_ = up w_6 2 12 0 60 := ⟨_, rfl⟩
  refine g_w (w' := w_7) ew_7 ?_
  refine g_aload_n X dX2_reset_37 rfl 0 rfl ?_
  refine g_iconst X dX2_reset_38 ?_
  refine g_puti X ck_X2 (fx2 F) 13 (by decide) fl_X2_52 rfl rfl rfl dX2_reset_39 ?_
  obtain ⟨w_8, ew_8⟩ : ∃ q_ : Wd, q_ = up w_7 2 13 0 2 := ⟨_, rfl⟩
  refine g_w (w' := w_8) ew_8 ?_
  exact g_vret X rfl dX2_reset_42 (by rw [ew_8, ew_7, ew_6, ew_5, ew_4, ew_3, ew_2, ew_1, up_setO w 2 0 0]; simp only [up_set2]; rfl)
set_option maxHeartbeats 4000000 in
set_option maxRecDepth 100000 in
theorem c_X2_takeMachine (l : Launch) (G : Ly)  (w : Wd) (F : FX G) (hm : 0 ≤ w 2 0 0 ∧ w 2 0 0 ≤ 6) : Mv l yX2_takeMachine cX2_takeMachine 2 none 0 0 G [.ref (gAd G 2), .ref (gAr G 1 2)] w (fun w2 => w2 = setO w 2 (tmX (w 2) (w 1 2))) := by
  refine mv_of (lv := [(0, .ref (gAd G 2)), (1, .ref (gAr G 1 2))]) (by decide) (Nat.le_of_ble_eq_true rfl) rfl ?_
  intro p_ e_ s_ m_ b_ h_ c_ X
  refine g_aload_n X dX2_takeMachine_0 rfl 0 rfl ?_
  refine g_geti X ck_X2 (fx2 F) 0 (by decide) fl_X2_30 (Or.inl rfl) dX2_takeMachine_1 ?_
  refine g_bipush X dX2_takeMachine_4 (by decide) ?_
  refine g_icmp_lt (tgt := 10) X dX2_takeMachine_6 (by decide) (by unfold InR; omega) ⟨by decide, by decide⟩ (fun c_6 => ?_) (fun c_6 => ?_)
  · skip
    refine g_aload_n X dX2_takeMachine_10 rfl 0 rfl ?_
    refine g_geta X ck_X2 (fx2 F) 1 (by decide) fl_X2_9 rfl dX2_takeMachine_11 ?_
    refine g_aload_n X dX2_takeMachine_14 rfl 0 rfl ?_
    refine g_geti X ck_X2 (fx2 F) 0 (by decide) fl_X2_30 (Or.inl rfl) dX2_takeMachine_15 ?_
    refine g_aload_n X dX2_takeMachine_18 rfl 1 rfl ?_
    refine g_iconst X dX2_takeMachine_19 ?_
    refine h_iald (a := 0) (j := 0) X rfl (fx1 F) (by decide) (show fkX 3 2 = (1, 6) from rfl) (by decide) (by omega) (by omega) dX2_takeMachine_20 ?_
    refine h_iast (a := w 2 0 0) (j := (w 2 0 0).toNat) X rfl (fx2 F) (by decide) (show fkX 2 1 = (1, 6) from rfl) (by decide) (by omega) (by omega) dX2_takeMachine_21 ?_
    obtain ⟨w_1, ew_1⟩ : ∃ q_ : Wd, q_ = up w 2 1 (w 2 0 0).toNat (w 1 2 0) := ⟨_, rfl⟩
    refine g_w (w' := w_1) ew_1 ?_
    have s0 : w_1 2 0 0 = w 2 0 0 := by rw [ew_1]; simp [up]
    refine g_aload_n X dX2_takeMachine_22 rfl 0 rfl ?_
    refine g_geta X ck_X2 (fx2 F) 2 (by decide) fl_X2_15 rfl dX2_takeMachine_23 ?_
    refine g_aload_n X dX2_takeMachine_26 rfl 0 rfl ?_
    refine g_geti X ck_X2 (fx2 F) 0 (by decide) fl_X2_30 (Or.inl rfl) dX2_takeMachine_27 ?_
    refine g_aload_n X dX2_takeMachine_30 rfl 1 rfl ?_
    refine g_iconst X dX2_takeMachine_31 ?_
    refine h_iald (a := 1) (j := 1) X rfl (fx1 F) (by decide) (show fkX 3 2 = (1, 6) from rfl) (by decide) (by omega) (by omega) dX2_takeMachine_32 ?_
    refine h_iast (a := w_1 2 0 0) (j := (w_1 2 0 0).toNat) X rfl (fx2 F) (by decide) (show fkX 2 2 = (1, 6) from rfl) (by decide) (by omega) (by omega) dX2_takeMachine_33 ?_
    obtain ⟨w_2, ew_2⟩ : ∃ q_ : Wd, q_ = up w_1 2 2 (w_1 2 0 0).toNat (w_1 1 2 1) := ⟨_, rfl⟩
    refine g_w (w' := w_2) ew_2 ?_
    have s0 : w_2 2 0 0 = w 2 0 0 := by rw [ew_2, ew_1]; simp [up]
    refine g_aload_n X dX2_takeMachine_34 rfl 0 rfl ?_
    refine g_geta X ck_X2 (fx2 F) 3 (by decide) fl_X2_18 rfl dX2_takeMachine_35 ?_
    refine g_aload_n X dX2_takeMachine_38 rfl 0 rfl ?_
    refine g_geti X ck_X2 (fx2 F) 0 (by decide) fl_X2_30 (Or.inl rfl) dX2_takeMachine_39 ?_
    refine g_aload_n X dX2_takeMachine_42 rfl 1 rfl ?_
    refine g_iconst X dX2_takeMachine_43 ?_
    refine h_iald (a := 2) (j := 2) X rfl (fx1 F) (by decide) (show fkX 3 2 = (1, 6) from rfl) (by decide) (by omega) (by omega) dX2_takeMachine_44 ?_
    refine h_iast (a := w_2 2 0 0) (j := (w_2 2 0 0).toNat) X rfl (fx2 F) (by decide) (show fkX 2 3 = (1, 6) from rfl) (by decide) (by omega) (by omega) dX2_takeMachine_45 ?_
    obtain ⟨w_3, ew_3⟩ : ∃ q_ : Wd, q_ = up w_2 2 3 (w_2 2 0 0).toNat (w_2 1 2 2) := ⟨_, rfl⟩
    refine g_w (w' := w_3) ew_3 ?_
    have s0 : w_3 2 0 0 = w 2 0 0 := by rw [ew_3, ew_2, ew_1]; simp [up]
    refine g_aload_n X dX2_takeMachine_46 rfl 0 rfl ?_
    refine g_geta X ck_X2 (fx2 F) 4 (by decide) fl_X2_21 rfl dX2_takeMachine_47 ?_
    refine g_aload_n X dX2_takeMachine_50 rfl 0 rfl ?_
    refine g_geti X ck_X2 (fx2 F) 0 (by decide) fl_X2_30 (Or.inl rfl) dX2_takeMachine_51 ?_
    refine g_aload_n X dX2_takeMachine_54 rfl 1 rfl ?_
    refine g_iconst X dX2_takeMachine_55 ?_
    refine h_iald (a := 3) (j := 3) X rfl (fx1 F) (by decide) (show fkX 3 2 = (1, 6) from rfl) (by decide) (by omega) (by omega) dX2_takeMachine_56 ?_
    refine h_iast (a := w_3 2 0 0) (j := (w_3 2 0 0).toNat) X rfl (fx2 F) (by decide) (show fkX 2 4 = (1, 6) from rfl) (by decide) (by omega) (by omega) dX2_takeMachine_57 ?_
    obtain ⟨w_4, ew_4⟩ : ∃ q_ : Wd, q_ = up w_3 2 4 (w_3 2 0 0).toNat (w_3 1 2 3) := ⟨_, rfl⟩
    refine g_w (w' := w_4) ew_4 ?_
    have s0 : w_4 2 0 0 = w 2 0 0 := by rw [ew_4, ew_3, ew_2, ew_1]; simp [up]
    refine g_aload_n X dX2_takeMachine_58 rfl 0 rfl ?_
    refine g_geta X ck_X2 (fx2 F) 5 (by decide) fl_X2_24 rfl dX2_takeMachine_59 ?_
    refine g_aload_n X dX2_takeMachine_62 rfl 0 rfl ?_
    refine g_geti X ck_X2 (fx2 F) 0 (by decide) fl_X2_30 (Or.inl rfl) dX2_takeMachine_63 ?_
    refine g_aload_n X dX2_takeMachine_66 rfl 1 rfl ?_
    refine g_iconst X dX2_takeMachine_67 ?_
    refine h_iald (a := 4) (j := 4) X rfl (fx1 F) (by decide) (show fkX 3 2 = (1, 6) from rfl) (by decide) (by omega) (by omega) dX2_takeMachine_68 ?_
    refine h_iast (a := w_4 2 0 0) (j := (w_4 2 0 0).toNat) X rfl (fx2 F) (by decide) (show fkX 2 5 = (1, 6) from rfl) (by decide) (by omega) (by omega) dX2_takeMachine_69 ?_
    obtain ⟨w_5, ew_5⟩ : ∃ q_ : Wd, q_ = up w_4 2 5 (w_4 2 0 0).toNat (w_4 1 2 4) := ⟨_, rfl⟩
    refine g_w (w' := w_5) ew_5 ?_
    have s0 : w_5 2 0 0 = w 2 0 0 := by rw [ew_5, ew_4, ew_3, ew_2, ew_1]; simp [up]
    refine g_aload_n X dX2_takeMachine_70 rfl 0 rfl ?_
    refine g_geta X ck_X2 (fx2 F) 6 (by decide) fl_X2_27 rfl dX2_takeMachine_71 ?_
    refine g_aload_n X dX2_takeMachine_74 rfl 0 rfl ?_
    refine g_geti X ck_X2 (fx2 F) 0 (by decide) fl_X2_30 (Or.inl rfl) dX2_takeMachine_75 ?_
    refine g_aload_n X dX2_takeMachine_78 rfl 1 rfl ?_
    refine g_iconst X dX2_takeMachine_79 ?_
    refine h_iald (a := 5) (j := 5) X rfl (fx1 F) (by decide) (show fkX 3 2 = (1, 6) from rfl) (by decide) (by omega) (by omega) dX2_takeMachine_80 ?_
    refine h_iast (a := w_5 2 0 0) (j := (w_5 2 0 0).toNat) X rfl (fx2 F) (by decide) (show fkX 2 6 = (1, 6) from rfl) (by decide) (by omega) (by omega) dX2_takeMachine_81 ?_
    obtain ⟨w_6, ew_6⟩ : ∃ q_ : Wd, q_ = up w_5 2 6 (w_5 2 0 0).toNat (w_5 1 2 5) := ⟨_, rfl⟩
    refine g_w (w' := w_6) ew_6 ?_
    refine g_aload_n X dX2_takeMachine_82 rfl 0 rfl ?_
    refine g_dup X dX2_takeMachine_83 rfl ?_
    refine g_geti X ck_X2 (fx2 F) 0 (by decide) fl_X2_30 (Or.inl rfl) dX2_takeMachine_84 ?_
    refine g_iconst X dX2_takeMachine_87 ?_
    refine g_iadd X dX2_takeMachine_88 ?_
    refine g_puti X ck_X2 (fx2 F) 0 (by decide) fl_X2_30 rfl rfl rfl dX2_takeMachine_89 ?_
    obtain ⟨w_7, ew_7⟩ : ∃ q_ : Wd, q_ = up w_6 2 0 0 ((w_6 2 0 0) + 1) := ⟨_, rfl⟩
    refine g_w (w' := w_7) ew_7 ?_
    exact g_vret X rfl dX2_takeMachine_92 (by unfold tmX; rw [if_pos (by omega), ew_7, ew_6, ew_5, ew_4, ew_3, ew_2, ew_1]; simp [up_set2, up_setO w 2 1, setO_at, setO_ne, fu])
  · skip
    exact g_vret X rfl dX2_takeMachine_9 (by unfold tmX; rw [if_neg (by omega), setO_self])
set_option maxHeartbeats 4000000 in
set_option maxRecDepth 100000 in
theorem c_X2_take (l : Launch) (G : Ly) (c : Int) (w : Wd) (F : FX G) (hm : 0 ≤ w 2 0 0 ∧ w 2 0 0 ≤ 6) (hc : 0 ≤ c ∧ c ≤ 126) : Mv l yX2_take cX2_take 3 none 1 21 G [.ref (gAd G 2), .int (iI c), .ref (gAr G 1 2)] w (fun w2 => w2 = setO w 2 (taX (w 2) c (w 1 2))) := by
  refine mv_of (lv := [(0, .ref (gAd G 2)), (1, .int (iI c)), (2, .ref (gAr G 1 2))]) (by decide) (Nat.le_of_ble_eq_true rfl) rfl ?_
  intro p_ e_ s_ m_ b_ h_ c_ X
  refine g_aload_n X dX2_take_0 rfl 2 rfl ?_
  refine h_alen X 6 rfl (fx1 F) (by decide) (show fkX 3 2 = (1, 6) from rfl) dX2_take_1 ?_
  refine g_getsN X 4 (by decide) fn_X2_55 dX2_take_2 ?_
  refine h_slen X 4 (by decide) 6 rfl dX2_take_5 ?_
  refine g_icmp_ge (tgt := 10) X dX2_take_6 (by decide) ⟨by decide, by decide⟩ ⟨by decide, by decide⟩ (fun c_6 => ?_) (fun c_6 => ?_)
  · skip
    refine g_iload_n X dX2_take_10 rfl 1 rfl ?_
    refine g_bipush X dX2_take_11 (by decide) ?_
    refine g_icmp_ne (tgt := 24) X dX2_take_13 (by decide) (by unfold InR; omega) ⟨by decide, by decide⟩ (fun c_13 => ?_) (fun c_13 => ?_)
    · skip
      refine g_iload_n X dX2_take_24 rfl 1 rfl ?_
      refine g_bipush X dX2_take_25 (by decide) ?_
      refine g_icmp_ne (tgt := 61) X dX2_take_27 (by decide) (by unfold InR; omega) ⟨by decide, by decide⟩ (fun c_27 => ?_) (fun c_27 => ?_)
      · skip
        refine g_iload_n X dX2_take_61 rfl 1 rfl ?_
        refine g_bipush X dX2_take_62 (by decide) ?_
        refine g_icmp_ne (tgt := 88) X dX2_take_64 (by decide) (by unfold InR; omega) ⟨by decide, by decide⟩ (fun c_64 => ?_) (fun c_64 => ?_)
        · skip
          exact g_vret X rfl dX2_take_88 (by
              unfold taX
              first
              | (rw [if_neg (by omega), if_neg (by omega), if_neg (by omega), setO_self])
              | (rw [if_pos (by omega)]; exact rfl)
              | (rw [if_neg (by omega), if_pos (by omega), ]; simp [up_set2, up_setO w 2 7, setO_at, setO_ne, fu])
              | (rw [if_neg (by omega), if_neg (by omega), if_pos (by omega), ]; simp [up_set2, up_setO w 2 11, setO_at, setO_ne, fu]))
        · skip
          refine g_aload_n X dX2_take_67 rfl 0 rfl ?_
          refine g_aload_n X dX2_take_68 rfl 2 rfl ?_
          refine g_iconst X dX2_take_69 ?_
          refine h_iald (a := 0) (j := 0) X rfl (fx1 F) (by decide) (show fkX 3 2 = (1, 6) from rfl) (by decide) (by omega) (by omega) dX2_take_70 ?_
          refine g_puti X ck_X2 (fx2 F) 11 (by decide) fl_X2_46 rfl rfl rfl dX2_take_71 ?_
          obtain ⟨w_1, ew_1⟩ : ∃ q_ : Wd, q_ = up w 2 11 0 (w 1 2 0) := ⟨_, rfl⟩
          refine g_w (w' := w_1) ew_1 ?_
          refine g_aload_n X dX2_take_74 rfl 0 rfl ?_
          refine g_aload_n X dX2_take_75 rfl 2 rfl ?_
          refine g_iconst X dX2_take_76 ?_
          refine h_iald (a := 1) (j := 1) X rfl (fx1 F) (by decide) (show fkX 3 2 = (1, 6) from rfl) (by decide) (by omega) (by omega) dX2_take_77 ?_
          refine g_puti X ck_X2 (fx2 F) 12 (by decide) fl_X2_49 rfl rfl rfl dX2_take_78 ?_
          obtain ⟨w_2, ew_2⟩ : ∃ q_ : Wd, q_ = up w_1 2 12 0 (w_1 1 2 1) := ⟨_, rfl⟩
          refine g_w (w' := w_2) ew_2 ?_
          refine g_aload_n X dX2_take_81 rfl 0 rfl ?_
          refine g_aload_n X dX2_take_82 rfl 2 rfl ?_
          refine g_iconst X dX2_take_83 ?_
          refine h_iald (a := 2) (j := 2) X rfl (fx1 F) (by decide) (show fkX 3 2 = (1, 6) from rfl) (by decide) (by omega) (by omega) dX2_take_84 ?_
          refine g_puti X ck_X2 (fx2 F) 13 (by decide) fl_X2_52 rfl rfl rfl dX2_take_85 ?_
          obtain ⟨w_3, ew_3⟩ : ∃ q_ : Wd, q_ = up w_2 2 13 0 (w_2 1 2 2) := ⟨_, rfl⟩
          refine g_w (w' := w_3) ew_3 ?_
          exact g_vret X rfl dX2_take_88 (by
              unfold taX
              first
              | (rw [if_neg (by omega), if_neg (by omega), if_neg (by omega), setO_self])
              | (rw [if_pos (by omega)]; exact ew_3)
              | (rw [if_neg (by omega), if_pos (by omega), ew_3, ew_2, ew_1]; simp [up_set2, up_setO w 2 7, setO_at, setO_ne, fu])
              | (rw [if_neg (by omega), if_neg (by omega), if_pos (by omega), ew_3, ew_2, ew_1]; simp [up_set2, up_setO w 2 11, setO_at, setO_ne, fu]))
      · skip
        refine g_aload_n X dX2_take_30 rfl 0 rfl ?_
        refine g_aload_n X dX2_take_31 rfl 2 rfl ?_
        refine g_iconst X dX2_take_32 ?_
        refine h_iald (a := 0) (j := 0) X rfl (fx1 F) (by decide) (show fkX 3 2 = (1, 6) from rfl) (by decide) (by omega) (by omega) dX2_take_33 ?_
        refine g_puti X ck_X2 (fx2 F) 7 (by decide) fl_X2_34 rfl rfl rfl dX2_take_34 ?_
        obtain ⟨w_4, ew_4⟩ : ∃ q_ : Wd, q_ = up w 2 7 0 (w 1 2 0) := ⟨_, rfl⟩
        refine g_w (w' := w_4) ew_4 ?_
        refine g_aload_n X dX2_take_37 rfl 0 rfl ?_
        refine g_aload_n X dX2_take_38 rfl 2 rfl ?_
        refine g_iconst X dX2_take_39 ?_
        refine h_iald (a := 1) (j := 1) X rfl (fx1 F) (by decide) (show fkX 3 2 = (1, 6) from rfl) (by decide) (by omega) (by omega) dX2_take_40 ?_
        refine g_puti X ck_X2 (fx2 F) 8 (by decide) fl_X2_37 rfl rfl rfl dX2_take_41 ?_
        obtain ⟨w_5, ew_5⟩ : ∃ q_ : Wd, q_ = up w_4 2 8 0 (w_4 1 2 1) := ⟨_, rfl⟩
        refine g_w (w' := w_5) ew_5 ?_
        refine g_aload_n X dX2_take_44 rfl 0 rfl ?_
        refine g_aload_n X dX2_take_45 rfl 2 rfl ?_
        refine g_iconst X dX2_take_46 ?_
        refine h_iald (a := 2) (j := 2) X rfl (fx1 F) (by decide) (show fkX 3 2 = (1, 6) from rfl) (by decide) (by omega) (by omega) dX2_take_47 ?_
        refine g_puti X ck_X2 (fx2 F) 9 (by decide) fl_X2_40 rfl rfl rfl dX2_take_48 ?_
        obtain ⟨w_6, ew_6⟩ : ∃ q_ : Wd, q_ = up w_5 2 9 0 (w_5 1 2 2) := ⟨_, rfl⟩
        refine g_w (w' := w_6) ew_6 ?_
        refine g_aload_n X dX2_take_51 rfl 0 rfl ?_
        refine g_aload_n X dX2_take_52 rfl 2 rfl ?_
        refine g_iconst X dX2_take_53 ?_
        refine h_iald (a := 3) (j := 3) X rfl (fx1 F) (by decide) (show fkX 3 2 = (1, 6) from rfl) (by decide) (by omega) (by omega) dX2_take_54 ?_
        refine g_puti X ck_X2 (fx2 F) 10 (by decide) fl_X2_43 rfl rfl rfl dX2_take_55 ?_
        obtain ⟨w_7, ew_7⟩ : ∃ q_ : Wd, q_ = up w_6 2 10 0 (w_6 1 2 3) := ⟨_, rfl⟩
        refine g_w (w' := w_7) ew_7 ?_
        refine g_goto (tgt := 88) X dX2_take_58 (by decide) ?_
        exact g_vret X rfl dX2_take_88 (by
            unfold taX
            first
            | (rw [if_neg (by omega), if_neg (by omega), if_neg (by omega), setO_self])
            | (rw [if_pos (by omega)]; exact ew_7)
            | (rw [if_neg (by omega), if_pos (by omega), ew_7, ew_6, ew_5, ew_4]; simp [up_set2, up_setO w 2 7, setO_at, setO_ne, fu])
            | (rw [if_neg (by omega), if_neg (by omega), if_pos (by omega), ew_7, ew_6, ew_5, ew_4]; simp [up_set2, up_setO w 2 11, setO_at, setO_ne, fu]))
    · skip
      refine g_aload_n X dX2_take_16 rfl 0 rfl ?_
      refine g_aload_n X dX2_take_17 rfl 2 rfl ?_
      refine g_callv (st := []) X (c_X2_takeMachine l G  w F (by first | assumption | omega | (unfold InR; omega))) cm_X2_takeMachine im_X2_takeMachine se_X2_takeMachine ml_X2_58 ck_X2 (fx2 F) ⟨Nat.le_of_ble_eq_true rfl, Nat.le_of_ble_eq_true rfl⟩ rfl rfl (Nat.le_of_ble_eq_true rfl) dX2_take_18 (fn_v ?_)
      obtain ⟨w_8, ew_8⟩ : ∃ q_ : Wd, q_ = setO w 2 (tmX (w 2) (w 1 2)) := ⟨_, rfl⟩
      refine g_w (w' := w_8) ew_8 ?_
      refine g_goto (tgt := 88) X dX2_take_21 (by decide) ?_
      exact g_vret X rfl dX2_take_88 (by
          unfold taX
          first
          | (rw [if_neg (by omega), if_neg (by omega), if_neg (by omega), setO_self])
          | (rw [if_pos (by omega)]; exact ew_8)
          | (rw [if_neg (by omega), if_pos (by omega), ew_8]; simp [up_set2, up_setO w 2 7, setO_at, setO_ne, fu])
          | (rw [if_neg (by omega), if_neg (by omega), if_pos (by omega), ew_8]; simp [up_set2, up_setO w 2 11, setO_at, setO_ne, fu]))
  · exact absurd c_6 (by decide) --dead
set_option maxHeartbeats 4000000 in
set_option maxRecDepth 100000 in
theorem c_X3_layInto (l : Launch) (G : Ly)  (w : Wd) (F : FX G) (hL : 0 ≤ w 1 0 0 ∧ w 1 0 0 ≤ 200) (hT : ∀ j : Nat, j < 200 → 0 ≤ w 1 1 j ∧ w 1 1 j ≤ 126) (hN : ∀ j : Nat, j < 6 → 0 ≤ w 1 2 j ∧ w 1 2 j ≤ 99) (hff : (scX (w 1 1) (w 1 0 0) 200).2.2 = -4) : Mv l yX3_layInto cX3_layInto 5 none 4 94 G [.ref (gAd G 1), .ref (gAd G 2)] w (fun w2 => w2 2 = plX (w 1 1) (w 1 0 0) (w 2) 200 ∧ (∀ o2 f j, o2 ≠ 2 → ¬ (o2 = 1 ∧ f = 2) → w2 o2 f j = w o2 f j) ∧ (∀ j : Nat, j < 6 → 0 ≤ w2 1 2 j ∧ w2 1 2 j ≤ 99)) := by
  refine mv_of (lv := [(0, .ref (gAd G 1)), (1, .ref (gAd G 2))]) (by decide) (Nat.le_of_ble_eq_true rfl) rfl ?_
  intro p_ e_ s_ m_ b_ h_ c_ X
  refine g_aload_n X dX3_layInto_0 rfl 1 rfl ?_
  refine g_callv (st := []) X (c_X2_reset l G  w F) cm_X2_reset im_X2_reset se_X2_reset ml_X3_30 ck_X2 (fx2 F) ⟨Nat.le_of_ble_eq_true rfl, Nat.le_of_ble_eq_true rfl⟩ rfl rfl (Nat.le_of_ble_eq_true rfl) dX3_layInto_1 (fn_v ?_)
  obtain ⟨w_1, ew_1⟩ : ∃ q_ : Wd, q_ = setO w 2 (p0X (w 2)) := ⟨_, rfl⟩
  refine g_w (w' := w_1) ew_1 ?_
  refine g_iconst X dX3_layInto_4 ?_
  refine g_istore_n (lv' := [(2, .int (iI 0)), (0, .ref (gAd G 1)), (1, .ref (gAd G 2))]) X dX3_layInto_5 rfl (by decide) rfl ?_
  refine g_iconst X dX3_layInto_6 ?_
  refine g_istore_n (lv' := [(3, .int (iI 0)), (2, .int (iI 0)), (0, .ref (gAd G 1)), (1, .ref (gAd G 2))]) X dX3_layInto_7 rfl (by decide) rfl ?_
  refine g_lv (lv' := [(0, .ref (gAd G 1)), (1, .ref (gAd G 2)), (2, .int (iI 0)), (3, .int (iI 0))]) [2, 3, 1, 0] rfl ?_
  refine g_loop3 (fun (place : Int) (k : Int) (w1 : Wd) => [(0, .ref (gAd G 1)), (1, .ref (gAd G 2)), (2, .int (iI place)), (3, .int (iI k))]) (fun (place : Int) (k : Int) (w1 : Wd) => w1) (fun (place : Int) (k : Int) (w1 : Wd) => (0 ≤ k) ∧ (k ≤ 200) ∧ (place = (scX (w 1 1) (w 1 0 0) k.toNat).1) ∧ (w1 2 = plX (w 1 1) (w 1 0 0) (w 2) k.toNat) ∧ (∀ o2 f j, o2 ≠ 2 → ¬ (o2 = 1 ∧ f = 2) → w1 o2 f j = w o2 f j) ∧ (∀ j : Nat, j < 6 → 0 ≤ w1 1 2 j ∧ w1 1 2 j ≤ 99)) (fun (place : Int) (k : Int) (w1 : Wd) => (200 - k).toNat) 0 0 w_1 ⟨(by first | omega | rfl | assumption), (by first | omega | rfl | assumption), (by rfl), (by rw [ew_1, setO_at]; rfl), (by intro o2 f j h _; rw [ew_1, setO_ne h]), (by intro j hj; rw [ew_1, setO_ne (by decide)]; exact hN j hj)⟩ ?_
  intro place k w1 hI_8 ih_8
  obtain ⟨h0, h1, hp, hpl, hfr, hn1⟩ := hI_8
  try dsimp only at ih_8 ⊢
  have e11 : w1 1 1 = w 1 1 := by funext j; exact hfr 1 1 j (by decide) (by decide)
  have e10 : w1 1 0 0 = w 1 0 0 := hfr 1 0 0 (by decide) (by decide)
  have hsc := scX_in (t := w 1 1) hL.1 k.toNat
  have hpn := plX_n (u := w 2) hL.1 hff k.toNat (by omega)
  rw [← hpl] at hpn
  have hf := scX_ok hff k.toNat (by omega)
  rw [← hp] at hsc
  refine g_iload_n X dX3_layInto_8 rfl 3 rfl ?_
  refine g_sipush X dX3_layInto_9 (by decide) ?_
  refine g_icmp_ge (tgt := 61) X dX3_layInto_12 (by decide) (by unfold InR; omega) ⟨by decide, by decide⟩ (fun c_12 => ?_) (fun c_12 => ?_)
  · skip
    exact g_vret X rfl dX3_layInto_61 (by
        refine ⟨?_, hfr, hn1⟩
        have hst : w 1 0 0 ≤ place := by have := hsc.2.2.1 hf; omega
        have e2 := plX_stop (t := w 1 1) (L := w 1 0 0) (u := w 2) k.toNat (by rw [← hp]; exact hst) (200 - k.toNat)
        rw [show k.toNat + (200 - k.toNat) = 200 by omega] at e2
        rw [e2, hpl])
  · skip
    refine g_iload_n X dX3_layInto_15 rfl 2 rfl ?_
    refine g_aload_n X dX3_layInto_16 rfl 0 rfl ?_
    refine g_geti X ck_X3 (fx1 F) 0 (by decide) fl_X3_22 (Or.inl rfl) dX3_layInto_17 ?_
    refine g_icmp_ge (tgt := 61) X dX3_layInto_20 (by decide) (by unfold InR; omega) (by unfold InR; omega) (fun c_20 => ?_) (fun c_20 => ?_)
    · skip
      exact g_vret X rfl dX3_layInto_61 (by
          refine ⟨?_, hfr, hn1⟩
          have hst : w 1 0 0 ≤ place := by have := hsc.2.2.1 hf; omega
          have e2 := plX_stop (t := w 1 1) (L := w 1 0 0) (u := w 2) k.toNat (by rw [← hp]; exact hst) (200 - k.toNat)
          rw [show k.toNat + (200 - k.toNat) = 200 by omega] at e2
          rw [e2, hpl])
    · skip
      refine g_aload_n X dX3_layInto_23 rfl 0 rfl ?_
      refine g_iload_n X dX3_layInto_24 rfl 2 rfl ?_
      refine g_calli (st := []) X (c_X3_readItem l G place w1 F (by rw [e10]; exact hL) (by rw [e11]; exact hT) (by exact hn1) (by first | assumption | omega | (unfold InR; omega))) cm_X3_readItem im_X3_readItem se_X3_readItem ml_X3_26 ck_X3 (fx1 F) ⟨Nat.le_of_ble_eq_true rfl, Nat.le_of_ble_eq_true rfl⟩ rfl rfl (Nat.le_of_ble_eq_true rfl) dX3_layInto_25 ?_
      rintro z_25 u_25 ⟨hz, hfr2, hn2, hv2⟩
      rw [e11, e10] at hz hv2
      obtain ⟨s1, s2, s3⟩ := scX_step hL.1 hff k.toNat (by omega) (show ¬ w 1 0 0 ≤ (scX (w 1 1) (w 1 0 0) k.toNat).1 by rw [← hp]; omega)
      rw [← hp] at s1 s2
      have hit := itX_in (t := w 1 1) (p := place) hL.1
      rw [← hz] at hit s1
      refine g_istore (lv' := [(4, .int (iI z_25)), (0, .ref (gAd G 1)), (1, .ref (gAd G 2)), (2, .int (iI place)), (3, .int (iI k))]) X dX3_layInto_28 (by decide) rfl ?_
      refine g_iload X dX3_layInto_30 0 rfl ?_
      refine g_bipush X dX3_layInto_32 (by decide) ?_
      refine g_icmp_ne (tgt := 38) X dX3_layInto_34 (by decide) (by unfold InR; omega) ⟨by decide, by decide⟩ (fun c_34 => ?_) (fun c_34 => ?_)
      · skip
        have hlt := hT place.toNat (by omega)
        have g11 : u_25 1 1 = w1 1 1 := by funext j; exact hfr2 1 1 j (by decide)
        have g2 : u_25 2 = w1 2 := by funext f j; exact hfr2 2 f j (fun z => absurd z.1 (by decide))
        refine g_aload_n X dX3_layInto_38 rfl 2 rfl ?_
        refine g_aload_n X dX3_layInto_39 rfl 1 rfl ?_
        refine g_geta X ck_X3 (fx1 F) 1 (by decide) fl_X3_9 rfl dX3_layInto_40 ?_
        refine g_iload_n X dX3_layInto_43 rfl 3 rfl ?_
        refine h_cald (a := place) (j := (place).toNat) X rfl (fx1 F) (by decide) (show fkX 3 1 = (3, 200) from rfl) (by decide) (by omega) (by omega) dX3_layInto_44 ?_
        refine g_aload_n X dX3_layInto_45 rfl 1 rfl ?_
        refine g_geta X ck_X3 (fx1 F) 2 (by decide) fl_X3_19 rfl dX3_layInto_46 ?_
        refine g_callv (st := []) X (c_X2_take l G (u_25 1 1 (place).toNat) u_25 F (by rw [g2, hpn]; exact hsc.2.1) (by rw [g11, e11]; exact hlt)) cm_X2_take im_X2_take se_X2_take ml_X3_35 ck_X2 (fx2 F) ⟨Nat.le_of_ble_eq_true rfl, Nat.le_of_ble_eq_true rfl⟩ rfl rfl (Nat.le_of_ble_eq_true rfl) dX3_layInto_49 (fn_v ?_)
        obtain ⟨w_2, ew_2⟩ : ∃ q_ : Wd, q_ = setO u_25 2 (taX (u_25 2) (u_25 1 1 (place).toNat) (u_25 1 2)) := ⟨_, rfl⟩
        refine g_w (w' := w_2) ew_2 ?_
        refine g_iload X dX3_layInto_52 0 rfl ?_
        refine g_istore_n (lv' := [(2, .int (iI z_25)), (4, .int (iI z_25)), (0, .ref (gAd G 1)), (1, .ref (gAd G 2)), (3, .int (iI k))]) X dX3_layInto_54 rfl (by decide) rfl ?_
        refine g_iinc (j := 4) (lv' := [(3, .int (iI (k + 1))), (2, .int (iI z_25)), (4, .int (iI z_25)), (0, .ref (gAd G 1)), (1, .ref (gAd G 2))]) X dX3_layInto_55 rfl (by decide) rfl ?_
        refine g_goto (tgt := 8) X dX3_layInto_58 (by decide) ?_
        refine g_lv (lv' := [(0, .ref (gAd G 1)), (1, .ref (gAd G 2)), (2, .int (iI z_25)), (3, .int (iI (k + 1)))]) [3, 4, 1, 0] rfl ?_
        exact ih_8 z_25 (k + 1) w_2 ⟨(by first | omega | rfl | assumption), (by first | omega | rfl | assumption), (by rw [show (k + 1).toNat = k.toNat + 1 by omega, s2]; exact hz), (by
            rw [show (k + 1).toNat = k.toNat + 1 by omega]
            show _ = (if w 1 0 0 ≤ (scX (w 1 1) (w 1 0 0) k.toNat).1 then plX (w 1 1) (w 1 0 0) (w 2) k.toNat else taX (plX (w 1 1) (w 1 0 0) (w 2) k.toNat) (w 1 1 (scX (w 1 1) (w 1 0 0) k.toNat).1.toNat) (ivX (w 1 1) (w 1 0 0) (scX (w 1 1) (w 1 0 0) k.toNat).1))
            rw [← hp, if_neg (by omega), ← hpl, ew_2, setO_at, g2, g11, e11]
            refine taX_congr (fun j hj => ?_)
            exact hv2 s1 j (by
              have e : ltX (w 1 1) (w 1 0 0) place = w 1 1 place.toNat := by unfold ltX; rw [if_pos ⟨by omega, by omega⟩]
              rw [e]; exact hj)), (by intro o2 f j h1 h2; rw [ew_2, setO_ne h1, hfr2 o2 f j h2]; exact hfr o2 f j h1 h2), (by intro j hj; rw [ew_2, setO_ne (by decide)]; exact hn2 j hj)⟩ (by omega)
      · exact absurd (Classical.not_not.mp c_34) s1 --dead
