theorem sv_fu5 {B n s : Int} {u : Nat → Nat → Int} (h : SV B n u) (hs : 0 ≤ s ∧ s < 64) : SV B n (fu u 5 0 s) := by
  obtain ⟨a, b, c, d, e, f, g, i⟩ := h
  refine ⟨by simpa [fu] using a, by simpa [fu] using b, by simp [fu]; omega, by simpa [fu] using d, by simpa [fu] using e, by simpa [fu] using f, by simpa [fu] using g, by simpa [fu] using i⟩
theorem sp_su {B n m : Int} {u : Nat → Nat → Int} (hS : SV B n u) (hU : SU n u) (h0 : 0 ≤ m) (h1 : m < 6) (hn : n ≤ 6) : SU n (spX u m) := by
  have hC := hS.2.2.1
  have hE := hS.2.2.2.2.1
  by_cases h : tb (runX u) m.toNat = 1
  · have g := su_sp (m := m.toNat) hU (by omega) hC.2.1 hC.2.2 h (fun j hj => by have := hE j hj; omega)
    rw [show ((m.toNat : Nat) : Int) = m by omega] at g
    exact g
  · unfold spX
    rw [if_neg h]
    exact hU
theorem sp_tk (u : Nat → Nat → Int) (m : Int) : tkX (spX u m) m = spX (tkX u m) m := by
  obtain ⟨t1, t2, t3⟩ := tk_at u m
  have hr : runX (tkX u m) = runX u := by unfold runX; rw [t1 6 (by decide) (by decide), t1 7 (by decide) (by decide)]
  by_cases h : tb (runX u) m.toNat = 1
  · unfold spX
    rw [hr, if_pos h, if_pos h, t1 6 (by decide) (by decide), t1 7 (by decide) (by decide), t1 1 (by decide) (by decide)]
    obtain ⟨b, hb⟩ : ∃ b, b = fu (fu (fu u 6 0 (clrB (u 6 0) m)) 7 0 (clrB (u 7 0) m)) 14 m.toNat (u 1 0) := ⟨_, rfl⟩
    rw [← hb]
    have b9 : b 9 = u 9 := by rw [hb, fuf (by decide), fuf (by decide), fuf (by decide)]
    have b10 : b 10 = u 10 := by rw [hb, fuf (by decide), fuf (by decide), fuf (by decide)]
    obtain ⟨s1, s2, s3⟩ := tk_at b m
    funext f
    by_cases e9 : f = 9
    · subst e9
      rw [fuf (by decide), fuf (by decide), fuf (by decide)]
      unfold tkX
      rw [b9, b10]
      funext j
      by_cases ej : j = 0
      · subst ej; rw [fu_at, fu_at]
      · rw [fu_ne (fun z => ej z.2), fu_ne (fun z => ej z.2)]
        show (if (9 : Nat) = 10 then _ else b 9 j) = (if (9 : Nat) = 10 then _ else u 9 j)
        rw [if_neg (by decide), if_neg (by decide), b9]
    · by_cases e10 : f = 10
      · subst e10
        rw [fuf (by decide), fuf (by decide), fuf (by decide), s3, t3, b10, b9]
      · rw [s1 f e9 e10, hb]
        funext j
        unfold fu
        rw [t1 f e9 e10]
  · unfold spX
    rw [hr, if_neg h, if_neg h]
theorem pk_pw {pl : Nat → Nat → Int} (hp : PV pl) {lift s t v : Int} (hl : 0 ≤ lift ∧ lift ≤ 45) (h : BestC pl (pkX pl lift) s (pl 0 0).toNat t v) : BestC pl (pwX pl lift) s (pl 0 0).toNat t (v / 4398046511104) := by
  have hp0 := hp.1
  have bd : ∀ z, fea pl s z (pl 0 0).toNat → 0 ≤ sumB s (cdX z) (pl 0 0).toNat ∧ sumB s (cdX z) (pl 0 0).toNat < 4398046511104 := by
    intro z hz
    have h := code_lt (s := s) (x := z) (j := 0) (fun k hk => absurd hk (Nat.not_lt_zero _)) (pl 0 0).toNat (by omega) (by omega) (fea_127 hp hz)
    have := pow_p (7 * (6 - (pl 0 0).toNat))
    have e : (2 : Int) ^ (7 * (6 - 0)) = 4398046511104 := by decide
    omega
  obtain ⟨⟨y, y1, y2, y3⟩, hmin⟩ := h
  rw [pk_split] at y3
  have b1 := bd y y1
  refine ⟨⟨y, y1, y2, by omega⟩, fun z z1 z2 => ?_⟩
  have a2 := hmin z z1 z2
  rw [pk_split] at a2
  have b2 := bd z z1
  omega
def cntM (pl u : Nat → Nat → Int) (ch le what : Int) : Int :=
  if what = 0 then pl 0 0 else if what = 1 then cnt (runX u) else if what = 2 then cnt (u 7 0) else if what = 3 then cnt (u 5 0) else if what = 4 then u 9 0 else if what = 5 then u 1 0 else if what = 6 then u 2 0 else
  if what = 7 then u 3 0 else if what = 8 then sumN (u 12) 6 else if what = 9 then u 4 0 else if what = 10 then u 0 0 else if what = 11 then u 0 1 else if what = 12 then u 0 2 else if what = 13 then u 0 3 else if what = 14 then ch else if what = 15 then le else -1
set_option maxHeartbeats 4000000 in
set_option maxRecDepth 100000 in
theorem c_X8_lock (l : Launch) (G : Ly) (m : Int) (is_ : Int) (pl : Nat → Nat → Int) (u : Nat → Nat → Int) (B : Int) (w : Wd) (FM : gOb G 20 = some 8) (hT : PlR pl (w 20 4)) (hp : PV pl) (hR : RS u (w 20 5)) (hS : SV B (pl 0 0) u) (hU : SU (pl 0 0) u) (hB : B ≤ 99000) (hC : TbC pl (w 20)) (hch : 0 ≤ w 20 8 0 ∧ w 20 8 0 ≤ 4) (hr_m : InR m) (hr_is_ : InR is_) : Mi l yX8_lock cX8_lock 3 (some .int) 2 44 G [.ref (gAd G 20), .int (iI m), .int (iI is_)] w (fun z w2 => (¬ ((0 ≤ m ∧ m < pl 0 0) ∧ 0 ≤ is_ ∧ is_ ≤ 1) ∧ z = -1 ∧ w2 = w) ∨ (((0 ≤ m ∧ m < pl 0 0) ∧ 0 ≤ is_ ∧ is_ ≤ 1) ∧ tb (u 5 0) m.toNat = is_ ∧ z = -2 ∧ w2 = w) ∨ (((0 ≤ m ∧ m < pl 0 0) ∧ 0 ≤ is_ ∧ is_ ≤ 1) ∧ tb (u 5 0) m.toNat ≠ is_ ∧ z = cnt (lockX u m is_ 5 0) ∧ RS (lockX u m is_) (w2 20 5) ∧ NoteR w w2 ∧ MF w w2 ∧ TbC pl (w2 20))) := by
  refine mi_of (lv := [(0, .ref (gAd G 20)), (1, .int (iI m)), (2, .int (iI is_))]) (by decide) (Nat.le_of_ble_eq_true rfl) rfl ?_
  intro p_ e_ s_ m_ b_ h_ c_ X
  have hp0 := hp.1
  have hp7 := hp.2.2
  have t36 := hT.1
  have sT := hS.1
  have sB := hS.2.1
  have sC := hS.2.2.1
  have sD := hS.2.2.2.1
  have sE := hS.2.2.2.2.1
  have sF := hS.2.2.2.2.2.1
  have sG := hS.2.2.2.2.2.2.1
  have sH := hS.2.2.2.2.2.2.2
  have rT := hR.1
  have rB := hR.2.1
  have rL := hR.2.2.1
  have rM := hR.2.2.2
  have uA := hU.1
  have hrun := bt_or (s := u 6 0) (t := u 7 0) (by omega) (by omega) (by omega) (by omega)
  have r00 : w 20 5 0 = u 0 0 := rT 0 (by decide)
  have r01 : w 20 5 1 = u 0 1 := rT 1 (by decide)
  have r02 : w 20 5 2 = u 0 2 := rT 2 (by decide)
  have r03 : w 20 5 3 = u 0 3 := rT 3 (by decide)
  have r04 : w 20 5 4 = u 1 0 := rB.1
  have hall := bt_all (pl 0 0) (by omega) (by omega)
  have hlf0 : 0 ≤ liftX u ∧ liftX u ≤ 45 := by unfold liftX; omega
  refine g_aload_n X dX8_lock_0 rfl 0 rfl ?_
  refine g_iload_n X dX8_lock_1 rfl 1 rfl ?_
  refine g_calli (st := []) X (c_X8_isMachine l G m pl w FM (by first | assumption | omega | (unfold InR; omega)) (by first | assumption | omega | (unfold InR; omega)) (by exact hr_m)) cm_X8_isMachine im_X8_isMachine se_X8_isMachine ml_X8_178 ck_X8 FM ⟨Nat.le_of_ble_eq_true rfl, Nat.le_of_ble_eq_true rfl⟩ rfl rfl (Nat.le_of_ble_eq_true rfl) dX8_lock_2 (fn_i ?_)
  refine g_if_eq (tgt := 17) X dX8_lock_5 (by decide) (by exact in01) (fun c_5 => ?_) (fun c_5 => ?_)
  · skip
    refine g_iconst X dX8_lock_17 ?_
    exact g_iret X rfl rfl dX8_lock_18 (by refine Or.inl ⟨?_, rfl, rfl⟩; first | exact fun h => of_zero c_5 h.1 | exact fun h => of_zero (Classical.not_not.mp c_14) h.2)
  · skip
    refine g_iload_n X dX8_lock_8 rfl 2 rfl ?_
    refine g_iconst X dX8_lock_9 ?_
    refine g_iconst X dX8_lock_10 ?_
    refine g_callsi (st := []) X (c_X8_in l G is_ 0 1 w (by exact hr_is_) (by first | assumption | omega | (unfold InR; omega)) (by first | assumption | omega | (unfold InR; omega))) cm_X8_in sm_X8_in ml_X8_61 ⟨Nat.le_of_ble_eq_true rfl, Nat.le_of_ble_eq_true rfl⟩ rfl rfl (Nat.le_of_ble_eq_true rfl) dX8_lock_11 (fn_i ?_)
    refine g_if_ne (tgt := 19) X dX8_lock_14 (by decide) (by exact in01) (fun c_14 => ?_) (fun c_14 => ?_)
    · skip
      have hmm := of_one c_5
      have hii := of_one c_14
      have hm6 : m.toNat < 6 := by omega
      have ho := rM m.toNat hm6
      have t5 := tb01 (u 5 0) m.toNat
      refine g_aload_n X dX8_lock_19 rfl 0 rfl ?_
      refine g_iload_n X dX8_lock_20 rfl 1 rfl ?_
      refine g_iconst X dX8_lock_21 ?_
      refine g_calli (st := []) X (c_X8_own l G m 3 w FM (by first | assumption | omega | (unfold InR; omega)) (by first | assumption | omega | (unfold InR; omega))) cm_X8_own im_X8_own se_X8_own ml_X8_122 ck_X8 FM ⟨Nat.le_of_ble_eq_true rfl, Nat.le_of_ble_eq_true rfl⟩ rfl rfl (Nat.le_of_ble_eq_true rfl) dX8_lock_22 (fn_i ?_)
      rw [show (w 20 5 (17 + 14 * m + 3).toNat : Int) = tb (u 5 0) m.toNat from (by rw [show (17 + 14 * m + 3).toNat = 20 + 14 * m.toNat by omega]; exact ho.2.2.2.1)]
      refine g_iload_n X dX8_lock_25 rfl 2 rfl ?_
      refine g_icmp_ne (tgt := 32) X dX8_lock_26 (by decide) (by unfold InR; omega) (by exact hr_is_) (fun c_26 => ?_) (fun c_26 => ?_)
      · skip
        refine g_aload_n X dX8_lock_32 rfl 0 rfl ?_
        refine g_callv (st := []) X (c_X8_note l G  w FM (by exact hch)) cm_X8_note im_X8_note se_X8_note ml_X8_175 ck_X8 FM ⟨Nat.le_of_ble_eq_true rfl, Nat.le_of_ble_eq_true rfl⟩ rfl rfl (Nat.le_of_ble_eq_true rfl) dX8_lock_33 ?_
        rintro u_33 ⟨nfr, n8, npast⟩
        have n5 : u_33 20 5 = w 20 5 := nfr 20 5 (by decide)
        have n4 : u_33 20 4 = w 20 4 := nfr 20 4 (by decide)
        have nN : NoteR w u_33 := ⟨n8, npast⟩
        have nC : TbC pl (u_33 20) := by unfold TbC; rw [nfr 20 10 (by decide), nfr 20 11 (by decide), nfr 20 12 (by decide)]; exact hC
        refine g_aload_n X dX8_lock_36 rfl 0 rfl ?_
        refine g_geta X ck_X8 FM 5 (by decide) fl_X8_19 rfl dX8_lock_37 ?_
        refine g_bipush X dX8_lock_40 (by decide) ?_
        refine g_bipush X dX8_lock_42 (by decide) ?_
        refine g_iload_n X dX8_lock_44 rfl 1 rfl ?_
        refine g_imul X dX8_lock_45 ?_
        refine g_iadd X dX8_lock_46 ?_
        refine g_iconst X dX8_lock_47 ?_
        refine g_iadd X dX8_lock_48 ?_
        refine g_iload_n X dX8_lock_49 rfl 2 rfl ?_
        refine h_iast (a := (17 + (14 * m)) + 3) (j := ((17 + (14 * m)) + 3).toNat) X rfl FM (by decide) (show fkX 8 5 = (1, 101) from rfl) (by decide) (by omega) (by omega) dX8_lock_50 ?_
        obtain ⟨w_1, ew_1⟩ : ∃ q_ : Wd, q_ = up u_33 20 5 ((17 + (14 * m)) + 3).toNat is_ := ⟨_, rfl⟩
        refine g_w (w' := w_1) ew_1 ?_
        obtain ⟨aa, haa⟩ : ∃ q, q = fu u 5 0 (if is_ = 1 then setB (u 5 0) m else clrB (u 5 0) m) := ⟨_, rfl⟩
        have hbs := bt_set (s := u 5 0) (m := m) (by omega) (by omega) hmm.1 (by omega)
        have hbc := bt_clr (s := u 5 0) (m := m) (by omega) (by omega) hmm.1 (by omega)
        have hsr : (0 ≤ (if is_ = 1 then setB (u 5 0) m else clrB (u 5 0) m) ∧ (if is_ = 1 then setB (u 5 0) m else clrB (u 5 0) m) < 64) ∧ ∀ k, k < 6 → tb (if is_ = 1 then setB (u 5 0) m else clrB (u 5 0) m) k = if k = m.toNat then is_ else tb (u 5 0) k := by
          by_cases e : is_ = 1
          · rw [if_pos e, e]; exact ⟨⟨hbs.1, hbs.2.1⟩, hbs.2.2⟩
          · rw [if_neg e, show is_ = 0 by omega]; exact ⟨⟨hbc.1, hbc.2.1⟩, hbc.2.2⟩
        have hRa : RS aa (w_1 20 5) := by rw [haa, ew_1, up_row, n5, show (17 + 14 * m + 3).toNat = 20 + 14 * m.toNat by omega]; exact rs_lk hR hm6 hsr.2
        have hUa : SU (pl 0 0) aa := by
          rw [haa]
          refine su_lk hU (fun k a b => ?_)
          rw [hsr.2 k b, if_neg (by omega)]
          exact hU.2.2.2.1 k a b
        have hSa : SV B (pl 0 0) aa := by rw [haa]; exact sv_fu5 hS hsr.1
        have a9 : aa 9 0 = u 9 0 := by rw [haa, fu_ne (by decide)]
        have a10 : ∀ j, aa 10 j = u 10 j := fun j => by rw [haa, fu_ne (by omega)]
        have a6 : aa 6 0 = u 6 0 := by rw [haa, fu_ne (by decide)]
        have a7 : aa 7 0 = u 7 0 := by rw [haa, fu_ne (by decide)]
        have hlk1 : is_ = 1 → lockX u m is_ = tkX (spX aa m) m := fun e => by unfold lockX; rw [if_pos e, haa, if_pos e]
        have hlk0 : ¬ is_ = 1 → lockX u m is_ = aa := fun e => by unfold lockX; rw [if_neg e, haa, if_neg e]
        have hgo : SV B (pl 0 0) (lockX u m is_) ∧ SU (pl 0 0) (lockX u m is_) := by
          by_cases e : is_ = 1
          · rw [hlk1 e]
            have hs2 := sv_sp (m := m) hSa hmm.1 (by omega)
            have hu2 := sp_su (m := m) hSa hUa hmm.1 (by omega) (by omega)
            exact ⟨sv_tk hs2, (su_tk hu2 hs2.2.2.2.1.2 m).1⟩
          · rw [hlk0 e]; exact ⟨hSa, hUa⟩
        refine g_iload_n X dX8_lock_51 rfl 2 rfl ?_
        refine g_cut1 (pc' := 81) (fun (w3 : Wd) => [(0, .ref (gAd G 20)), (1, .int (iI m)), (2, .int (iI is_))]) (fun (w3 : Wd) => []) (fun (w3 : Wd) => w3) (fun (w3 : Wd) => (RS (lockX u m is_) (w3 20 5)) ∧ (∀ o f, ¬ (o = 20 ∧ f = 5) → w3 o f = u_33 o f)) ?_ ?_
        · intro w3 hI_81
          obtain ⟨l1, l2⟩ := hI_81
          try dsimp only
          refine g_aload_n X dX8_lock_81 rfl 0 rfl ?_
          refine g_calli (st := []) X (c_X8_lockedOnes l G pl (lockX u m is_) B w3 FM (by rw [l2 20 4 (by decide), n4]; exact hT) (by first | assumption | omega | (unfold InR; omega)) (by exact l1) (by exact hgo.1) (by exact hgo.2) (by first | assumption | omega | (unfold InR; omega))) cm_X8_lockedOnes im_X8_lockedOnes se_X8_lockedOnes ml_X8_128 ck_X8 FM ⟨Nat.le_of_ble_eq_true rfl, Nat.le_of_ble_eq_true rfl⟩ rfl rfl (Nat.le_of_ble_eq_true rfl) dX8_lock_82 (fn_i ?_)
          refine g_callsi (st := []) X (c_X8_ones l G ((lockX u m is_) 5 0) w3 (by exact hgo.1.2.2.1.1)) cm_X8_ones sm_X8_ones ml_X8_137 ⟨Nat.le_of_ble_eq_true rfl, Nat.le_of_ble_eq_true rfl⟩ rfl rfl (Nat.le_of_ble_eq_true rfl) dX8_lock_85 (fn_i ?_)
          exact g_iret X rfl rfl dX8_lock_88 (by
              refine Or.inr (Or.inr ⟨⟨hmm, hii⟩, c_26, rfl, l1, ⟨?_, ?_⟩, ⟨?_, ?_, ?_, ?_⟩, ?_⟩)
              · rw [l2 20 8 (by decide)]; exact n8
              · rw [l2 20 7 (by decide)]; exact npast
              · rw [l2 20 0 (by decide)]; exact nfr 20 0 (by decide)
              · rw [l2 20 1 (by decide)]; exact nfr 20 1 (by decide)
              · rw [l2 20 4 (by decide)]; exact nfr 20 4 (by decide)
              · rw [l2 20 9 (by decide)]; exact nfr 20 9 (by decide)
              · unfold TbC; rw [l2 20 10 (by decide), l2 20 11 (by decide), l2 20 12 (by decide)]; exact nC)
        · intro J_81
          try dsimp only at J_81
          refine g_iconst X dX8_lock_52 ?_
          refine g_icmp_ne (tgt := 81) X dX8_lock_53 (by decide) (by exact hr_is_) ⟨by decide, by decide⟩ (fun c_53 => ?_) (fun c_53 => ?_)
          · skip
            refine g_lv (lv' := [(0, .ref (gAd G 20)), (1, .int (iI m)), (2, .int (iI is_))]) [0, 1, 2] rfl ?_
            exact J_81 w_1 ⟨(by
                first
                | (have hnr : ¬ tb (runX aa) m.toNat = 1 := (by unfold runX; rw [a6, a7]; omega)
                   rw [hlk1 (by omega), show spX aa m = aa from if_neg hnr]
                   exact hR2)
                | (have hry : tb (runX (tkX aa m)) m.toNat = 1 := (by unfold runX; rw [tk6, tk7, a6, a7]; omega)
                   rw [hlk1 (by omega), sp_tk, ew_1, upA_at]
                   have g := rs_sp (m := m.toNat) hR2 hm6 (by rw [tk6, a6]; omega) (by rw [tk7, a7]; omega) hry
                   rw [show ((m.toNat : Nat) : Int) = m by omega] at g
                   exact g)
                | (rw [hlk0 (by omega)]; exact hRa)), (by
                intro o f h
                first
                | (rw [ew_1, upA_ne h, upA_ne h, up_fn h])
                | (rw [ew_1, upA_ne h, up_fn h])
                | (rw [ew_1, up_fn h]))⟩
          · skip
            refine g_aload_n X dX8_lock_56 rfl 0 rfl ?_
            refine g_iload_n X dX8_lock_57 rfl 1 rfl ?_
            refine g_callv (st := []) X (c_X8_unlist l G m w_1 FM (by rw [hRa.2.1.2.2.2.2.2.2, a9]; omega) (by exact hr_m) (by intro j hj; rw [hRa.2.1.2.2.2.2.2.2, a9] at hj; rw [hRa.2.2.1 j (by omega) (by rw [a9]; exact hj), a10]; have := sE j hj; unfold InR; omega)) cm_X8_unlist im_X8_unlist se_X8_unlist ml_X8_159 ck_X8 FM ⟨Nat.le_of_ble_eq_true rfl, Nat.le_of_ble_eq_true rfl⟩ rfl rfl (Nat.le_of_ble_eq_true rfl) dX8_lock_58 (fn_v ?_)
            obtain ⟨w_2, ew_2⟩ : ∃ q_ : Wd, q_ = upA w_1 20 5 (dun (w_1 20 5) m) := ⟨_, rfl⟩
            refine g_w (w' := w_2) ew_2 ?_
            have hR2 : RS (tkX aa m) (w_2 20 5) := by rw [ew_2, upA_at]; exact rs_tk hRa (by rw [a9]; omega) m
            have tk6 : tkX aa m 6 0 = aa 6 0 := by rw [(tk_at aa m).1 6 (by decide) (by decide)]
            have tk7 : tkX aa m 7 0 = aa 7 0 := by rw [(tk_at aa m).1 7 (by decide) (by decide)]
            have tk1 : tkX aa m 1 0 = aa 1 0 := by rw [(tk_at aa m).1 1 (by decide) (by decide)]
            have q6 := tb01 (u 6 0) m.toNat
            have q7 := tb01 (u 7 0) m.toNat
            have ho2 := (hR2.2.2.2 m.toNat hm6).1
            rw [tk6, tk7, a6, a7] at ho2
            have hrm := hrun.2.2 m.toNat hm6
            have h04 : w_2 20 5 4 = tkX aa m 1 0 := hR2.2.1.1
            refine g_aload_n X dX8_lock_61 rfl 0 rfl ?_
            refine g_iload_n X dX8_lock_62 rfl 1 rfl ?_
            refine g_iconst X dX8_lock_63 ?_
            refine g_calli (st := []) X (c_X8_own l G m 0 w_2 FM (by first | assumption | omega | (unfold InR; omega)) (by first | assumption | omega | (unfold InR; omega))) cm_X8_own im_X8_own se_X8_own ml_X8_122 ck_X8 FM ⟨Nat.le_of_ble_eq_true rfl, Nat.le_of_ble_eq_true rfl⟩ rfl rfl (Nat.le_of_ble_eq_true rfl) dX8_lock_64 (fn_i ?_)
            rw [show (w_2 20 5 (17 + 14 * m + 0).toNat : Int) = tb (u 6 0) m.toNat + 2 * tb (u 7 0) m.toNat from (by rw [show (17 + 14 * m + 0).toNat = 17 + 14 * m.toNat by omega]; exact ho2)]
            refine g_if_le (tgt := 81) X dX8_lock_67 (by decide) (by unfold InR; omega) (fun c_67 => ?_) (fun c_67 => ?_)
            · skip
              refine g_lv (lv' := [(0, .ref (gAd G 20)), (1, .int (iI m)), (2, .int (iI is_))]) [0, 1, 2] rfl ?_
              exact J_81 w_2 ⟨(by
                  first
                  | (have hnr : ¬ tb (runX aa) m.toNat = 1 := (by unfold runX; rw [a6, a7]; omega)
                     rw [hlk1 (by omega), show spX aa m = aa from if_neg hnr]
                     exact hR2)
                  | (have hry : tb (runX (tkX aa m)) m.toNat = 1 := (by unfold runX; rw [tk6, tk7, a6, a7]; omega)
                     rw [hlk1 (by omega), sp_tk, ew_2, upA_at]
                     have g := rs_sp (m := m.toNat) hR2 hm6 (by rw [tk6, a6]; omega) (by rw [tk7, a7]; omega) hry
                     rw [show ((m.toNat : Nat) : Int) = m by omega] at g
                     exact g)
                  | (rw [hlk0 (by omega)]; exact hRa)), (by
                  intro o f h
                  first
                  | (rw [ew_2, ew_1, upA_ne h, upA_ne h, up_fn h])
                  | (rw [ew_2, ew_1, upA_ne h, up_fn h])
                  | (rw [ew_2, ew_1, up_fn h]))⟩
            · skip
              refine g_aload_n X dX8_lock_70 rfl 0 rfl ?_
              refine g_iload_n X dX8_lock_71 rfl 1 rfl ?_
              refine g_aload_n X dX8_lock_72 rfl 0 rfl ?_
              refine g_geta X ck_X8 FM 5 (by decide) fl_X8_19 rfl dX8_lock_73 ?_
              refine g_iconst X dX8_lock_76 ?_
              refine h_iald (a := 4) (j := 4) X rfl FM (by decide) (show fkX 8 5 = (1, 101) from rfl) (by decide) (by omega) (by omega) dX8_lock_77 ?_
              rw [show (w_2 20 5 4 : Int) = tkX aa m 1 0 from h04]
              refine g_callv (st := []) X (c_X8_stop l G m (tkX aa m 1 0) w_2 FM (by first | assumption | omega | (unfold InR; omega))) cm_X8_stop im_X8_stop se_X8_stop ml_X8_172 ck_X8 FM ⟨Nat.le_of_ble_eq_true rfl, Nat.le_of_ble_eq_true rfl⟩ rfl rfl (Nat.le_of_ble_eq_true rfl) dX8_lock_78 (fn_v ?_)
              obtain ⟨w_3, ew_3⟩ : ∃ q_ : Wd, q_ = upA w_2 20 5 (dsp (w_2 20 5) m.toNat (tkX aa m 1 0)) := ⟨_, rfl⟩
              refine g_w (w' := w_3) ew_3 ?_
              refine g_lv (lv' := [(0, .ref (gAd G 20)), (1, .int (iI m)), (2, .int (iI is_))]) [0, 1, 2] rfl ?_
              exact J_81 w_3 ⟨(by
                  first
                  | (have hnr : ¬ tb (runX aa) m.toNat = 1 := (by unfold runX; rw [a6, a7]; omega)
                     rw [hlk1 (by omega), show spX aa m = aa from if_neg hnr]
                     exact hR2)
                  | (have hry : tb (runX (tkX aa m)) m.toNat = 1 := (by unfold runX; rw [tk6, tk7, a6, a7]; omega)
                     rw [hlk1 (by omega), sp_tk, ew_3, upA_at]
                     have g := rs_sp (m := m.toNat) hR2 hm6 (by rw [tk6, a6]; omega) (by rw [tk7, a7]; omega) hry
                     rw [show ((m.toNat : Nat) : Int) = m by omega] at g
                     exact g)
                  | (rw [hlk0 (by omega)]; exact hRa)), (by
                  intro o f h
                  first
                  | (rw [ew_3, ew_2, ew_1, upA_ne h, upA_ne h, up_fn h])
                  | (rw [ew_3, ew_2, ew_1, upA_ne h, up_fn h])
                  | (rw [ew_3, ew_2, ew_1, up_fn h]))⟩
      · skip
        refine g_bipush X dX8_lock_29 (by decide) ?_
        exact g_iret X rfl rfl dX8_lock_31 (by exact Or.inr (Or.inl ⟨⟨hmm, hii⟩, Classical.not_not.mp c_26, rfl, rfl⟩))
    · skip
      refine g_iconst X dX8_lock_17 ?_
      exact g_iret X rfl rfl dX8_lock_18 (by refine Or.inl ⟨?_, rfl, rfl⟩; first | exact fun h => of_zero c_5 h.1 | exact fun h => of_zero (Classical.not_not.mp c_14) h.2)
set_option maxHeartbeats 4000000 in
set_option maxRecDepth 100000 in
theorem c_X8_machine (l : Launch) (G : Ly) (m : Int) (what : Int) (pl : Nat → Nat → Int) (u : Nat → Nat → Int) (B : Int) (w : Wd) (FM : gOb G 20 = some 8) (hT : PlR pl (w 20 4)) (hp : PV pl) (hR : RS u (w 20 5)) (hS : SV B (pl 0 0) u) (hU : SU (pl 0 0) u) (hB : B ≤ 99000) (hC : TbC pl (w 20)) (hr_m : InR m) (hr_what : InR what) : Mi l yX8_machine cX8_machine 3 (some .int) 5 125 G [.ref (gAd G 20), .int (iI m), .int (iI what)] w (fun z w2 => (∀ o f, ¬ (o = 20 ∧ 10 ≤ f ∧ f ≤ 13) → w2 o f = w o f) ∧ TbC pl (w2 20) ∧ (¬ (0 ≤ m ∧ m < pl 0 0) → z = -1) ∧ ((0 ≤ m ∧ m < pl 0 0) → what ≠ 11 → z = machV pl u m what) ∧ ((0 ≤ m ∧ m < pl 0 0) → what = 11 → ∃ v, BestC pl (pkX pl (liftX u)) (u 7 0) (pl 0 0).toNat (madeX pl u) v ∧ z = v / 2 ^ (7 * (5 - m.toNat)) % 128)) := by
  refine mi_of (lv := [(0, .ref (gAd G 20)), (1, .int (iI m)), (2, .int (iI what))]) (by decide) (Nat.le_of_ble_eq_true rfl) rfl ?_
  intro p_ e_ s_ m_ b_ h_ c_ X
  have hp0 := hp.1
  have hp7 := hp.2.2
  have t36 := hT.1
  have sT := hS.1
  have sB := hS.2.1
  have sC := hS.2.2.1
  have sD := hS.2.2.2.1
  have sE := hS.2.2.2.2.1
  have sF := hS.2.2.2.2.2.1
  have sG := hS.2.2.2.2.2.2.1
  have sH := hS.2.2.2.2.2.2.2
  have rT := hR.1
  have rB := hR.2.1
  have rL := hR.2.2.1
  have rM := hR.2.2.2
  have uA := hU.1
  have hrun := bt_or (s := u 6 0) (t := u 7 0) (by omega) (by omega) (by omega) (by omega)
  have r00 : w 20 5 0 = u 0 0 := rT 0 (by decide)
  have r01 : w 20 5 1 = u 0 1 := rT 1 (by decide)
  have r02 : w 20 5 2 = u 0 2 := rT 2 (by decide)
  have r03 : w 20 5 3 = u 0 3 := rT 3 (by decide)
  have r04 : w 20 5 4 = u 1 0 := rB.1
  have hall := bt_all (pl 0 0) (by omega) (by omega)
  have hlf0 : 0 ≤ liftX u ∧ liftX u ≤ 45 := by unfold liftX; omega
  refine g_aload_n X dX8_machine_0 rfl 0 rfl ?_
  refine g_iload_n X dX8_machine_1 rfl 1 rfl ?_
  refine g_calli (st := []) X (c_X8_isMachine l G m pl w FM (by first | assumption | omega | (unfold InR; omega)) (by first | assumption | omega | (unfold InR; omega)) (by exact hr_m)) cm_X8_isMachine im_X8_isMachine se_X8_isMachine ml_X8_178 ck_X8 FM ⟨Nat.le_of_ble_eq_true rfl, Nat.le_of_ble_eq_true rfl⟩ rfl rfl (Nat.le_of_ble_eq_true rfl) dX8_machine_2 (fn_i ?_)
  refine g_if_eq (tgt := 18) X dX8_machine_5 (by decide) (by exact in01) (fun c_5 => ?_) (fun c_5 => ?_)
  · skip
    refine g_iconst X dX8_machine_18 ?_
    exact g_iret X rfl rfl dX8_machine_19 (by
        first
        | exact ⟨fun _ _ _ => rfl, hC, fun _ => rfl, fun h => absurd h (of_zero c_5), fun h => absurd h (of_zero c_5)⟩
        | (have hw := of_zero (Classical.not_not.mp c_15)
           refine ⟨fun _ _ _ => rfl, hC, fun _ => rfl, fun _ h => ?_, fun _ h => absurd h (by omega)⟩
           unfold machV
           rw [if_neg (by omega), if_neg (by omega), if_neg (by omega), if_neg (by omega), if_neg (by omega), if_neg (by omega), if_neg (by omega), if_neg (by omega), if_neg (by omega), if_neg (by omega), if_neg (by omega), if_neg (by omega)]))
  · skip
    refine g_iload_n X dX8_machine_8 rfl 2 rfl ?_
    refine g_iconst X dX8_machine_9 ?_
    refine g_bipush X dX8_machine_10 (by decide) ?_
    refine g_callsi (st := []) X (c_X8_in l G what 0 12 w (by exact hr_what) (by first | assumption | omega | (unfold InR; omega)) (by first | assumption | omega | (unfold InR; omega))) cm_X8_in sm_X8_in ml_X8_61 ⟨Nat.le_of_ble_eq_true rfl, Nat.le_of_ble_eq_true rfl⟩ rfl rfl (Nat.le_of_ble_eq_true rfl) dX8_machine_12 (fn_i ?_)
    refine g_if_ne (tgt := 20) X dX8_machine_15 (by decide) (by exact in01) (fun c_15 => ?_) (fun c_15 => ?_)
    · skip
      have hmm := of_one c_5
      have hwt := of_one c_15
      have hm6 : m.toNat < 6 := by omega
      have ho := rM m.toNat hm6
      refine g_iload_n X dX8_machine_20 rfl 2 rfl ?_
      refine g_bipush X dX8_machine_21 (by decide) ?_
      refine g_icmp_ge (tgt := 38) X dX8_machine_23 (by decide) (by exact hr_what) ⟨by decide, by decide⟩ (fun c_23 => ?_) (fun c_23 => ?_)
      · skip
        refine g_iload_n X dX8_machine_38 rfl 2 rfl ?_
        refine g_bipush X dX8_machine_39 (by decide) ?_
        refine g_icmp_ge (tgt := 54) X dX8_machine_41 (by decide) (by exact hr_what) ⟨by decide, by decide⟩ (fun c_41 => ?_) (fun c_41 => ?_)
        · skip
          refine g_iload_n X dX8_machine_54 rfl 2 rfl ?_
          refine g_bipush X dX8_machine_55 (by decide) ?_
          refine g_icmp_ne (tgt := 82) X dX8_machine_57 (by decide) (by exact hr_what) ⟨by decide, by decide⟩ (fun c_57 => ?_) (fun c_57 => ?_)
          · skip
            refine g_iload_n X dX8_machine_82 rfl 2 rfl ?_
            refine g_bipush X dX8_machine_83 (by decide) ?_
            refine g_icmp_ne (tgt := 100) X dX8_machine_85 (by decide) (by exact hr_what) ⟨by decide, by decide⟩ (fun c_85 => ?_) (fun c_85 => ?_)
            · skip
              refine g_aload_n X dX8_machine_100 rfl 0 rfl ?_
              refine g_iload_n X dX8_machine_101 rfl 1 rfl ?_
              refine g_calli (st := []) X (c_X8_placeInList l G m pl u B w FM (by first | assumption | omega | (unfold InR; omega)) (by first | assumption | omega | (unfold InR; omega)) (by first | assumption | omega | (unfold InR; omega)) (by first | assumption | omega | (unfold InR; omega)) (by first | assumption | omega | (unfold InR; omega)) (by first | assumption | omega | (unfold InR; omega)) (by exact hr_m)) cm_X8_placeInList im_X8_placeInList se_X8_placeInList ml_X8_184 ck_X8 FM ⟨Nat.le_of_ble_eq_true rfl, Nat.le_of_ble_eq_true rfl⟩ rfl rfl (Nat.le_of_ble_eq_true rfl) dX8_machine_102 (fn_i ?_)
              exact g_iret X rfl rfl dX8_machine_105 (by
                  refine ⟨fun _ _ _ => rfl, hC, fun h => absurd hmm h, fun _ h => ?_, fun _ h => absurd h (by omega)⟩
                  have e : what = 12 := by omega
                  subst e
                  rfl)
            · skip
              refine g_aload_n X dX8_machine_88 rfl 0 rfl ?_
              refine g_calli (st := []) X (c_X8_made l G pl u B w FM (by first | assumption | omega | (unfold InR; omega)) (by first | assumption | omega | (unfold InR; omega)) (by first | assumption | omega | (unfold InR; omega)) (by first | assumption | omega | (unfold InR; omega)) (by first | assumption | omega | (unfold InR; omega)) (by first | assumption | omega | (unfold InR; omega)) (by first | assumption | omega | (unfold InR; omega))) cm_X8_made im_X8_made se_X8_made ml_X8_147 ck_X8 FM ⟨Nat.le_of_ble_eq_true rfl, Nat.le_of_ble_eq_true rfl⟩ rfl rfl (Nat.le_of_ble_eq_true rfl) dX8_machine_89 ?_
              rintro z_89 u_89 ⟨hz, ⟨hfr, hC2, h11, h12⟩, v, hv, hat⟩
              refine g_pop X dX8_machine_92 rfl ?_
              refine g_aload_n X dX8_machine_93 rfl 0 rfl ?_
              refine g_geta X ck_X8 FM 13 (by decide) fl_X8_34 rfl dX8_machine_94 ?_
              refine g_iload_n X dX8_machine_97 rfl 1 rfl ?_
              refine h_iald (a := m) (j := (m).toNat) X rfl FM (by decide) (show fkX 8 13 = (1, 6) from rfl) (by decide) (by omega) (by omega) dX8_machine_98 ?_
              exact g_iret X rfl rfl dX8_machine_99 (by
                  refine ⟨hfr, hC2, fun h => absurd hmm h, fun _ h => absurd (by omega) h, fun _ _ => ⟨v, hv, ?_⟩⟩
                  exact ((att_dig hp hlf0 hat).2 m.toNat (by omega)).symm)
          · skip
            refine g_aload_n X dX8_machine_60 rfl 0 rfl ?_
            refine g_iload_n X dX8_machine_61 rfl 1 rfl ?_
            refine g_aload_n X dX8_machine_62 rfl 0 rfl ?_
            refine g_geta X ck_X8 FM 5 (by decide) fl_X8_19 rfl dX8_machine_63 ?_
            refine g_iconst X dX8_machine_66 ?_
            refine h_iald (a := 4) (j := 4) X rfl FM (by decide) (show fkX 8 5 = (1, 101) from rfl) (by decide) (by omega) (by omega) dX8_machine_67 ?_
            rw [show (w 20 5 4 : Int) = u 1 0 from r04]
            refine g_iconst X dX8_machine_68 ?_
            refine g_iadd X dX8_machine_69 ?_
            refine g_calli (st := []) X (c_X8_mayStart l G m ((u 1 0) + 1) pl u B w FM (by first | assumption | omega | (unfold InR; omega)) (by first | assumption | omega | (unfold InR; omega)) (by first | assumption | omega | (unfold InR; omega)) (by first | assumption | omega | (unfold InR; omega)) (by first | assumption | omega | (unfold InR; omega)) (by first | assumption | omega | (unfold InR; omega)) (by first | assumption | omega | (unfold InR; omega)) (by omega)) cm_X8_mayStart im_X8_mayStart se_X8_mayStart ml_X8_153 ck_X8 FM ⟨Nat.le_of_ble_eq_true rfl, Nat.le_of_ble_eq_true rfl⟩ rfl rfl (Nat.le_of_ble_eq_true rfl) dX8_machine_70 (fn_i ?_)
            refine g_if_eq (tgt := 80) X dX8_machine_73 (by decide) (by exact in01) (fun c_73 => ?_) (fun c_73 => ?_)
            · skip
              refine g_iconst X dX8_machine_80 ?_
              exact g_iret X rfl rfl dX8_machine_81 (by
                  refine ⟨fun _ _ _ => rfl, hC, fun h => absurd hmm h, fun _ h => ?_, fun _ h => absurd h (by omega)⟩
                  have e : what = 10 := by omega
                  subst e
                  show _ = if mayX pl u m (u 1 0 + 1) then 1 else 0
                  first
                  | exact (if_pos (of_one c_73)).symm
                  | exact (if_neg (of_zero c_73)).symm)
            · skip
              refine g_iconst X dX8_machine_76 ?_
              refine g_goto (tgt := 81) X dX8_machine_77 (by decide) ?_
              exact g_iret X rfl rfl dX8_machine_81 (by
                  refine ⟨fun _ _ _ => rfl, hC, fun h => absurd hmm h, fun _ h => ?_, fun _ h => absurd h (by omega)⟩
                  have e : what = 10 := by omega
                  subst e
                  show _ = if mayX pl u m (u 1 0 + 1) then 1 else 0
                  first
                  | exact (if_pos (of_one c_73)).symm
                  | exact (if_neg (of_zero c_73)).symm)
        · skip
          refine g_aload_n X dX8_machine_44 rfl 0 rfl ?_
          refine g_iload_n X dX8_machine_45 rfl 1 rfl ?_
          refine g_iload_n X dX8_machine_46 rfl 2 rfl ?_
          refine g_bipush X dX8_machine_47 (by decide) ?_
          refine g_isub X dX8_machine_49 ?_
          refine g_calli (st := []) X (c_X8_own l G m (what - 6) w FM (by omega) (by omega)) cm_X8_own im_X8_own se_X8_own ml_X8_122 ck_X8 FM ⟨Nat.le_of_ble_eq_true rfl, Nat.le_of_ble_eq_true rfl⟩ rfl rfl (Nat.le_of_ble_eq_true rfl) dX8_machine_50 (fn_i ?_)
          exact g_iret X rfl rfl dX8_machine_53 (by
              refine ⟨fun _ _ _ => rfl, hC, fun h => absurd hmm h, fun _ h => ?_, fun _ h => absurd h (by omega)⟩
              rcases (show what = 6 ∨ what = 7 ∨ what = 8 ∨ what = 9 by omega) with e | e | e | e <;> subst e
              · rw [show (17 + 14 * m + (6 - 6)).toNat = 17 + 14 * m.toNat by omega]; exact ho.1
              · rw [show (17 + 14 * m + (7 - 6)).toNat = 18 + 14 * m.toNat by omega]; exact ho.2.1
              · rw [show (17 + 14 * m + (8 - 6)).toNat = 19 + 14 * m.toNat by omega]; exact ho.2.2.1
              · rw [show (17 + 14 * m + (9 - 6)).toNat = 20 + 14 * m.toNat by omega]; exact ho.2.2.2.1)
      · skip
        refine g_aload_n X dX8_machine_26 rfl 0 rfl ?_
        refine g_geta X ck_X8 FM 4 (by decide) fl_X8_16 rfl dX8_machine_27 ?_
        refine g_bipush X dX8_machine_30 (by decide) ?_
        refine g_iload_n X dX8_machine_32 rfl 1 rfl ?_
        refine g_imul X dX8_machine_33 ?_
        refine g_iload_n X dX8_machine_34 rfl 2 rfl ?_
        refine g_iadd X dX8_machine_35 ?_
        refine h_iald (a := (6 * m) + what) (j := ((6 * m) + what).toNat) X rfl FM (by decide) (show fkX 8 4 = (1, 44) from rfl) (by decide) (by omega) (by omega) dX8_machine_36 ?_
        exact g_iret X rfl rfl dX8_machine_37 (by
            refine ⟨fun _ _ _ => rfl, hC, fun h => absurd hmm h, fun _ h => ?_, fun _ h => absurd h (by omega)⟩
            have e := plr hT hmm what.toNat (by omega)
            rw [show ((what.toNat : Nat) : Int) = what by omega] at e
            rw [e]
            rcases (show what = 0 ∨ what = 1 ∨ what = 2 ∨ what = 3 ∨ what = 4 ∨ what = 5 by omega) with e | e | e | e | e | e <;> subst e <;> rfl)
    · skip
      refine g_iconst X dX8_machine_18 ?_
      exact g_iret X rfl rfl dX8_machine_19 (by
          first
          | exact ⟨fun _ _ _ => rfl, hC, fun _ => rfl, fun h => absurd h (of_zero c_5), fun h => absurd h (of_zero c_5)⟩
          | (have hw := of_zero (Classical.not_not.mp c_15)
             refine ⟨fun _ _ _ => rfl, hC, fun _ => rfl, fun _ h => ?_, fun _ h => absurd h (by omega)⟩
             unfold machV
             rw [if_neg (by omega), if_neg (by omega), if_neg (by omega), if_neg (by omega), if_neg (by omega), if_neg (by omega), if_neg (by omega), if_neg (by omega), if_neg (by omega), if_neg (by omega), if_neg (by omega), if_neg (by omega)]))
set_option maxHeartbeats 4000000 in
set_option maxRecDepth 100000 in
theorem c_X8_count (l : Launch) (G : Ly) (what : Int) (pl : Nat → Nat → Int) (u : Nat → Nat → Int) (B : Int) (w : Wd) (FM : gOb G 20 = some 8) (hT : PlR pl (w 20 4)) (hp : PV pl) (hR : RS u (w 20 5)) (hS : SV B (pl 0 0) u) (hU : SU (pl 0 0) u) (hB : B ≤ 99000) (hr_what : InR what) : Mi l yX8_count cX8_count 2 (some .int) 2 45 G [.ref (gAd G 20), .int (iI what)] w (fun z w2 => z = (cntM pl u (w 20 8 0) (w 20 1 0) what) ∧ w2 = w) := by
  refine mi_of (lv := [(0, .ref (gAd G 20)), (1, .int (iI what))]) (by decide) (Nat.le_of_ble_eq_true rfl) rfl ?_
  intro p_ e_ s_ m_ b_ h_ c_ X
  have hp0 := hp.1
  have hp7 := hp.2.2
  have t36 := hT.1
  have sT := hS.1
  have sB := hS.2.1
  have sC := hS.2.2.1
  have sD := hS.2.2.2.1
  have sE := hS.2.2.2.2.1
  have sF := hS.2.2.2.2.2.1
  have sG := hS.2.2.2.2.2.2.1
  have sH := hS.2.2.2.2.2.2.2
  have rT := hR.1
  have rB := hR.2.1
  have rL := hR.2.2.1
  have rM := hR.2.2.2
  have uA := hU.1
  have hrun := bt_or (s := u 6 0) (t := u 7 0) (by omega) (by omega) (by omega) (by omega)
  refine g_iload_n X dX8_count_0 rfl 1 rfl ?_
  have hr_1 : InR what := (by exact hr_what)
  by_cases hs_1 : what < 0 ∨ 15 < what
  · refine g_tableOut (tgt := 153) X dX8_count_1 hr_1 hs_1 (by decide) ?_
    refine g_iconst X dX8_count_153 ?_
    exact g_iret X rfl rfl dX8_count_154 (by
        refine ⟨?_, rfl⟩
        unfold cntM
        rw [if_neg (by omega), if_neg (by omega), if_neg (by omega), if_neg (by omega), if_neg (by omega), if_neg (by omega), if_neg (by omega), if_neg (by omega), if_neg (by omega), if_neg (by omega), if_neg (by omega), if_neg (by omega), if_neg (by omega), if_neg (by omega), if_neg (by omega), if_neg (by omega)])
  by_cases hs_1_0 : what = 0
  · refine g_tableIn (off := 79) (tgt := 80) X dX8_count_1 hr_1 (by omega) (by omega) (by rw [hs_1_0]; rfl) (by decide) ?_
    refine g_aload_n X dX8_count_80 rfl 0 rfl ?_
    refine g_geta X ck_X8 FM 4 (by decide) fl_X8_16 rfl dX8_count_81 ?_
    refine g_bipush X dX8_count_84 (by decide) ?_
    refine h_iald (a := 36) (j := 36) X rfl FM (by decide) (show fkX 8 4 = (1, 44) from rfl) (by decide) (by omega) (by omega) dX8_count_86 ?_
    exact g_iret X rfl rfl dX8_count_87 (by
        refine ⟨?_, rfl⟩
        rw [hs_1_0]
        first | exact t36 | exact rB.2.2.2.2.2.2 | rfl)
  by_cases hs_1_1 : what = 1
  · refine g_tableIn (off := 87) (tgt := 88) X dX8_count_1 hr_1 (by omega) (by omega) (by rw [hs_1_1]; rfl) (by decide) ?_
    refine g_aload_n X dX8_count_88 rfl 0 rfl ?_
    refine g_iconst X dX8_count_89 ?_
    refine g_calli (st := []) X (c_X8_standing l G 1 pl u B (runX u) w FM (by first | assumption | omega | (unfold InR; omega)) (by first | assumption | omega | (unfold InR; omega)) (by first | assumption | omega | (unfold InR; omega)) (by first | assumption | omega | (unfold InR; omega)) (by first | assumption | omega | (unfold InR; omega)) (by first | assumption | omega | (unfold InR; omega)) (Or.inl ⟨rfl, rfl⟩)) cm_X8_standing im_X8_standing se_X8_standing ml_X8_140 ck_X8 FM ⟨Nat.le_of_ble_eq_true rfl, Nat.le_of_ble_eq_true rfl⟩ rfl rfl (Nat.le_of_ble_eq_true rfl) dX8_count_90 (fn_i ?_)
    refine g_callsi (st := []) X (c_X8_ones l G (runX u) w (by exact ⟨hrun.1, hrun.2.1⟩)) cm_X8_ones sm_X8_ones ml_X8_137 ⟨Nat.le_of_ble_eq_true rfl, Nat.le_of_ble_eq_true rfl⟩ rfl rfl (Nat.le_of_ble_eq_true rfl) dX8_count_93 (fn_i ?_)
    exact g_iret X rfl rfl dX8_count_96 (by
        refine ⟨?_, rfl⟩
        rw [hs_1_1]
        rfl)
  by_cases hs_1_2 : what = 2
  · refine g_tableIn (off := 96) (tgt := 97) X dX8_count_1 hr_1 (by omega) (by omega) (by rw [hs_1_2]; rfl) (by decide) ?_
    refine g_aload_n X dX8_count_97 rfl 0 rfl ?_
    refine g_iconst X dX8_count_98 ?_
    refine g_calli (st := []) X (c_X8_standing l G 2 pl u B (u 7 0) w FM (by first | assumption | omega | (unfold InR; omega)) (by first | assumption | omega | (unfold InR; omega)) (by first | assumption | omega | (unfold InR; omega)) (by first | assumption | omega | (unfold InR; omega)) (by first | assumption | omega | (unfold InR; omega)) (by first | assumption | omega | (unfold InR; omega)) (Or.inr ⟨rfl, rfl⟩)) cm_X8_standing im_X8_standing se_X8_standing ml_X8_140 ck_X8 FM ⟨Nat.le_of_ble_eq_true rfl, Nat.le_of_ble_eq_true rfl⟩ rfl rfl (Nat.le_of_ble_eq_true rfl) dX8_count_99 (fn_i ?_)
    refine g_callsi (st := []) X (c_X8_ones l G (u 7 0) w (by omega)) cm_X8_ones sm_X8_ones ml_X8_137 ⟨Nat.le_of_ble_eq_true rfl, Nat.le_of_ble_eq_true rfl⟩ rfl rfl (Nat.le_of_ble_eq_true rfl) dX8_count_102 (fn_i ?_)
    exact g_iret X rfl rfl dX8_count_105 (by
        refine ⟨?_, rfl⟩
        rw [hs_1_2]
        rfl)
  by_cases hs_1_3 : what = 3
  · refine g_tableIn (off := 105) (tgt := 106) X dX8_count_1 hr_1 (by omega) (by omega) (by rw [hs_1_3]; rfl) (by decide) ?_
    refine g_aload_n X dX8_count_106 rfl 0 rfl ?_
    refine g_calli (st := []) X (c_X8_lockedOnes l G pl u B w FM (by first | assumption | omega | (unfold InR; omega)) (by first | assumption | omega | (unfold InR; omega)) (by first | assumption | omega | (unfold InR; omega)) (by first | assumption | omega | (unfold InR; omega)) (by first | assumption | omega | (unfold InR; omega)) (by first | assumption | omega | (unfold InR; omega))) cm_X8_lockedOnes im_X8_lockedOnes se_X8_lockedOnes ml_X8_128 ck_X8 FM ⟨Nat.le_of_ble_eq_true rfl, Nat.le_of_ble_eq_true rfl⟩ rfl rfl (Nat.le_of_ble_eq_true rfl) dX8_count_107 (fn_i ?_)
    refine g_callsi (st := []) X (c_X8_ones l G (u 5 0) w (by omega)) cm_X8_ones sm_X8_ones ml_X8_137 ⟨Nat.le_of_ble_eq_true rfl, Nat.le_of_ble_eq_true rfl⟩ rfl rfl (Nat.le_of_ble_eq_true rfl) dX8_count_110 (fn_i ?_)
    exact g_iret X rfl rfl dX8_count_113 (by
        refine ⟨?_, rfl⟩
        rw [hs_1_3]
        rfl)
  by_cases hs_1_4 : what = 4
  · refine g_tableIn (off := 113) (tgt := 114) X dX8_count_1 hr_1 (by omega) (by omega) (by rw [hs_1_4]; rfl) (by decide) ?_
    refine g_aload_n X dX8_count_114 rfl 0 rfl ?_
    refine g_geta X ck_X8 FM 5 (by decide) fl_X8_19 rfl dX8_count_115 ?_
    refine g_bipush X dX8_count_118 (by decide) ?_
    refine h_iald (a := 10) (j := 10) X rfl FM (by decide) (show fkX 8 5 = (1, 101) from rfl) (by decide) (by omega) (by omega) dX8_count_120 ?_
    exact g_iret X rfl rfl dX8_count_121 (by
        refine ⟨?_, rfl⟩
        rw [hs_1_4]
        first | exact t36 | exact rB.2.2.2.2.2.2 | rfl)
  by_cases hs_1_5 : what = 5
  · refine g_tableIn (off := 121) (tgt := 122) X dX8_count_1 hr_1 (by omega) (by omega) (by rw [hs_1_5]; rfl) (by decide) ?_
    refine g_aload_n X dX8_count_122 rfl 0 rfl ?_
    refine g_geta X ck_X8 FM 5 (by decide) fl_X8_19 rfl dX8_count_123 ?_
    refine g_iconst X dX8_count_126 ?_
    refine g_iload_n X dX8_count_127 rfl 1 rfl ?_
    refine g_iadd X dX8_count_128 ?_
    refine g_iconst X dX8_count_129 ?_
    refine g_isub X dX8_count_130 ?_
    refine h_iald (a := (4 + what) - 5) (j := ((4 + what) - 5).toNat) X rfl FM (by decide) (show fkX 8 5 = (1, 101) from rfl) (by decide) (by omega) (by omega) dX8_count_131 ?_
    exact g_iret X rfl rfl dX8_count_132 (by
        refine ⟨?_, rfl⟩
        rcases (show what = 5 ∨ what = 6 ∨ what = 7 ∨ what = 8 ∨ what = 9 by omega) with e | e | e | e | e <;> subst e
        · exact rB.1
        · exact rB.2.1
        · exact rB.2.2.1
        · exact rB.2.2.2.1
        · exact rB.2.2.2.2.1)
  by_cases hs_1_6 : what = 6
  · refine g_tableIn (off := 121) (tgt := 122) X dX8_count_1 hr_1 (by omega) (by omega) (by rw [hs_1_6]; rfl) (by decide) ?_
    refine g_aload_n X dX8_count_122 rfl 0 rfl ?_
    refine g_geta X ck_X8 FM 5 (by decide) fl_X8_19 rfl dX8_count_123 ?_
    refine g_iconst X dX8_count_126 ?_
    refine g_iload_n X dX8_count_127 rfl 1 rfl ?_
    refine g_iadd X dX8_count_128 ?_
    refine g_iconst X dX8_count_129 ?_
    refine g_isub X dX8_count_130 ?_
    refine h_iald (a := (4 + what) - 5) (j := ((4 + what) - 5).toNat) X rfl FM (by decide) (show fkX 8 5 = (1, 101) from rfl) (by decide) (by omega) (by omega) dX8_count_131 ?_
    exact g_iret X rfl rfl dX8_count_132 (by
        refine ⟨?_, rfl⟩
        rcases (show what = 5 ∨ what = 6 ∨ what = 7 ∨ what = 8 ∨ what = 9 by omega) with e | e | e | e | e <;> subst e
        · exact rB.1
        · exact rB.2.1
        · exact rB.2.2.1
        · exact rB.2.2.2.1
        · exact rB.2.2.2.2.1)
  by_cases hs_1_7 : what = 7
  · refine g_tableIn (off := 121) (tgt := 122) X dX8_count_1 hr_1 (by omega) (by omega) (by rw [hs_1_7]; rfl) (by decide) ?_
    refine g_aload_n X dX8_count_122 rfl 0 rfl ?_
    refine g_geta X ck_X8 FM 5 (by decide) fl_X8_19 rfl dX8_count_123 ?_
    refine g_iconst X dX8_count_126 ?_
    refine g_iload_n X dX8_count_127 rfl 1 rfl ?_
    refine g_iadd X dX8_count_128 ?_
    refine g_iconst X dX8_count_129 ?_
    refine g_isub X dX8_count_130 ?_
    refine h_iald (a := (4 + what) - 5) (j := ((4 + what) - 5).toNat) X rfl FM (by decide) (show fkX 8 5 = (1, 101) from rfl) (by decide) (by omega) (by omega) dX8_count_131 ?_
    exact g_iret X rfl rfl dX8_count_132 (by
        refine ⟨?_, rfl⟩
        rcases (show what = 5 ∨ what = 6 ∨ what = 7 ∨ what = 8 ∨ what = 9 by omega) with e | e | e | e | e <;> subst e
        · exact rB.1
        · exact rB.2.1
        · exact rB.2.2.1
        · exact rB.2.2.2.1
        · exact rB.2.2.2.2.1)
  by_cases hs_1_8 : what = 8
  · refine g_tableIn (off := 121) (tgt := 122) X dX8_count_1 hr_1 (by omega) (by omega) (by rw [hs_1_8]; rfl) (by decide) ?_
    refine g_aload_n X dX8_count_122 rfl 0 rfl ?_
    refine g_geta X ck_X8 FM 5 (by decide) fl_X8_19 rfl dX8_count_123 ?_
    refine g_iconst X dX8_count_126 ?_
    refine g_iload_n X dX8_count_127 rfl 1 rfl ?_
    refine g_iadd X dX8_count_128 ?_
    refine g_iconst X dX8_count_129 ?_
    refine g_isub X dX8_count_130 ?_
    refine h_iald (a := (4 + what) - 5) (j := ((4 + what) - 5).toNat) X rfl FM (by decide) (show fkX 8 5 = (1, 101) from rfl) (by decide) (by omega) (by omega) dX8_count_131 ?_
    exact g_iret X rfl rfl dX8_count_132 (by
        refine ⟨?_, rfl⟩
        rcases (show what = 5 ∨ what = 6 ∨ what = 7 ∨ what = 8 ∨ what = 9 by omega) with e | e | e | e | e <;> subst e
        · exact rB.1
        · exact rB.2.1
        · exact rB.2.2.1
        · exact rB.2.2.2.1
        · exact rB.2.2.2.2.1)
  by_cases hs_1_9 : what = 9
  · refine g_tableIn (off := 121) (tgt := 122) X dX8_count_1 hr_1 (by omega) (by omega) (by rw [hs_1_9]; rfl) (by decide) ?_
    refine g_aload_n X dX8_count_122 rfl 0 rfl ?_
    refine g_geta X ck_X8 FM 5 (by decide) fl_X8_19 rfl dX8_count_123 ?_
    refine g_iconst X dX8_count_126 ?_
    refine g_iload_n X dX8_count_127 rfl 1 rfl ?_
    refine g_iadd X dX8_count_128 ?_
    refine g_iconst X dX8_count_129 ?_
    refine g_isub X dX8_count_130 ?_
    refine h_iald (a := (4 + what) - 5) (j := ((4 + what) - 5).toNat) X rfl FM (by decide) (show fkX 8 5 = (1, 101) from rfl) (by decide) (by omega) (by omega) dX8_count_131 ?_
    exact g_iret X rfl rfl dX8_count_132 (by
        refine ⟨?_, rfl⟩
        rcases (show what = 5 ∨ what = 6 ∨ what = 7 ∨ what = 8 ∨ what = 9 by omega) with e | e | e | e | e <;> subst e
        · exact rB.1
        · exact rB.2.1
        · exact rB.2.2.1
        · exact rB.2.2.2.1
        · exact rB.2.2.2.2.1)
  by_cases hs_1_10 : what = 10
  · refine g_tableIn (off := 132) (tgt := 133) X dX8_count_1 hr_1 (by omega) (by omega) (by rw [hs_1_10]; rfl) (by decide) ?_
    refine g_aload_n X dX8_count_133 rfl 0 rfl ?_
    refine g_geta X ck_X8 FM 5 (by decide) fl_X8_19 rfl dX8_count_134 ?_
    refine g_iload_n X dX8_count_137 rfl 1 rfl ?_
    refine g_bipush X dX8_count_138 (by decide) ?_
    refine g_isub X dX8_count_140 ?_
    refine h_iald (a := what - 10) (j := (what - 10).toNat) X rfl FM (by decide) (show fkX 8 5 = (1, 101) from rfl) (by decide) (by omega) (by omega) dX8_count_141 ?_
    exact g_iret X rfl rfl dX8_count_142 (by
        refine ⟨?_, rfl⟩
        rcases (show what = 10 ∨ what = 11 ∨ what = 12 ∨ what = 13 by omega) with e | e | e | e <;> subst e
        · exact rT 0 (by decide)
        · exact rT 1 (by decide)
        · exact rT 2 (by decide)
        · exact rT 3 (by decide))
  by_cases hs_1_11 : what = 11
  · refine g_tableIn (off := 132) (tgt := 133) X dX8_count_1 hr_1 (by omega) (by omega) (by rw [hs_1_11]; rfl) (by decide) ?_
    refine g_aload_n X dX8_count_133 rfl 0 rfl ?_
    refine g_geta X ck_X8 FM 5 (by decide) fl_X8_19 rfl dX8_count_134 ?_
    refine g_iload_n X dX8_count_137 rfl 1 rfl ?_
    refine g_bipush X dX8_count_138 (by decide) ?_
    refine g_isub X dX8_count_140 ?_
    refine h_iald (a := what - 10) (j := (what - 10).toNat) X rfl FM (by decide) (show fkX 8 5 = (1, 101) from rfl) (by decide) (by omega) (by omega) dX8_count_141 ?_
    exact g_iret X rfl rfl dX8_count_142 (by
        refine ⟨?_, rfl⟩
        rcases (show what = 10 ∨ what = 11 ∨ what = 12 ∨ what = 13 by omega) with e | e | e | e <;> subst e
        · exact rT 0 (by decide)
        · exact rT 1 (by decide)
        · exact rT 2 (by decide)
        · exact rT 3 (by decide))
  by_cases hs_1_12 : what = 12
  · refine g_tableIn (off := 132) (tgt := 133) X dX8_count_1 hr_1 (by omega) (by omega) (by rw [hs_1_12]; rfl) (by decide) ?_
    refine g_aload_n X dX8_count_133 rfl 0 rfl ?_
    refine g_geta X ck_X8 FM 5 (by decide) fl_X8_19 rfl dX8_count_134 ?_
    refine g_iload_n X dX8_count_137 rfl 1 rfl ?_
    refine g_bipush X dX8_count_138 (by decide) ?_
    refine g_isub X dX8_count_140 ?_
    refine h_iald (a := what - 10) (j := (what - 10).toNat) X rfl FM (by decide) (show fkX 8 5 = (1, 101) from rfl) (by decide) (by omega) (by omega) dX8_count_141 ?_
    exact g_iret X rfl rfl dX8_count_142 (by
        refine ⟨?_, rfl⟩
        rcases (show what = 10 ∨ what = 11 ∨ what = 12 ∨ what = 13 by omega) with e | e | e | e <;> subst e
        · exact rT 0 (by decide)
        · exact rT 1 (by decide)
        · exact rT 2 (by decide)
        · exact rT 3 (by decide))
  by_cases hs_1_13 : what = 13
  · refine g_tableIn (off := 132) (tgt := 133) X dX8_count_1 hr_1 (by omega) (by omega) (by rw [hs_1_13]; rfl) (by decide) ?_
    refine g_aload_n X dX8_count_133 rfl 0 rfl ?_
    refine g_geta X ck_X8 FM 5 (by decide) fl_X8_19 rfl dX8_count_134 ?_
    refine g_iload_n X dX8_count_137 rfl 1 rfl ?_
    refine g_bipush X dX8_count_138 (by decide) ?_
    refine g_isub X dX8_count_140 ?_
    refine h_iald (a := what - 10) (j := (what - 10).toNat) X rfl FM (by decide) (show fkX 8 5 = (1, 101) from rfl) (by decide) (by omega) (by omega) dX8_count_141 ?_
    exact g_iret X rfl rfl dX8_count_142 (by
        refine ⟨?_, rfl⟩
        rcases (show what = 10 ∨ what = 11 ∨ what = 12 ∨ what = 13 by omega) with e | e | e | e <;> subst e
        · exact rT 0 (by decide)
        · exact rT 1 (by decide)
        · exact rT 2 (by decide)
        · exact rT 3 (by decide))
  by_cases hs_1_14 : what = 14
  · refine g_tableIn (off := 142) (tgt := 143) X dX8_count_1 hr_1 (by omega) (by omega) (by rw [hs_1_14]; rfl) (by decide) ?_
    refine g_aload_n X dX8_count_143 rfl 0 rfl ?_
    refine g_geti X ck_X8 FM 8 (by decide) fl_X8_47 (Or.inl rfl) dX8_count_144 ?_
    exact g_iret X rfl rfl dX8_count_147 (by
        refine ⟨?_, rfl⟩
        rw [hs_1_14]
        first | exact t36 | exact rB.2.2.2.2.2.2 | rfl)
  by_cases hs_1_15 : what = 15
  · refine g_tableIn (off := 147) (tgt := 148) X dX8_count_1 hr_1 (by omega) (by omega) (by rw [hs_1_15]; rfl) (by decide) ?_
    refine g_aload_n X dX8_count_148 rfl 0 rfl ?_
    refine g_geti X ck_X8 FM 1 (by decide) fl_X8_58 (Or.inl rfl) dX8_count_149 ?_
    exact g_iret X rfl rfl dX8_count_152 (by
        refine ⟨?_, rfl⟩
        rw [hs_1_15]
        first | exact t36 | exact rB.2.2.2.2.2.2 | rfl)
  exact absurd trivial (by omega)
set_option maxHeartbeats 4000000 in
set_option maxRecDepth 100000 in
theorem c_X8_share (l : Launch) (G : Ly) (set : Int) (load : Int) (m : Int) (pl : Nat → Nat → Int) (u : Nat → Nat → Int) (B : Int) (w : Wd) (FM : gOb G 20 = some 8) (hT : PlR pl (w 20 4)) (hp : PV pl) (hR : RS u (w 20 5)) (hS : SV B (pl 0 0) u) (hU : SU (pl 0 0) u) (hB : B ≤ 99000) (hC : TbC pl (w 20)) (hr_set : InR set) (hr_load : InR load) (hr_m : InR m) : Mi l yX8_share cX8_share 4 (some .int) 4 101 G [.ref (gAd G 20), .int (iI set), .int (iI load), .int (iI m)] w (fun z w2 => (∀ o f, ¬ (o = 20 ∧ 10 ≤ f ∧ f ≤ 13) → w2 o f = w o f) ∧ TbC pl (w2 20) ∧ (¬ ((0 ≤ set ∧ set ≤ bshl 1 (pl 0 0) - 1) ∧ (0 ≤ load ∧ load ≤ 480) ∧ (m = -1 ∨ (0 ≤ m ∧ m < pl 0 0))) → z = -1) ∧ (((0 ≤ set ∧ set ≤ bshl 1 (pl 0 0) - 1) ∧ (0 ≤ load ∧ load ≤ 480) ∧ (m = -1 ∨ (0 ≤ m ∧ m < pl 0 0))) → ¬ CanX pl set load → z = -4) ∧ (((0 ≤ set ∧ set ≤ bshl 1 (pl 0 0) - 1) ∧ (0 ≤ load ∧ load ≤ 480) ∧ (m = -1 ∨ (0 ≤ m ∧ m < pl 0 0))) → CanX pl set load → ∀ v, BestC pl (pkX pl (liftX u)) set (pl 0 0).toNat load v → z = if m = -1 then v / 4398046511104 else v / 2 ^ (7 * (5 - m.toNat)) % 128)) := by
  refine mi_of (lv := [(0, .ref (gAd G 20)), (1, .int (iI set)), (2, .int (iI load)), (3, .int (iI m))]) (by decide) (Nat.le_of_ble_eq_true rfl) rfl ?_
  intro p_ e_ s_ m_ b_ h_ c_ X
  have hp0 := hp.1
  have hp7 := hp.2.2
  have t36 := hT.1
  have sT := hS.1
  have sB := hS.2.1
  have sC := hS.2.2.1
  have sD := hS.2.2.2.1
  have sE := hS.2.2.2.2.1
  have sF := hS.2.2.2.2.2.1
  have sG := hS.2.2.2.2.2.2.1
  have sH := hS.2.2.2.2.2.2.2
  have rT := hR.1
  have rB := hR.2.1
  have rL := hR.2.2.1
  have rM := hR.2.2.2
  have uA := hU.1
  have hrun := bt_or (s := u 6 0) (t := u 7 0) (by omega) (by omega) (by omega) (by omega)
  have r00 : w 20 5 0 = u 0 0 := rT 0 (by decide)
  have r01 : w 20 5 1 = u 0 1 := rT 1 (by decide)
  have r02 : w 20 5 2 = u 0 2 := rT 2 (by decide)
  have r03 : w 20 5 3 = u 0 3 := rT 3 (by decide)
  have r04 : w 20 5 4 = u 1 0 := rB.1
  have hall := bt_all (pl 0 0) (by omega) (by omega)
  have hlf0 : 0 ≤ liftX u ∧ liftX u ≤ 45 := by unfold liftX; omega
  refine g_iload_n X dX8_share_0 rfl 1 rfl ?_
  refine g_iconst X dX8_share_1 ?_
  refine g_iconst X dX8_share_2 ?_
  refine g_aload_n X dX8_share_3 rfl 0 rfl ?_
  refine g_geta X ck_X8 FM 4 (by decide) fl_X8_16 rfl dX8_share_4 ?_
  refine g_bipush X dX8_share_7 (by decide) ?_
  refine h_iald (a := 36) (j := 36) X rfl FM (by decide) (show fkX 8 4 = (1, 44) from rfl) (by decide) (by omega) (by omega) dX8_share_9 ?_
  refine g_ishl X dX8_share_10 ?_
  refine g_iconst X dX8_share_11 ?_
  refine g_isub X dX8_share_12 ?_
  refine g_callsi (st := []) X (c_X8_in l G set 0 ((bshl 1 (w 20 4 36)) - 1) w (by exact hr_set) (by first | assumption | omega | (unfold InR; omega)) (by rw [t36]; unfold InR; omega)) cm_X8_in sm_X8_in ml_X8_61 ⟨Nat.le_of_ble_eq_true rfl, Nat.le_of_ble_eq_true rfl⟩ rfl rfl (Nat.le_of_ble_eq_true rfl) dX8_share_13 (fn_i ?_)
  refine g_if_eq (tgt := 43) X dX8_share_16 (by decide) (by exact in01) (fun c_16 => ?_) (fun c_16 => ?_)
  · skip
    refine g_iconst X dX8_share_43 ?_
    exact g_iret X rfl rfl dX8_share_44 (by
        refine ⟨fun _ _ _ => rfl, hC, fun _ => rfl, fun h => absurd h ?_, fun h => absurd h ?_⟩ <;> first
        | (rw [t36] at c_16; exact fun h => of_zero c_16 h.1)
        | exact fun h => of_zero c_27 h.2.1
        | exact fun h => h.2.2.elim c_32 (of_zero (Classical.not_not.mp c_40)))
  · skip
    refine g_iload_n X dX8_share_19 rfl 2 rfl ?_
    refine g_iconst X dX8_share_20 ?_
    refine g_sipush X dX8_share_21 (by decide) ?_
    refine g_callsi (st := []) X (c_X8_in l G load 0 480 w (by exact hr_load) (by first | assumption | omega | (unfold InR; omega)) (by first | assumption | omega | (unfold InR; omega))) cm_X8_in sm_X8_in ml_X8_61 ⟨Nat.le_of_ble_eq_true rfl, Nat.le_of_ble_eq_true rfl⟩ rfl rfl (Nat.le_of_ble_eq_true rfl) dX8_share_24 (fn_i ?_)
    refine g_if_eq (tgt := 43) X dX8_share_27 (by decide) (by exact in01) (fun c_27 => ?_) (fun c_27 => ?_)
    · skip
      refine g_iconst X dX8_share_43 ?_
      exact g_iret X rfl rfl dX8_share_44 (by
          refine ⟨fun _ _ _ => rfl, hC, fun _ => rfl, fun h => absurd h ?_, fun h => absurd h ?_⟩ <;> first
          | (rw [t36] at c_16; exact fun h => of_zero c_16 h.1)
          | exact fun h => of_zero c_27 h.2.1
          | exact fun h => h.2.2.elim c_32 (of_zero (Classical.not_not.mp c_40)))
    · skip
      have hsr := of_one c_16
      have hld := of_one c_27
      rw [t36] at hsr
      refine g_iload_n X dX8_share_30 rfl 3 rfl ?_
      refine g_cut1 (pc' := 45) (fun (d_ : Int) => [(0, .ref (gAd G 20)), (1, .int (iI set)), (2, .int (iI load)), (3, .int (iI m))]) (fun (d_ : Int) => []) (fun (d_ : Int) => w) (fun (d_ : Int) => (m = -1 ∨ (0 ≤ m ∧ m < pl 0 0))) ?_ ?_
      · intro d_ hI_45
        have hmk := hI_45
        try dsimp only at hmk ⊢
        refine g_aload_n X dX8_share_45 rfl 0 rfl ?_
        refine g_iload_n X dX8_share_46 rfl 1 rfl ?_
        refine g_iload_n X dX8_share_47 rfl 2 rfl ?_
        refine g_calli (st := []) X (c_X8_can l G set load pl w FM (by first | assumption | omega | (unfold InR; omega)) (by first | assumption | omega | (unfold InR; omega)) (by omega) (by exact hr_load)) cm_X8_can im_X8_can se_X8_can ml_X8_134 ck_X8 FM ⟨Nat.le_of_ble_eq_true rfl, Nat.le_of_ble_eq_true rfl⟩ rfl rfl (Nat.le_of_ble_eq_true rfl) dX8_share_48 (fn_i ?_)
        refine g_if_ne (tgt := 57) X dX8_share_51 (by decide) (by exact in01) (fun c_51 => ?_) (fun c_51 => ?_)
        · skip
          refine g_aload_n X dX8_share_57 rfl 0 rfl ?_
          refine g_callv (st := []) X (c_X8_layTable l G pl w FM (by first | assumption | omega | (unfold InR; omega)) (by first | assumption | omega | (unfold InR; omega)) (by omega) (by omega) (by first | assumption | omega | (unfold InR; omega))) cm_X8_layTable im_X8_layTable se_X8_layTable ml_X8_125 ck_X8 FM ⟨Nat.le_of_ble_eq_true rfl, Nat.le_of_ble_eq_true rfl⟩ rfl rfl (Nat.le_of_ble_eq_true rfl) dX8_share_58 ?_
          rintro u_58 ⟨lfr, lC, l11, l12⟩
          have s4 : u_58 20 4 = w 20 4 := lfr 20 4 (by decide)
          have l12b : u_58 20 12 0 = liftX u := by rw [l12, r02, r03]
          have hcan0 := of_one c_51
          have hcan : CanX pl set load := hcan0
          obtain ⟨v0, hv0⟩ := best_pk hp (lift := liftX u) (s := set) hlf0 hcan
          refine g_iload_n X dX8_share_61 rfl 3 rfl ?_
          refine g_iconst X dX8_share_62 ?_
          refine g_icmp_ne (tgt := 73) X dX8_share_63 (by decide) (by exact hr_m) ⟨by decide, by decide⟩ (fun c_63 => ?_) (fun c_63 => ?_)
          · skip
            refine g_aload_n X dX8_share_73 rfl 0 rfl ?_
            refine g_iload_n X dX8_share_74 rfl 1 rfl ?_
            refine g_iload_n X dX8_share_75 rfl 2 rfl ?_
            refine g_callv (st := []) X (c_X8_layShare l G set load pl v0 u_58 FM (by rw [s4]; exact hT) (by first | assumption | omega | (unfold InR; omega)) (by exact lC) (by exact l11) (by omega) (by exact hld) (by rw [l12b]; exact hv0)) cm_X8_layShare im_X8_layShare se_X8_layShare ml_X8_143 ck_X8 FM ⟨Nat.le_of_ble_eq_true rfl, Nat.le_of_ble_eq_true rfl⟩ rfl rfl (Nat.le_of_ble_eq_true rfl) dX8_share_76 ?_
            rintro u_76 ⟨sfr, satt⟩
            refine g_aload_n X dX8_share_79 rfl 0 rfl ?_
            refine g_geta X ck_X8 FM 13 (by decide) fl_X8_34 rfl dX8_share_80 ?_
            refine g_iload_n X dX8_share_83 rfl 3 rfl ?_
            refine h_iald (a := m) (j := (m).toNat) X rfl FM (by decide) (show fkX 8 13 = (1, 6) from rfl) (by decide) (by omega) (by omega) dX8_share_84 ?_
            exact g_iret X rfl rfl dX8_share_85 (by
                refine ⟨fun o f h => by rw [sfr o f (fun z => h ⟨z.1, by omega, by omega⟩)]; exact lfr o f (fun z => h ⟨z.1, by omega, by omega⟩), ?_, fun h => absurd ⟨hsr, hld, hmk⟩ h, fun _ h => absurd hcan h, fun _ _ v hv => ?_⟩
                · unfold TbC; rw [sfr 20 11 (by decide), sfr 20 12 (by decide), sfr 20 10 (by decide)]; exact lC
                · rw [if_neg c_63, best_uq hv hv0]
                  rw [l12b] at satt
                  exact ((att_dig hp hlf0 satt).2 m.toNat (by omega)).symm)
          · skip
            refine g_aload_n X dX8_share_66 rfl 0 rfl ?_
            refine g_iload_n X dX8_share_67 rfl 1 rfl ?_
            refine g_iload_n X dX8_share_68 rfl 2 rfl ?_
            refine g_calli (st := []) X (c_X8_leastPower l G set load pl u_58 FM (by rw [s4]; exact hT) (by first | assumption | omega | (unfold InR; omega)) (by exact lC) (by exact l11) (by omega) (by exact hld)) cm_X8_leastPower im_X8_leastPower se_X8_leastPower ml_X8_119 ck_X8 FM ⟨Nat.le_of_ble_eq_true rfl, Nat.le_of_ble_eq_true rfl⟩ rfl rfl (Nat.le_of_ble_eq_true rfl) dX8_share_69 (fn_p ?_)
            rintro z_69 h_69
            exact g_iret X rfl rfl dX8_share_72 (by
                refine ⟨fun o f h => lfr o f (fun z => h ⟨z.1, by omega, by omega⟩), lC, fun h => absurd ⟨hsr, hld, hmk⟩ h, fun _ h => absurd hcan h, fun _ _ v hv => ?_⟩
                rw [if_pos (by omega)]
                rw [l12b] at h_69
                rcases h_69 with q | q
                · exact best_uq q.2 (pk_pw hp hlf0 hv)
                · exact absurd hcan q.1)
        · skip
          refine g_bipush X dX8_share_54 (by decide) ?_
          exact g_iret X rfl rfl dX8_share_56 (by exact ⟨fun _ _ _ => rfl, hC, fun h => absurd ⟨hsr, hld, hmk⟩ h, fun _ _ => rfl, fun _ h => (of_zero (Classical.not_not.mp c_51) ⟨h.1, h.2⟩).elim⟩)
      · intro J_45
        try dsimp only at J_45
        refine g_iconst X dX8_share_31 ?_
        refine g_icmp_eq (tgt := 45) X dX8_share_32 (by decide) (by exact hr_m) ⟨by decide, by decide⟩ (fun c_32 => ?_) (fun c_32 => ?_)
        · skip
          refine g_lv (lv' := [(0, .ref (gAd G 20)), (1, .int (iI set)), (2, .int (iI load)), (3, .int (iI m))]) [0, 1, 2, 3] rfl ?_
          exact J_45 0 (by first | exact Or.inl (by omega) | exact Or.inr (of_one c_40))
        · skip
          refine g_aload_n X dX8_share_35 rfl 0 rfl ?_
          refine g_iload_n X dX8_share_36 rfl 3 rfl ?_
          refine g_calli (st := []) X (c_X8_isMachine l G m pl w FM (by first | assumption | omega | (unfold InR; omega)) (by first | assumption | omega | (unfold InR; omega)) (by exact hr_m)) cm_X8_isMachine im_X8_isMachine se_X8_isMachine ml_X8_178 ck_X8 FM ⟨Nat.le_of_ble_eq_true rfl, Nat.le_of_ble_eq_true rfl⟩ rfl rfl (Nat.le_of_ble_eq_true rfl) dX8_share_37 (fn_i ?_)
          refine g_if_ne (tgt := 45) X dX8_share_40 (by decide) (by exact in01) (fun c_40 => ?_) (fun c_40 => ?_)
          · skip
            refine g_lv (lv' := [(0, .ref (gAd G 20)), (1, .int (iI set)), (2, .int (iI load)), (3, .int (iI m))]) [0, 1, 2, 3] rfl ?_
            exact J_45 0 (by first | exact Or.inl (by omega) | exact Or.inr (of_one c_40))
          · skip
            refine g_iconst X dX8_share_43 ?_
            exact g_iret X rfl rfl dX8_share_44 (by
                refine ⟨fun _ _ _ => rfl, hC, fun _ => rfl, fun h => absurd h ?_, fun h => absurd h ?_⟩ <;> first
                | (rw [t36] at c_16; exact fun h => of_zero c_16 h.1)
                | exact fun h => of_zero c_27 h.2.1
                | exact fun h => h.2.2.elim c_32 (of_zero (Classical.not_not.mp c_40)))
