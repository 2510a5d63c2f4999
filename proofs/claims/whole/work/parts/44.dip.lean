theorem fl_1 (pl u : Nat → Nat → Int) (k : Nat) (h : (flX pl u k).2 ≠ 0) : (flX pl u (k + 1)).1 = ptX (spX (flX pl u k).1 (grX pl (flX pl u k).2 (pl 0 0).toNat).1) (grX pl (flX pl u k).2 (pl 0 0).toNat).1 := by
  show (if (flX pl u k).2 = 0 then _ else _ : (Nat → Nat → Int) × Int).1 = _
  rw [if_neg h]
theorem fl_2 (pl u : Nat → Nat → Int) (k : Nat) (h : (flX pl u k).2 ≠ 0) : (flX pl u (k + 1)).2 = clrB (flX pl u k).2 (grX pl (flX pl u k).2 (pl 0 0).toNat).1 := by
  show (if (flX pl u k).2 = 0 then _ else _ : (Nat → Nat → Int) × Int).2 = _
  rw [if_neg h]
theorem gr_ok2 {pl : Nat → Nat → Int} (hp : PV pl) {s : Int} : ∀ k : Nat, (k : Int) ≤ pl 0 0 → ((grX pl s k).2 = 0 ∧ ∀ m, m < k → ¬ tb s m = 1) ∨ (∃ q : Nat, (grX pl s k).1 = q ∧ (grX pl s k).2 = pl 2 q ∧ q < k ∧ tb s q = 1 ∧ ∀ m, m < k → tb s m = 1 → - pl 2 q < - pl 2 m ∨ (- pl 2 q = - pl 2 m ∧ q ≤ m))
  | 0, _ => Or.inl ⟨rfl, fun m h => absurd h (Nat.not_lt_zero _)⟩
  | k + 1, hk => by
    have hb := hp.2.1 k (by omega)
    have ih := gr_ok2 hp (s := s) k (by omega)
    unfold grX
    by_cases c : tb s k = 1 ∧ (grX pl s k).2 < pl 2 k
    · rw [if_pos c]
      refine Or.inr ⟨k, rfl, rfl, by omega, c.1, fun m hm hb => ?_⟩
      rcases Nat.lt_or_ge m k with e | e
      · rcases ih with q | ⟨q, q1, q2, q3, q4, q5⟩
        · exact absurd hb (q.2 m e)
        · have := q5 m e hb
          left
          omega
      · rw [show m = k by omega]; exact Or.inr ⟨rfl, Nat.le_refl _⟩
    · rw [if_neg c]
      rcases ih with q | ⟨q, q1, q2, q3, q4, q5⟩
      · refine Or.inl ⟨q.1, fun m hm hb2 => ?_⟩
        rcases Nat.lt_or_ge m k with e | e
        · exact q.2 m e hb2
        · rw [show m = k by omega] at hb2
          exact c ⟨hb2, by omega⟩
      · refine Or.inr ⟨q, q1, q2, by omega, q4, fun m hm hb2 => ?_⟩
        rcases Nat.lt_or_ge m k with e | e
        · exact q5 m e hb2
        · have em : m = k := by omega
          rw [em] at hb2 ⊢
          have : ¬ (grX pl s k).2 < pl 2 k := fun z => c ⟨hb2, z⟩
          omega
theorem gr_am {pl : Nat → Nat → Int} (hp : PV pl) {s : Int} (h0 : 0 ≤ s) (h1 : s < 64) (h : s ≠ 0) (hn : ∀ k : Nat, pl 0 0 ≤ (k : Int) → k < 6 → tb s k = 0) : AM (fun m => tb s m = 1) (fun m => - pl 2 m) 0 (pl 0 0).toNat (grX pl s (pl 0 0).toNat).1 := by
  have hp0 := hp.1
  rcases gr_ok2 hp (s := s) (pl 0 0).toNat (by omega) with q | ⟨q, q1, q2, q3, q4, q5⟩
  · obtain ⟨k, k1, k2⟩ := bt_some h0 h1 h
    rcases Nat.lt_or_ge k (pl 0 0).toNat with e | e
    · exact absurd k2 (q.2 k e)
    · have := hn k (by omega) k1
      omega
  · exact Or.inr ⟨q, q1, by omega, q3, q4, fun m _ b c => q5 m b c⟩
/-- one more falls and comes on the list -/
theorem fl_step {pl : Nat → Nat → Int} (hp : PV pl) {B : Int} {v : Nat → Nat → Int} {D : Nat → Int} (hS : SV B (pl 0 0) v) (hU : SU (pl 0 0) v) (hR : RS v D) (hne : runX v ≠ 0) (hz : ∀ j : Nat, pl 0 0 ≤ (j : Int) → j < 6 → tb (runX v) j = 0) :
    RS (ptX (spX v (grX pl (runX v) (pl 0 0).toNat).1) (grX pl (runX v) (pl 0 0).toNat).1) (fup (fup (dsp D (grX pl (runX v) (pl 0 0).toNat).1.toNat (v 1 0)) (11 + dsp D (grX pl (runX v) (pl 0 0).toNat).1.toNat (v 1 0) 10).toNat (grX pl (runX v) (pl 0 0).toNat).1) 10 (dsp D (grX pl (runX v) (pl 0 0).toNat).1.toNat (v 1 0) 10 + 1)) ∧
    SU (pl 0 0) (ptX (spX v (grX pl (runX v) (pl 0 0).toNat).1) (grX pl (runX v) (pl 0 0).toNat).1) ∧ cnt (clrB (runX v) (grX pl (runX v) (pl 0 0).toNat).1) = cnt (runX v) - 1 ∧ runX (ptX (spX v (grX pl (runX v) (pl 0 0).toNat).1) (grX pl (runX v) (pl 0 0).toNat).1) = clrB (runX v) (grX pl (runX v) (pl 0 0).toNat).1 ∧ v 9 0 < 6 := by
  have hp0 := hp.1
  have hC := hS.2.2.1
  have hD := hS.2.2.2.1
  have hE := hS.2.2.2.2.1
  have hr := bt_or hC.2.1.1 hC.2.1.2 hC.2.2.1 hC.2.2.2
  have ham := gr_am hp (s := runX v) hr.1 hr.2.1 hne hz
  rcases ham with q | ⟨m, q1, q2, q3, q4, q5⟩
  · exfalso
    obtain ⟨k, k1, k2⟩ := bt_some (s := runX v) hr.1 hr.2.1 hne
    rcases Nat.lt_or_ge k (pl 0 0).toNat with e | e
    · exact q.2 k (by omega) e k2
    · have := hz k (by omega) k1
      omega
  rw [q1]
  rw [show ((m : Nat) : Int).toNat = m from rfl]
  have hm6 : m < 6 := by omega
  have r4 : tb (runX v) m = 1 := q4
  have hsp := rs_sp hR hm6 hC.2.1 hC.2.2 r4
  have hus := su_sp hU hm6 hC.2.1 hC.2.2 r4 (fun j hj => by have := hE j hj; omega)
  have hrs := run_sp hm6 hC.2.1 hC.2.2 r4
  have hcc : cnt (clrB (runX v) m) = cnt (runX v) - 1 := cnt_clr (s := bor (v 6 0) (v 7 0)) (m := (m : Int)) hr.1 hr.2.1 (by omega) (by omega) r4
  obtain ⟨s1, s2, s3, s4, s5⟩ := sp_at r4
  have e9 : spX v m 9 0 = v 9 0 := by rw [s1 9 (by decide) (by decide) (by decide)]
  have hu6 := hU.2.2.2.2.2
  have hcr := bt_clr (s := bor (v 6 0) (v 7 0)) (m := (m : Int)) hr.1 hr.2.1 (by omega) (by omega)
  have hcn : 0 ≤ cnt (clrB (runX v) m) := (cnt_rng hcr.1 hcr.2.1).1
  have c6 := (bt_clr (s := v 6 0) (m := (m : Int)) hC.2.1.1 hC.2.1.2 (by omega) (by omega)).2.2 m hm6
  have c7 := (bt_clr (s := v 7 0) (m := (m : Int)) hC.2.2.1 hC.2.2.2 (by omega) (by omega)).2.2 m hm6
  rw [show ((m : Nat) : Int).toNat = m from rfl, if_pos rfl] at c6 c7
  have rm : tb (runX v) m = max (tb (v 6 0) m) (tb (v 7 0) m) := hr.2.2 m hm6
  refine ⟨rs_pt hsp (by rw [e9]; omega) m, su_pt hus (by rw [e9]; omega) (by rw [s2]; exact c6) (by rw [s3]; exact c7) (fun j hj => ?_) (by rw [hrs, e9]; omega), hcc, ?_, by omega⟩
  · rw [e9] at hj
    rw [s1 10 (by decide) (by decide) (by decide)]
    intro z
    have g := hU.2.2.1 j hj
    rw [z, show ((m : Nat) : Int).toNat = m from rfl] at g
    omega
  · rw [← hrs]
    unfold runX
    rw [(pt_at (spX v m) m).1 6 (by decide) (by decide), (pt_at (spX v m) m).1 7 (by decide) (by decide)]
set_option maxHeartbeats 4000000 in
set_option maxRecDepth 100000 in
theorem c_X8_dip (l : Launch) (G : Ly) (pl : Nat → Nat → Int) (u : Nat → Nat → Int) (B : Int) (w : Wd) (FM : gOb G 20 = some 8) (hT : PlR pl (w 20 4)) (hp : PV pl) (hR : RS u (w 20 5)) (hS : SV B (pl 0 0) u) (hU : SU (pl 0 0) u) (hB : B ≤ 99000) (hC : TbC pl (w 20)) (hch : 0 ≤ w 20 8 0 ∧ w 20 8 0 ≤ 4) : Mi l yX8_dip cX8_dip 4 (some .int) 2 45 G [.ref (gAd G 20)] w (fun z w2 => z = cnt (runX u) ∧ RS (dipX pl u) (w2 20 5) ∧ NoteR w w2 ∧ MF w w2 ∧ TbC pl (w2 20)) := by
  refine mi_of (lv := [(0, .ref (gAd G 20))]) (by decide) (Nat.le_of_ble_eq_true rfl) rfl ?_
  intro p_ e_ s_ m_ b_ h_ c_ X
  have hp0 := hp.1
  have hp7 := hp.2.2
  have t36 := hT.1
  have sT := hS.1
  have sB := hS.2.1
  have sC := hS.2.2.1
  have sD := hS.2.2.2.1
  have sE := hS.2.2.2.2.1
  have sF := hS.2.2.2.2.2.1
  have sG := hS.2.2.2.2.2.2.1
  have sH := hS.2.2.2.2.2.2.2
  have rT := hR.1
  have rB := hR.2.1
  have rL := hR.2.2.1
  have rM := hR.2.2.2
  have uA := hU.1
  have hrun := bt_or (s := u 6 0) (t := u 7 0) (by omega) (by omega) (by omega) (by omega)
  have r00 : w 20 5 0 = u 0 0 := rT 0 (by decide)
  have r01 : w 20 5 1 = u 0 1 := rT 1 (by decide)
  have r02 : w 20 5 2 = u 0 2 := rT 2 (by decide)
  have r03 : w 20 5 3 = u 0 3 := rT 3 (by decide)
  have r04 : w 20 5 4 = u 1 0 := rB.1
  have hall := bt_all (pl 0 0) (by omega) (by omega)
  have hlf0 : 0 ≤ liftX u ∧ liftX u ≤ 45 := by unfold liftX; omega
  have hfl := fl_inv hp hS hU.2.2.2.2.2
  have hcr : 0 ≤ cnt (runX u) ∧ cnt (runX u) ≤ 6 := cnt_rng hrun.1 hrun.2.1
  refine g_aload_n X dX8_dip_0 rfl 0 rfl ?_
  refine g_callv (st := []) X (c_X8_note l G  w FM (by exact hch)) cm_X8_note im_X8_note se_X8_note ml_X8_175 ck_X8 FM ⟨Nat.le_of_ble_eq_true rfl, Nat.le_of_ble_eq_true rfl⟩ rfl rfl (Nat.le_of_ble_eq_true rfl) dX8_dip_1 ?_
  rintro u_1 ⟨nfr, n8, npast⟩
  have n5 : u_1 20 5 = w 20 5 := nfr 20 5 (by decide)
  have n4 : u_1 20 4 = w 20 4 := nfr 20 4 (by decide)
  have nN : NoteR w u_1 := ⟨n8, npast⟩
  have nC : TbC pl (u_1 20) := by unfold TbC; rw [nfr 20 10 (by decide), nfr 20 11 (by decide), nfr 20 12 (by decide)]; exact hC
  refine g_iconst X dX8_dip_4 ?_
  refine g_istore_n (lv' := [(1, .int (iI 0)), (0, .ref (gAd G 20))]) X dX8_dip_5 rfl (by decide) rfl ?_
  refine g_lv (lv' := [(0, .ref (gAd G 20)), (1, .int (iI 0))]) [1, 0] rfl ?_
  refine g_loop2 (fun (n : Int) (w1 : Wd) => [(0, .ref (gAd G 20)), (1, .int (iI n))]) (fun (n : Int) (w1 : Wd) => w1) (fun (n : Int) (w1 : Wd) => (0 ≤ n) ∧ (n + cnt (flX pl u n.toNat).2 = cnt (runX u)) ∧ (RS (flX pl u n.toNat).1 (w1 20 5)) ∧ (SU (pl 0 0) (flX pl u n.toNat).1) ∧ ((flX pl u n.toNat).2 = runX (flX pl u n.toNat).1) ∧ (∀ o f, ¬ (o = 20 ∧ f = 5) → w1 o f = u_1 o f)) (fun (n : Int) (w1 : Wd) => (7 - n).toNat) 0 u_1 ⟨(by first | omega | rfl | assumption), (by exact Int.zero_add _), (by rw [n5]; exact hR), (by exact hU), (by rfl), (by intro _ _ _; rfl)⟩ ?_
  intro n w1 hI_6 ih_6
  obtain ⟨h0, h1, hR1, hU1, hrn, hf⟩ := hI_6
  try dsimp only at ih_6 ⊢
  have m4 : w1 20 4 = w 20 4 := by rw [hf 20 4 (by decide)]; exact n4
  have m36 : w1 20 4 36 = pl 0 0 := by rw [m4]; exact t36
  have hk := hfl n.toNat
  have hSn : SV B (pl 0 0) (flX pl u n.toNat).1 := hk.1
  have hcn := cnt_rng hk.2.1.1 hk.2.1.2
  have hn6 : n ≤ 6 := by omega
  refine g_aload_n X dX8_dip_6 rfl 0 rfl ?_
  refine g_iconst X dX8_dip_7 ?_
  refine g_calli (st := []) X (c_X8_standing l G 1 pl ((flX pl u n.toNat).1) B (runX (flX pl u n.toNat).1) w1 FM (by rw [m4]; exact hT) (by first | assumption | omega | (unfold InR; omega)) (by first | assumption | omega | (unfold InR; omega)) (by first | assumption | omega | (unfold InR; omega)) (by first | assumption | omega | (unfold InR; omega)) (by first | assumption | omega | (unfold InR; omega)) (Or.inl ⟨rfl, rfl⟩)) cm_X8_standing im_X8_standing se_X8_standing ml_X8_140 ck_X8 FM ⟨Nat.le_of_ble_eq_true rfl, Nat.le_of_ble_eq_true rfl⟩ rfl rfl (Nat.le_of_ble_eq_true rfl) dX8_dip_8 (fn_i ?_)
  refine g_if_eq (tgt := 115) X dX8_dip_11 (by decide) (by have := hk.2.1; rw [← hrn]; unfold InR; omega) (fun c_11 => ?_) (fun c_11 => ?_)
  · skip
    have hz : (flX pl u n.toNat).2 = 0 := by rw [hrn]; omega
    have hc0 : cnt (flX pl u n.toNat).2 = 0 := by rw [hz]; rfl
    have hfin : flX pl u 6 = flX pl u n.toNat := by
      have e := flX_stop pl u n.toNat hz (6 - n.toNat)
      rw [show n.toNat + (6 - n.toNat) = 6 by omega] at e
      exact e
    refine g_aload_n X dX8_dip_115 rfl 0 rfl ?_
    refine g_geta X ck_X8 FM 5 (by decide) fl_X8_19 rfl dX8_dip_116 ?_
    refine g_iconst X dX8_dip_119 ?_
    refine g_iconst X dX8_dip_120 ?_
    refine h_iast (a := 5) (j := 5) X rfl FM (by decide) (show fkX 8 5 = (1, 101) from rfl) (by decide) (by omega) (by omega) dX8_dip_121 ?_
    obtain ⟨w_1, ew_1⟩ : ∃ q_ : Wd, q_ = up w1 20 5 5 0 := ⟨_, rfl⟩
    refine g_w (w' := w_1) ew_1 ?_
    refine g_aload_n X dX8_dip_122 rfl 0 rfl ?_
    refine g_geta X ck_X8 FM 5 (by decide) fl_X8_19 rfl dX8_dip_123 ?_
    refine g_bipush X dX8_dip_126 (by decide) ?_
    refine g_iconst X dX8_dip_128 ?_
    refine h_iast (a := 6) (j := 6) X rfl FM (by decide) (show fkX 8 5 = (1, 101) from rfl) (by decide) (by omega) (by omega) dX8_dip_129 ?_
    obtain ⟨w_2, ew_2⟩ : ∃ q_ : Wd, q_ = up w_1 20 5 6 0 := ⟨_, rfl⟩
    refine g_w (w' := w_2) ew_2 ?_
    refine g_iload_n X dX8_dip_130 rfl 1 rfl ?_
    exact g_iret X rfl rfl dX8_dip_131 (by
        refine ⟨by omega, ?_, ⟨?_, ?_⟩, ⟨?_, ?_, ?_, ?_⟩, ?_⟩
        · unfold dipX; rw [hfin, ew_2, ew_1, up_row, up_row]; exact rs_f3 (rs_f2 hR1 _) _
        · rw [ew_2, ew_1, up_fn (by decide), up_fn (by decide), hf 20 8 (by decide)]; exact n8
        · rw [ew_2, ew_1, up_fn (by decide), up_fn (by decide), hf 20 7 (by decide)]; exact npast
        · rw [ew_2, ew_1, up_fn (by decide), up_fn (by decide), hf 20 0 (by decide)]; exact nfr 20 0 (by decide)
        · rw [ew_2, ew_1, up_fn (by decide), up_fn (by decide), hf 20 1 (by decide)]; exact nfr 20 1 (by decide)
        · rw [ew_2, ew_1, up_fn (by decide), up_fn (by decide), hf 20 4 (by decide)]; exact nfr 20 4 (by decide)
        · rw [ew_2, ew_1, up_fn (by decide), up_fn (by decide), hf 20 9 (by decide)]; exact nfr 20 9 (by decide)
        · unfold TbC; rw [ew_2, ew_1]; simp only [tu10, tu11, tu12]; rw [hf 20 10 (by decide), hf 20 11 (by decide), hf 20 12 (by decide)]; exact nC)
  · skip
    obtain ⟨vv, hvv⟩ : ∃ q, q = (flX pl u n.toNat).1 := ⟨_, rfl⟩
    have hne : runX vv ≠ 0 := by rw [hvv]; omega
    have hrr : 0 ≤ runX vv ∧ runX vv < 64 := by rw [hvv, ← hrn]; exact hk.2.1
    have hrz : ∀ j : Nat, pl 0 0 ≤ (j : Int) → j < 6 → tb (runX vv) j = 0 := by rw [hvv, ← hrn]; exact hk.2.2.1
    have hgr := gr_am hp hrr.1 hrr.2 hne hrz
    have hRv : RS vv (w1 20 5) := by rw [hvv]; exact hR1
    have hUv : SU (pl 0 0) vv := by rw [hvv]; exact hU1
    have hSv : SV B (pl 0 0) vv := by rw [hvv]; exact hSn
    have vC := hSv.2.2.1
    have hrb := bt_or (s := vv 6 0) (t := vv 7 0) vC.2.1.1 vC.2.1.2 vC.2.2.1 vC.2.2.2
    have d10 : w1 20 5 10 = vv 9 0 := hRv.2.1.2.2.2.2.2.2
    have d4 : w1 20 5 4 = vv 1 0 := hRv.2.1.1
    have vD := hSv.2.2.2.1
    refine g_bipush X dX8_dip_14 (by decide) ?_
    refine g_istore_n (lv' := [(2, .int (iI (-4))), (0, .ref (gAd G 20)), (1, .int (iI n))]) X dX8_dip_16 rfl (by decide) rfl ?_
    refine g_aload_n X dX8_dip_17 rfl 1 rfl ?_
    refine g_geta X ck_X8 FM 4 (by decide) fl_X8_16 rfl dX8_dip_18 ?_
    refine g_bipush X dX8_dip_21 (by decide) ?_
    refine h_iald (a := 36) (j := 36) X rfl FM (by decide) (show fkX 8 4 = (1, 44) from rfl) (by decide) (by omega) (by omega) dX8_dip_23 ?_
    refine g_iconst X dX8_dip_24 ?_
    refine g_isub X dX8_dip_25 ?_
    refine g_istore_n (lv' := [(3, .int (iI ((w1 20 4 36) - 1))), (2, .int (iI (-4))), (0, .ref (gAd G 20)), (1, .int (iI n))]) X dX8_dip_26 rfl (by decide) rfl ?_
    refine g_lv (lv' := [(0, .ref (gAd G 20)), (1, .int (iI n)), (2, .int (iI (-4))), (3, .int (iI ((w1 20 4 36) - 1)))]) [2, 3, 1, 0] rfl ?_
    refine g_loop2 (fun (found : Int) (k : Int) => [(0, .ref (gAd G 20)), (1, .int (iI n)), (2, .int (iI found)), (3, .int (iI k))]) (fun (found : Int) (k : Int) => w1) (fun (found : Int) (k : Int) => (-1 ≤ k) ∧ (k < pl 0 0) ∧ (AM (fun m => tb (runX vv) m = 1) (fun m => - pl 2 m) (k + 1).toNat (pl 0 0).toNat found)) (fun (found : Int) (k : Int) => (k + 1).toNat) (-4) ((w1 20 4 36) - 1) ⟨(by first | omega | rfl | assumption), (by first | omega | rfl | assumption), (by rw [m36, show (pl 0 0 - 1 + 1).toNat = (pl 0 0).toNat by omega]; exact am_0 _ _ _)⟩ ?_
    intro found k hI_27 ih_27
    obtain ⟨j0, j1, ha⟩ := hI_27
    try dsimp only at ih_27 ⊢
    refine g_iload_n X dX8_dip_27 rfl 3 rfl ?_
    refine g_if_lt (tgt := 71) X dX8_dip_28 (by decide) (by unfold InR; omega) (fun c_28 => ?_) (fun c_28 => ?_)
    · skip
      have hfe : found = (grX pl (runX vv) (pl 0 0).toNat).1 := by
        rw [show (k + 1).toNat = 0 by omega] at ha
        exact am_uq ha hgr
      have hst := fl_step hp hSv hUv hRv hne hrz
      rw [← hfe] at hst
      have hg0 := grt_ok hp hrr.1 hrr.2 hne hrz
      rw [← hfe] at hg0
      have hfi := am_in ha
      have hfr9 := hst.2.2.2
      refine g_aload_n X dX8_dip_71 rfl 0 rfl ?_
      refine g_iload_n X dX8_dip_72 rfl 2 rfl ?_
      refine g_aload_n X dX8_dip_73 rfl 0 rfl ?_
      refine g_geta X ck_X8 FM 5 (by decide) fl_X8_19 rfl dX8_dip_74 ?_
      refine g_iconst X dX8_dip_77 ?_
      refine h_iald (a := 4) (j := 4) X rfl FM (by decide) (show fkX 8 5 = (1, 101) from rfl) (by decide) (by omega) (by omega) dX8_dip_78 ?_
      rw [show (w1 20 5 4 : Int) = vv 1 0 from d4]
      refine g_callv (st := []) X (c_X8_stop l G found (vv 1 0) w1 FM (by omega)) cm_X8_stop im_X8_stop se_X8_stop ml_X8_172 ck_X8 FM ⟨Nat.le_of_ble_eq_true rfl, Nat.le_of_ble_eq_true rfl⟩ rfl rfl (Nat.le_of_ble_eq_true rfl) dX8_dip_79 (fn_v ?_)
      obtain ⟨w_3, ew_3⟩ : ∃ q_ : Wd, q_ = upA w1 20 5 (dsp (w1 20 5) found.toNat (vv 1 0)) := ⟨_, rfl⟩
      refine g_w (w' := w_3) ew_3 ?_
      refine g_aload_n X dX8_dip_82 rfl 0 rfl ?_
      refine g_geta X ck_X8 FM 5 (by decide) fl_X8_19 rfl dX8_dip_83 ?_
      refine g_bipush X dX8_dip_86 (by decide) ?_
      refine g_aload_n X dX8_dip_88 rfl 0 rfl ?_
      refine g_geta X ck_X8 FM 5 (by decide) fl_X8_19 rfl dX8_dip_89 ?_
      refine g_bipush X dX8_dip_92 (by decide) ?_
      refine h_iald (a := 10) (j := 10) X rfl FM (by decide) (show fkX 8 5 = (1, 101) from rfl) (by decide) (by omega) (by omega) dX8_dip_94 ?_
      rw [show (w_3 20 5 10 : Int) = vv 9 0 from (by rw [ew_3, upA_atj]; unfold dsp; rw [fup_ne (by omega), fup_ne (by omega)]; exact d10)]
      refine g_iadd X dX8_dip_95 ?_
      refine g_iload_n X dX8_dip_96 rfl 2 rfl ?_
      refine h_iast (a := 11 + (vv 9 0)) (j := (11 + (vv 9 0)).toNat) X rfl FM (by decide) (show fkX 8 5 = (1, 101) from rfl) (by decide) (by omega) (by omega) dX8_dip_97 ?_
      obtain ⟨w_4, ew_4⟩ : ∃ q_ : Wd, q_ = up w_3 20 5 (11 + (vv 9 0)).toNat found := ⟨_, rfl⟩
      refine g_w (w' := w_4) ew_4 ?_
      refine g_aload_n X dX8_dip_98 rfl 0 rfl ?_
      refine g_geta X ck_X8 FM 5 (by decide) fl_X8_19 rfl dX8_dip_99 ?_
      refine g_bipush X dX8_dip_102 (by decide) ?_
      refine g_dup2 X dX8_dip_104 rfl rfl ?_
      refine h_iald (a := 10) (j := 10) X rfl FM (by decide) (show fkX 8 5 = (1, 101) from rfl) (by decide) (by omega) (by omega) dX8_dip_105 ?_
      refine g_iconst X dX8_dip_106 ?_
      refine g_iadd X dX8_dip_107 ?_
      refine h_iast (a := 10) (j := 10) X rfl FM (by decide) (show fkX 8 5 = (1, 101) from rfl) (by decide) (by omega) (by omega) dX8_dip_108 ?_
      obtain ⟨w_5, ew_5⟩ : ∃ q_ : Wd, q_ = up w_4 20 5 10 ((w_4 20 5 10) + 1) := ⟨_, rfl⟩
      refine g_w (w' := w_5) ew_5 ?_
      refine g_iinc (j := 1) (lv' := [(1, .int (iI (n + 1))), (0, .ref (gAd G 20)), (2, .int (iI found)), (3, .int (iI k))]) X dX8_dip_109 rfl (by decide) rfl ?_
      refine g_goto (tgt := 6) X dX8_dip_112 (by decide) ?_
      refine g_lv (lv' := [(0, .ref (gAd G 20)), (1, .int (iI (n + 1)))]) [1, 0] rfl ?_
      exact ih_6 (n + 1) w_5 ⟨(by first | omega | rfl | assumption), (by rw [show (n + 1).toNat = n.toNat + 1 by omega, fl_2 pl u _ (by rw [hrn, ← hvv]; exact hne), hrn, ← hvv, ← hfe]; rw [hrn, ← hvv] at h1; have := hst.2.2.1; omega), (by
          rw [show (n + 1).toNat = n.toNat + 1 by omega, fl_1 pl u _ (by rw [hrn, ← hvv]; exact hne), hrn, ← hvv, ← hfe]
          have e10 : dsp (w1 20 5) found.toNat (vv 1 0) 10 = vv 9 0 := by unfold dsp; rw [fup_ne (by omega), fup_ne (by omega)]; exact d10
          rw [ew_5, ew_4, ew_3, up_row, up_row, fup_ne (show 10 ≠ (11 + vv 9 0).toNat by omega), upA_at, e10]
          have g := hst.1
          rw [e10] at g
          exact g), (by rw [show (n + 1).toNat = n.toNat + 1 by omega, fl_1 pl u _ (by rw [hrn, ← hvv]; exact hne), hrn, ← hvv, ← hfe]; exact hst.2.1), (by rw [show (n + 1).toNat = n.toNat + 1 by omega, fl_1 pl u _ (by rw [hrn, ← hvv]; exact hne), fl_2 pl u _ (by rw [hrn, ← hvv]; exact hne), hrn, ← hvv, ← hfe]; exact hfr9.1.symm), (by intro o f h; rw [ew_5, ew_4, ew_3, up_fn h, up_fn h, upA_ne h]; exact hf o f h)⟩ (by omega)
    · skip
      have t6 := tb01 (vv 6 0) k.toNat
      have t7 := tb01 (vv 7 0) k.toNat
      have ho := (hRv.2.2.2 k.toNat (by omega)).1
      have hrk : tb (runX vv) k.toNat = max (tb (vv 6 0) k.toNat) (tb (vv 7 0) k.toNat) := hrb.2.2 k.toNat (by omega)
      have hin := am_in ha
      have hkb := hp.2.1 k.toNat (by omega)
      refine g_aload_n X dX8_dip_31 rfl 0 rfl ?_
      refine g_cut1 (pc' := 64) (fun (f2 : Int) => [(0, .ref (gAd G 20)), (1, .int (iI n)), (2, .int (iI found)), (3, .int (iI k))]) (fun (f2 : Int) => [.int (iI f2)]) (fun (f2 : Int) => w1) (fun (f2 : Int) => (f2 = if tb (runX vv) k.toNat = 1 ∧ (found = -4 ∨ - pl 2 k.toNat ≤ - pl 2 found.toNat) then k else found)) ?_ ?_
      · intro f2 hI_64
        have hf2 := hI_64
        try dsimp only at hf2 ⊢
        refine g_istore_n (lv' := [(2, .int (iI f2)), (0, .ref (gAd G 20)), (1, .int (iI n)), (3, .int (iI k))]) X dX8_dip_64 rfl (by decide) rfl ?_
        refine g_iinc (j := 3) (lv' := [(3, .int (iI (k + (-1)))), (2, .int (iI f2)), (0, .ref (gAd G 20)), (1, .int (iI n))]) X dX8_dip_65 rfl (by decide) rfl ?_
        refine g_goto (tgt := 27) X dX8_dip_68 (by decide) ?_
        refine g_lv (lv' := [(0, .ref (gAd G 20)), (1, .int (iI n)), (2, .int (iI f2)), (3, .int (iI (k + (-1))))]) [2, 3, 1, 0] rfl ?_
        exact ih_27 f2 (k + (-1)) ⟨(by first | omega | rfl | assumption), (by first | omega | rfl | assumption), (by
            rw [show (k + -1 + 1).toNat = k.toNat by omega, hf2]
            rw [show (k + 1).toNat = k.toNat + 1 by omega] at ha
            have := am_dn (by omega) ha
            rw [show ((k.toNat : Nat) : Int) = k by omega] at this
            exact this)⟩ (by omega)
      · intro J_64
        try dsimp only at J_64
        refine g_iload_n X dX8_dip_32 rfl 3 rfl ?_
        refine g_iconst X dX8_dip_33 ?_
        refine g_calli (st := []) X (c_X8_own l G k 0 w1 FM (by first | assumption | omega | (unfold InR; omega)) (by first | assumption | omega | (unfold InR; omega))) cm_X8_own im_X8_own se_X8_own ml_X8_122 ck_X8 FM ⟨Nat.le_of_ble_eq_true rfl, Nat.le_of_ble_eq_true rfl⟩ rfl rfl (Nat.le_of_ble_eq_true rfl) dX8_dip_34 (fn_i ?_)
        rw [show (w1 20 5 (17 + 14 * k + 0).toNat : Int) = tb (vv 6 0) k.toNat + 2 * tb (vv 7 0) k.toNat from (by rw [show (17 + 14 * k + 0).toNat = 17 + 14 * k.toNat by omega]; exact ho)]
        refine g_if_le (tgt := 63) X dX8_dip_37 (by decide) (by unfold InR; omega) (fun c_37 => ?_) (fun c_37 => ?_)
        · skip
          refine g_iload_n X dX8_dip_63 rfl 2 rfl ?_
          refine g_lv (lv' := [(0, .ref (gAd G 20)), (1, .int (iI n)), (2, .int (iI found)), (3, .int (iI k))]) [0, 1, 2, 3] rfl ?_
          exact J_64 found (by
              first
              | exact (if_pos ⟨by omega, by omega⟩).symm
              | exact (if_neg (fun h => by omega)).symm)
        · skip
          refine g_iload_n X dX8_dip_40 rfl 2 rfl ?_
          refine g_bipush X dX8_dip_41 (by decide) ?_
          refine g_icmp_eq (tgt := 59) X dX8_dip_43 (by decide) (by unfold InR; omega) ⟨by decide, by decide⟩ (fun c_43 => ?_) (fun c_43 => ?_)
          · skip
            refine g_iload_n X dX8_dip_59 rfl 3 rfl ?_
            refine g_goto (tgt := 64) X dX8_dip_60 (by decide) ?_
            refine g_lv (lv' := [(0, .ref (gAd G 20)), (1, .int (iI n)), (2, .int (iI found)), (3, .int (iI k))]) [0, 1, 2, 3] rfl ?_
            exact J_64 k (by
                first
                | exact (if_pos ⟨by omega, by omega⟩).symm
                | exact (if_neg (fun h => by omega)).symm)
          · skip
            refine g_aload_n X dX8_dip_46 rfl 0 rfl ?_
            refine g_iload_n X dX8_dip_47 rfl 3 rfl ?_
            refine g_calli (st := []) X (c_X8_mostOf l G k pl w1 FM (by rw [m4]; exact hT) (by first | assumption | omega | (unfold InR; omega)) (by omega)) cm_X8_mostOf im_X8_mostOf se_X8_mostOf ml_X8_99 ck_X8 FM ⟨Nat.le_of_ble_eq_true rfl, Nat.le_of_ble_eq_true rfl⟩ rfl rfl (Nat.le_of_ble_eq_true rfl) dX8_dip_48 (fn_i ?_)
            refine g_aload_n X dX8_dip_51 rfl 0 rfl ?_
            refine g_iload_n X dX8_dip_52 rfl 2 rfl ?_
            refine g_calli (st := [.int (iI (pl 2 k.toNat))]) X (c_X8_mostOf l G found pl w1 FM (by rw [m4]; exact hT) (by first | assumption | omega | (unfold InR; omega)) (by omega)) cm_X8_mostOf im_X8_mostOf se_X8_mostOf ml_X8_99 ck_X8 FM ⟨Nat.le_of_ble_eq_true rfl, Nat.le_of_ble_eq_true rfl⟩ rfl rfl (Nat.le_of_ble_eq_true rfl) dX8_dip_53 (fn_i ?_)
            refine g_icmp_lt (tgt := 63) X dX8_dip_56 (by decide) (by unfold InR; omega) (by have := hp.2.1 found.toNat (by omega); unfold InR; omega) (fun c_56 => ?_) (fun c_56 => ?_)
            · skip
              refine g_iload_n X dX8_dip_63 rfl 2 rfl ?_
              refine g_lv (lv' := [(0, .ref (gAd G 20)), (1, .int (iI n)), (2, .int (iI found)), (3, .int (iI k))]) [0, 1, 2, 3] rfl ?_
              exact J_64 found (by
                  first
                  | exact (if_pos ⟨by omega, by omega⟩).symm
                  | exact (if_neg (fun h => by omega)).symm)
            · skip
              refine g_iload_n X dX8_dip_59 rfl 3 rfl ?_
              refine g_goto (tgt := 64) X dX8_dip_60 (by decide) ?_
              refine g_lv (lv' := [(0, .ref (gAd G 20)), (1, .int (iI n)), (2, .int (iI found)), (3, .int (iI k))]) [0, 1, 2, 3] rfl ?_
              exact J_64 k (by
                  first
                  | exact (if_pos ⟨by omega, by omega⟩).symm
                  | exact (if_neg (fun h => by omega)).symm)
