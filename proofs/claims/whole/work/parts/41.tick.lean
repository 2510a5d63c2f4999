theorem up_row (w : Wd) (o f j : Nat) (v : Int) : up w o f j v o f = fup (w o f) j v := by
  rw [up_eq_upA, upA_at]
theorem rs_tick {u : Nat → Nat → Int} {D : Nat → Int} (h : RS u D) (e : Int) : RS (tkE u e) (fup (fup D 8 (D 8 + e)) 4 (D 4 + 1)) := by
  have hb := h.2.1
  have ht := h.1
  have ef : ∀ f, f ≠ 4 → f ≠ 1 → tkE u e f = u f := fun f a b => by unfold tkE; rw [fuf b, fuf a]
  refine rs_misc h (fun f hf => ef f (by omega) (by omega)) (fun j hj => by rw [fup_ne (by omega), fup_ne (by omega)]) (fun j hj => by rw [fup_ne (by omega), fup_ne (by omega), ef 0 (by decide) (by decide)]; exact ht j hj) ?_ ?_ ?_ ?_ ?_
  · rw [fup_at, hb.1]; unfold tkE; rw [fu_at]
  · rw [fup_ne (by omega), fup_ne (by omega), ef 2 (by decide) (by decide)]; exact hb.2.1
  · rw [fup_ne (by omega), fup_ne (by omega), ef 3 (by decide) (by decide)]; exact hb.2.2.1
  · rw [fup_ne (by omega), fup_ne (by omega)]
  · rw [fup_ne (by omega), fup_at, hb.2.2.2.2.1]; unfold tkE; rw [fu_ne (by decide), fu_at]
theorem sb_in {u : Nat → Nat → Int} {k : Int} (h0 : 0 ≤ k) (h1 : k < 6) (hG : ∀ j, j < 54 → 0 ≤ u 13 j ∧ u 13 j ≤ 100000) : -100000 ≤ sbX u k 1 ∧ sbX u k 1 ≤ 100000 := by
  unfold sbX
  split
  · omega
  · have := hG (k * 9 + (u 12 k.toNat - 1) % 9).toNat (by omega)
    omega
/-- the first of the list comes back -/
theorem cb_ok {B n : Int} {v : Nat → Nat → Int} {D : Nat → Int} (hS : SV B n v) (hU : SU n v) (hR : RS v D) (h9 : 0 < v 9 0) (hn : n ≤ 6) : RS (stX (tkX v (v 10 0)) (v 10 0)) (dst (dun D (v 10 0)) (v 10 0).toNat (v 1 0)) ∧ SU n (stX (tkX v (v 10 0)) (v 10 0)) := by
  have hE := hS.2.2.2.2.1
  have hC := hS.2.2.1
  have hD := hS.2.2.2.1
  have hF := hS.2.2.2.2.2.1
  have h0 := hE 0 (by omega)
  obtain ⟨a, b, c, d⟩ := su_tk hU ⟨by omega, hD.2.2⟩ (v 10 0)
  have hR2 := rs_tk hR ⟨by omega, hD.2.2⟩ (v 10 0)
  have t := (tk_at v (v 10 0)).1
  have hl0 := hU.2.2.1 0 (by omega)
  have hd := d ⟨0, by omega, rfl⟩
  have hu6 := hU.2.2.2.2.2
  obtain ⟨m, hm⟩ : ∃ m : Nat, m = (v 10 0).toNat := ⟨_, rfl⟩
  have hmi : v 10 0 = (m : Int) := by omega
  have e1 : tkX v (v 10 0) 1 0 = v 1 0 := by rw [t 1 (by decide) (by decide)]
  have st := rs_st (u := tkX v (v 10 0)) (m := m) hR2 (by omega) (by rw [t 6 (by decide) (by decide)]; exact hC.2.1) (fun k hk => by rw [t 12 (by decide) (by decide)]; exact (hF k hk).2.1.1) (by rw [t 7 (by decide) (by decide), hm]; exact hl0.2)
  have su := su_st (u := tkX v (v 10 0)) (m := m) a (by omega) (by rw [t 6 (by decide) (by decide)]; exact hC.2.1) (by rw [t 7 (by decide) (by decide)]; exact hC.2.2) (fun k hk => by rw [t 12 (by decide) (by decide)]; exact (hF k hk).2.1.1) (by rw [t 7 (by decide) (by decide), hm]; exact hl0.2) (by rw [t 6 (by decide) (by decide), hm]; exact hl0.1)
    (fun j hj => by
      obtain ⟨q1, q, q2, q3⟩ := b j hj
      have := hE q q2
      exact ⟨by omega, by rw [← hmi]; exact q1⟩)
    (by unfold runX at hu6 ⊢; rw [t 6 (by decide) (by decide), t 7 (by decide) (by decide)]; omega)
  rw [e1, ← hmi] at st
  rw [← hmi] at su
  rw [← hm]
  exact ⟨st, su⟩
theorem rs_f2 {u : Nat → Nat → Int} {D : Nat → Int} (h : RS u D) (a : Int) : RS (fu u 2 0 a) (fup D 5 a) := by
  have hb := h.2.1
  have ht := h.1
  refine rs_misc h (fun f hf => fuf (by omega)) (fun j hj => fup_ne (by omega)) (fun j hj => by rw [fup_ne (by omega), fuf (by decide)]; exact ht j hj) ?_ ?_ ?_ ?_ ?_
  · rw [fup_ne (by omega), fuf (by decide)]; exact hb.1
  · rw [fup_at, fu_at]
  · rw [fup_ne (by omega), fuf (by decide)]; exact hb.2.2.1
  · rw [fup_ne (by omega)]
  · rw [fup_ne (by omega), fuf (by decide)]; exact hb.2.2.2.2.1
theorem rs_f3 {u : Nat → Nat → Int} {D : Nat → Int} (h : RS u D) (a : Int) : RS (fu u 3 0 a) (fup D 6 a) := by
  have hb := h.2.1
  have ht := h.1
  refine rs_misc h (fun f hf => fuf (by omega)) (fun j hj => fup_ne (by omega)) (fun j hj => by rw [fup_ne (by omega), fuf (by decide)]; exact ht j hj) ?_ ?_ ?_ ?_ ?_
  · rw [fup_ne (by omega), fuf (by decide)]; exact hb.1
  · rw [fup_ne (by omega), fuf (by decide)]; exact hb.2.1
  · rw [fup_at, fu_at]
  · rw [fup_ne (by omega)]
  · rw [fup_ne (by omega), fuf (by decide)]; exact hb.2.2.2.2.1
theorem su_f2 {n : Int} {u : Nat → Nat → Int} (h : SU n u) (a : Int) : SU n (fu u 2 0 a) := su_misc h (fun f hf => fuf (by omega)) (by rw [fuf (by decide)]; exact Int.le_refl _)
theorem su_f3 {n : Int} {u : Nat → Nat → Int} (h : SU n u) (a : Int) : SU n (fu u 3 0 a) := su_misc h (fun f hf => fuf (by omega)) (by rw [fuf (by decide)]; exact Int.le_refl _)
theorem fu_comm (u : Nat → Nat → Int) (a b : Int) : fu (fu u 2 0 a) 3 0 b = fu (fu u 3 0 b) 2 0 a := by
  funext f j
  unfold fu
  by_cases h : f = 3 ∧ j = 0
  · rw [if_pos h, if_neg (by omega), if_pos h]
  · rw [if_neg h, if_neg h]
theorem tu10 (w : Wd) (j : Nat) (v : Int) : up w 20 5 j v 20 10 = w 20 10 := up_fn (by decide)
theorem tu11 (w : Wd) (j : Nat) (v : Int) : up w 20 5 j v 20 11 = w 20 11 := up_fn (by decide)
theorem tu12 (w : Wd) (j : Nat) (v : Int) : up w 20 5 j v 20 12 = w 20 12 := up_fn (by decide)
theorem ta10 (w : Wd) (g : Nat → Int) : upA w 20 5 g 20 10 = w 20 10 := upA_ne (by decide)
theorem ta11 (w : Wd) (g : Nat → Int) : upA w 20 5 g 20 11 = w 20 11 := upA_ne (by decide)
theorem ta12 (w : Wd) (g : Nat → Int) : upA w 20 5 g 20 12 = w 20 12 := upA_ne (by decide)
theorem np_on (pl u : Nat → Nat → Int) : ∀ k, ¬ npX pl u k = -4 → tb (u 7 0) (npX pl u k).toNat = 1
  | 0, h => absurd rfl h
  | k + 1, h => by
    unfold npX at h ⊢
    by_cases c : tb (u 7 0) k = 1 ∧ pl 7 0 < u 1 0 - sbX u k 1 ∧ (npX pl u k = -4 ∨ u 11 (npX pl u k).toNat ≤ u 11 k)
    · rw [if_pos c]; exact c.1
    · rw [if_neg c] at h ⊢; exact np_on pl u k h
theorem cnt_5 {s : Int} {m : Nat} (hm : m < 6) (h : tb s m = 0) : cnt s ≤ 5 := by
  have v := fun k => tb01 s k
  have v0 := v 0
  have v1 := v 1
  have v2 := v 2
  have v3 := v 3
  have v4 := v 4
  have v5 := v 5
  unfold cnt
  rcases (show m = 0 ∨ m = 1 ∨ m = 2 ∨ m = 3 ∨ m = 4 ∨ m = 5 by omega) with rfl | rfl | rfl | rfl | rfl | rfl <;> omega
theorem ns_may (pl u : Nat → Nat → Int) : ∀ k, ¬ nsX pl u k = -4 → mayX pl u (nsX pl u k) (u 1 0)
  | 0, h => absurd rfl h
  | k + 1, h => by
    unfold nsX at h ⊢
    by_cases c : mayX pl u k (u 1 0) ∧ (nsX pl u k = -4 ∨ u 11 k < u 11 (nsX pl u k).toNat)
    · rw [if_pos c]; exact c.1
    · rw [if_neg c] at h ⊢; exact ns_may pl u k h
/-- the one that may start is started -/
theorem st_ok {pl : Nat → Nat → Int} {B : Int} {v : Nat → Nat → Int} {D : Nat → Int} (hS : SV B (pl 0 0) v) (hU : SU (pl 0 0) v) (hR : RS v D) (hn : pl 0 0 ≤ 6) (h9 : v 9 0 = 0) (hw : ¬ nsX pl v (pl 0 0).toNat = -4) : RS (stX v (nsX pl v (pl 0 0).toNat)) (dst D (nsX pl v (pl 0 0).toNat).toNat (v 1 0)) ∧ SU (pl 0 0) (stX v (nsX pl v (pl 0 0).toNat)) := by
  have hC := hS.2.2.1
  have hF := hS.2.2.2.2.2.1
  have hin := nsX_in pl v (pl 0 0).toNat
  have hm := (ns_may pl v _ hw).1
  obtain ⟨m, hmm⟩ : ∃ m : Nat, m = (nsX pl v (pl 0 0).toNat).toNat := ⟨_, rfl⟩
  have hmi : nsX pl v (pl 0 0).toNat = (m : Int) := by omega
  rw [hmi] at hm ⊢
  have hr := bt_or hC.2.1.1 hC.2.1.2 hC.2.2.1 hC.2.2.2
  have hr2 := (bt_or hr.1 hr.2.1 hC.1.1 hC.1.2).2.2 m (by omega)
  rw [hr.2.2 m (by omega)] at hr2
  have hm2 : tb (bor (bor (v 6 0) (v 7 0)) (v 5 0)) m = 0 := hm
  have t5 := tb01 (v 5 0) m
  have t6 := tb01 (v 6 0) m
  have t7 := tb01 (v 7 0) m
  have hrm := hr.2.2 m (by omega)
  have hc := cnt_5 (s := bor (v 6 0) (v 7 0)) (m := m) (by omega) (by omega)
  exact ⟨rs_st hR (by omega) hC.2.1 (fun k hk => (hF k hk).2.1.1) (by omega), su_st hU (by omega) hC.2.1 hC.2.2 (fun k hk => (hF k hk).2.1.1) (by omega) (by omega) (fun j hj => by omega) (by show v 9 0 + cnt (bor (v 6 0) (v 7 0)) ≤ 5; omega)⟩
/-- the one that may stop is stopped -/
theorem sp_ok {pl : Nat → Nat → Int} {B m a b : Int} {v : Nat → Nat → Int} {D : Nat → Int} (hS : SV B (pl 0 0) v) (hU : SU (pl 0 0) (fu (fu v 2 0 a) 3 0 b)) (hR : RS (fu (fu v 2 0 a) 3 0 b) D) (hn : pl 0 0 ≤ 6) (h0 : 0 ≤ m) (h1 : m < 6) (h7 : tb (v 7 0) m.toNat = 1) : RS (spX (fu (fu v 2 0 a) 3 0 b) m) (dsp D m.toNat (v 1 0)) ∧ SU (pl 0 0) (spX (fu (fu v 2 0 a) 3 0 b) m) := by
  have hC := hS.2.2.1
  have hE := hS.2.2.2.2.1
  obtain ⟨k, hk⟩ : ∃ k : Nat, k = m.toNat := ⟨_, rfl⟩
  have hmi : m = (k : Int) := by omega
  have e6 : fu (fu v 2 0 a) 3 0 b 6 = v 6 := by rw [fuf (by decide), fuf (by decide)]
  have e7 : fu (fu v 2 0 a) 3 0 b 7 = v 7 := by rw [fuf (by decide), fuf (by decide)]
  have e1 : fu (fu v 2 0 a) 3 0 b 1 = v 1 := by rw [fuf (by decide), fuf (by decide)]
  have e9 : fu (fu v 2 0 a) 3 0 b 9 = v 9 := by rw [fuf (by decide), fuf (by decide)]
  have e10 : fu (fu v 2 0 a) 3 0 b 10 = v 10 := by rw [fuf (by decide), fuf (by decide)]
  have hr : tb (runX (fu (fu v 2 0 a) 3 0 b)) k = 1 := by
    unfold runX
    rw [e6, e7, (bt_or hC.2.1.1 hC.2.1.2 hC.2.2.1 hC.2.2.2).2.2 k (by omega), hk, h7]
    have := tb01 (v 6 0) m.toNat
    omega
  have g := rs_sp hR (m := k) (by omega) (by rw [e6]; exact hC.2.1) (by rw [e7]; exact hC.2.2) hr
  rw [e1] at g
  rw [← hk, hmi]
  exact ⟨g, su_sp hU (by omega) (by rw [e6]; exact hC.2.1) (by rw [e7]; exact hC.2.2) hr (by rw [e9, e10]; exact fun j hj => by have := hE j hj; omega)⟩
theorem np_clr {pl : Nat → Nat → Int} (hp : PV pl) {B : Int} {u : Nat → Nat → Int} (hS : SV B (pl 0 0) u) (h : ¬ npX pl u (pl 0 0).toNat = -4) : sumB (clrB (runX u) (npX pl u (pl 0 0).toNat)) (pl 2) (pl 0 0).toNat = sumB (runX u) (pl 2) (pl 0 0).toNat - pl 2 (npX pl u (pl 0 0).toNat).toNat := by
  have hC := hS.2.2.1
  have hp0 := hp.1
  have hin := npX_in pl u (pl 0 0).toNat
  have hon := np_on pl u _ h
  generalize npX pl u (pl 0 0).toNat = z at h hin hon ⊢
  have hr := bt_or hC.2.1.1 hC.2.1.2 hC.2.2.1 hC.2.2.2
  have hc := bt_clr (s := bor (u 6 0) (u 7 0)) (m := z) hr.1 hr.2.1 (by omega) (by omega)
  have t6 := tb01 (u 6 0) z.toNat
  have := sB_ins (s := bor (u 6 0) (u 7 0)) (r := clrB (runX u) z) (f := pl 2) (g := pl 2) (m := z.toNat) (pl 0 0).toNat (by omega) (by rw [hr.2.2 _ (by omega)]; omega) (by rw [hc.2.2 _ (by omega), if_pos rfl]) (fun k hk e => by rw [hc.2.2 k (by omega), if_neg e]) (fun _ _ _ => rfl)
  show _ = sumB (bor (u 6 0) (u 7 0)) (pl 2) (pl 0 0).toNat - _
  omega
set_option maxHeartbeats 4000000 in
set_option maxRecDepth 100000 in
theorem c_X8_tickOnce (l : Launch) (G : Ly) (pl : Nat → Nat → Int) (u : Nat → Nat → Int) (B : Int) (w : Wd) (FM : gOb G 20 = some 8) (hT : PlR pl (w 20 4)) (hp : PV pl) (hR : RS u (w 20 5)) (hS : SV B (pl 0 0) u) (hU : SU (pl 0 0) u) (hB : B ≤ 99000) (hC : TbC pl (w 20)) (hB2 : B ≤ 98000) : Mv l yX8_tickOnce cX8_tickOnce 6 none 6 147 G [.ref (gAd G 20)] w (fun w2 => ∃ e, PowX pl u e ∧ RS (psX pl u e) (w2 20 5) ∧ SU (pl 0 0) (psX pl u e) ∧ (∀ o f, ¬ (o = 20 ∧ (f = 5 ∨ (10 ≤ f ∧ f ≤ 13))) → w2 o f = w o f) ∧ TbC pl (w2 20)) := by
  refine mv_of (lv := [(0, .ref (gAd G 20))]) (by decide) (Nat.le_of_ble_eq_true rfl) rfl ?_
  intro p_ e_ s_ m_ b_ h_ c_ X
  have hp0 := hp.1
  have hp7 := hp.2.2
  have t36 := hT.1
  have sT := hS.1
  have sB := hS.2.1
  have sC := hS.2.2.1
  have sD := hS.2.2.2.1
  have sE := hS.2.2.2.2.1
  have sF := hS.2.2.2.2.2.1
  have sG := hS.2.2.2.2.2.2.1
  have sH := hS.2.2.2.2.2.2.2
  have rT := hR.1
  have rB := hR.2.1
  have rL := hR.2.2.1
  have rM := hR.2.2.2
  have uA := hU.1
  have hrun := bt_or (s := u 6 0) (t := u 7 0) (by omega) (by omega) (by omega) (by omega)
  have r00 : w 20 5 0 = u 0 0 := rT 0 (by decide)
  have r01 : w 20 5 1 = u 0 1 := rT 1 (by decide)
  have r02 : w 20 5 2 = u 0 2 := rT 2 (by decide)
  have r03 : w 20 5 3 = u 0 3 := rT 3 (by decide)
  have r04 : w 20 5 4 = u 1 0 := rB.1
  have hall := bt_all (pl 0 0) (by omega) (by omega)
  have hlf0 : 0 ≤ liftX u ∧ liftX u ≤ 45 := by unfold liftX; omega
  refine g_aload_n X dX8_tickOnce_0 rfl 0 rfl ?_
  refine g_geta X ck_X8 FM 5 (by decide) fl_X8_19 rfl dX8_tickOnce_1 ?_
  refine g_bipush X dX8_tickOnce_4 (by decide) ?_
  refine g_dup2 X dX8_tickOnce_6 rfl rfl ?_
  refine h_iald (a := 8) (j := 8) X rfl FM (by decide) (show fkX 8 5 = (1, 101) from rfl) (by decide) (by omega) (by omega) dX8_tickOnce_7 ?_
  refine g_aload_n X dX8_tickOnce_8 rfl 0 rfl ?_
  refine g_calli (st := [.int (iI (w 20 5 8)), .int (iI 8), .ref (gAr G 20 5)]) X (c_X8_powerNow l G pl u B w FM (by first | assumption | omega | (unfold InR; omega)) (by first | assumption | omega | (unfold InR; omega)) (by first | assumption | omega | (unfold InR; omega)) (by first | assumption | omega | (unfold InR; omega)) (by first | assumption | omega | (unfold InR; omega)) (by first | assumption | omega | (unfold InR; omega)) (by first | assumption | omega | (unfold InR; omega))) cm_X8_powerNow im_X8_powerNow se_X8_powerNow ml_X8_156 ck_X8 FM ⟨Nat.le_of_ble_eq_true rfl, Nat.le_of_ble_eq_true rfl⟩ rfl rfl (Nat.le_of_ble_eq_true rfl) dX8_tickOnce_9 ?_
  rintro z_9 u_9 ⟨hpw, hfr, hC2, h11, h12⟩
  have q4 : u_9 20 4 = w 20 4 := hfr 20 4 (by decide)
  have q5 : u_9 20 5 = w 20 5 := hfr 20 5 (by decide)
  have hR0 : RS (tkE u z_9) (fup (fup (w 20 5) 8 (w 20 5 8 + z_9)) 4 (w 20 5 4 + 1)) := rs_tick hR z_9
  have hU0 : SU (pl 0 0) (tkE u z_9) := su_misc hU (fun f hf => by unfold tkE; rw [fuf (by omega), fuf (by omega)]) (by unfold tkE; simp [fu]; omega)
  refine g_iadd X dX8_tickOnce_12 ?_
  refine h_iast (a := 8) (j := 8) X rfl FM (by decide) (show fkX 8 5 = (1, 101) from rfl) (by decide) (by omega) (by omega) dX8_tickOnce_13 ?_
  obtain ⟨w_1, ew_1⟩ : ∃ q_ : Wd, q_ = up u_9 20 5 8 ((w 20 5 8) + z_9) := ⟨_, rfl⟩
  refine g_w (w' := w_1) ew_1 ?_
  refine g_aload_n X dX8_tickOnce_14 rfl 0 rfl ?_
  refine g_geta X ck_X8 FM 5 (by decide) fl_X8_19 rfl dX8_tickOnce_15 ?_
  refine g_iconst X dX8_tickOnce_18 ?_
  refine g_dup2 X dX8_tickOnce_19 rfl rfl ?_
  refine h_iald (a := 4) (j := 4) X rfl FM (by decide) (show fkX 8 5 = (1, 101) from rfl) (by decide) (by omega) (by omega) dX8_tickOnce_20 ?_
  refine g_iconst X dX8_tickOnce_21 ?_
  refine g_iadd X dX8_tickOnce_22 ?_
  refine h_iast (a := 4) (j := 4) X rfl FM (by decide) (show fkX 8 5 = (1, 101) from rfl) (by decide) (by omega) (by omega) dX8_tickOnce_23 ?_
  obtain ⟨w_2, ew_2⟩ : ∃ q_ : Wd, q_ = up w_1 20 5 4 ((w_1 20 5 4) + 1) := ⟨_, rfl⟩
  refine g_w (w' := w_2) ew_2 ?_
  refine g_aload_n X dX8_tickOnce_24 rfl 0 rfl ?_
  refine g_geta X ck_X8 FM 5 (by decide) fl_X8_19 rfl dX8_tickOnce_25 ?_
  refine g_iconst X dX8_tickOnce_28 ?_
  refine h_iald (a := 4) (j := 4) X rfl FM (by decide) (show fkX 8 5 = (1, 101) from rfl) (by decide) (by omega) (by omega) dX8_tickOnce_29 ?_
  rw [show (w_2 20 5 4 : Int) = u 1 0 + 1 from (by rw [ew_2, ew_1, up_at, up_ne (by decide), q5, r04])]
  refine g_istore_n (lv' := [(1, .int (iI (u 1 0 + 1))), (0, .ref (gAd G 20))]) X dX8_tickOnce_30 rfl (by decide) rfl ?_
  refine g_iconst X dX8_tickOnce_31 ?_
  refine g_istore_n (lv' := [(2, .int (iI 0)), (1, .int (iI (u 1 0 + 1))), (0, .ref (gAd G 20))]) X dX8_tickOnce_32 rfl (by decide) rfl ?_
  refine g_lv (lv' := [(0, .ref (gAd G 20)), (1, .int (iI (u 1 0 + 1))), (2, .int (iI 0))]) [2, 1, 0] rfl ?_
  refine g_loop2 (fun (k : Int) (w1 : Wd) => [(0, .ref (gAd G 20)), (1, .int (iI (u 1 0 + 1))), (2, .int (iI k))]) (fun (k : Int) (w1 : Wd) => w1) (fun (k : Int) (w1 : Wd) => (0 ≤ k) ∧ (k ≤ pl 0 0) ∧ (RS (lpX (tkE u z_9) k.toNat) (w1 20 5)) ∧ (SU (pl 0 0) (lpX (tkE u z_9) k.toNat)) ∧ (∀ o f, ¬ (o = 20 ∧ f = 5) → w1 o f = u_9 o f)) (fun (k : Int) (w1 : Wd) => (pl 0 0 - k).toNat) 0 w_2 ⟨(by first | omega | rfl | assumption), (by first | omega | rfl | assumption), (by
      rw [ew_2, ew_1, up_row, up_row, fup_ne (show 4 ≠ 8 by decide), q5]
      exact hR0), (by exact hU0), (by intro o f h; rw [ew_2, ew_1, up_fn h, up_fn h])⟩ ?_
  intro k w1 hI_33 ih_33
  obtain ⟨h0, h1, hRk, hUk, hf⟩ := hI_33
  try dsimp only at ih_33 ⊢
  have f4 : w1 20 4 = w 20 4 := by rw [hf 20 4 (by decide)]; exact q4
  have f36 : w1 20 4 36 = pl 0 0 := by rw [f4]; exact t36
  have hSk := sv_lp (e := z_9) (show pl 0 0 ≤ 6 by omega) hS k.toNat (by omega)
  have hfr5 : ∀ o f, ¬ (o = 20 ∧ (f = 5 ∨ (10 ≤ f ∧ f ≤ 13))) → w1 o f = w o f := fun o f h => by rw [hf o f (fun z => h ⟨z.1, Or.inl z.2⟩)]; exact hfr o f (fun z => h ⟨z.1, Or.inr z.2⟩)
  have hC1 : TbC pl (w1 20) := by unfold TbC; rw [hf 20 10 (by decide), hf 20 11 (by decide), hf 20 12 (by decide)]; exact hC2
  refine g_iload_n X dX8_tickOnce_33 rfl 2 rfl ?_
  refine g_aload_n X dX8_tickOnce_34 rfl 0 rfl ?_
  refine g_geta X ck_X8 FM 4 (by decide) fl_X8_16 rfl dX8_tickOnce_35 ?_
  refine g_bipush X dX8_tickOnce_38 (by decide) ?_
  refine h_iald (a := 36) (j := 36) X rfl FM (by decide) (show fkX 8 4 = (1, 44) from rfl) (by decide) (by omega) (by omega) dX8_tickOnce_40 ?_
  refine g_icmp_ge (tgt := 123) X dX8_tickOnce_41 (by decide) (by unfold InR; omega) (by unfold InR; omega) (fun c_41 => ?_) (fun c_41 => ?_)
  · skip
    obtain ⟨vv, hvv⟩ : ∃ q, q = lpX (tkE u z_9) (pl 0 0).toNat := ⟨_, rfl⟩
    have hkn : k = pl 0 0 := by omega
    rw [hkn] at hRk hUk hSk
    rw [← hvv] at hRk hUk hSk
    have v1 : vv 1 0 = u 1 0 + 1 := by rw [hvv, (lp_1 _ _).1]; simp [tkE, fu]
    have v0 : vv 0 = u 0 := by rw [hvv, (lp_1 _ _).2.1]; funext j; simp [tkE, fu]
    have hSv : SV (B + 8) (pl 0 0) vv := sv_mono hSk (by omega)
    have cT := hSv.1
    have cB := hSv.2.1
    have cC := hSv.2.2.1
    have cD := hSv.2.2.2.1
    have cE := hSv.2.2.2.2.1
    have cF := hSv.2.2.2.2.2.1
    have d10 : w1 20 5 10 = vv 9 0 := hRk.2.1.2.2.2.2.2.2
    have d0 : w1 20 5 0 = vv 0 0 := hRk.1 0 (by decide)
    have d5 : w1 20 5 5 = vv 2 0 := hRk.2.1.2.1
    have d6 : w1 20 5 6 = vv 3 0 := hRk.2.1.2.2.1
    have hps : psX pl u z_9 = tailX pl vv := by unfold psX; rw [← hvv]
    have hrv := bt_or (s := vv 6 0) (t := vv 7 0) (by omega) (by omega) (by omega) (by omega)
    have hnp := npX_in pl vv (pl 0 0).toNat
    have t41 : w1 20 4 41 = pl 11 0 := by rw [f4]; exact hT.2.2 11 (by decide) (by decide)
    have t42 : w1 20 4 42 = pl 12 0 := by rw [f4]; exact hT.2.2 12 (by decide) (by decide)
    have t43 : w1 20 4 43 = pl 13 0 := by rw [f4]; exact hT.2.2 13 (by decide) (by decide)
    have pMr := pv_most hp (runX vv)
    have mulU := mulb (a := pl 11 0) (b := sumB (runX vv) (pl 2) (pl 0 0).toNat) (A := 99) (B := 480) (by omega) (by omega) pMr.1 pMr.2
    refine g_aload_n X dX8_tickOnce_123 rfl 0 rfl ?_
    refine g_geta X ck_X8 FM 5 (by decide) fl_X8_19 rfl dX8_tickOnce_124 ?_
    refine g_bipush X dX8_tickOnce_127 (by decide) ?_
    refine h_iald (a := 10) (j := 10) X rfl FM (by decide) (show fkX 8 5 = (1, 101) from rfl) (by decide) (by omega) (by omega) dX8_tickOnce_129 ?_
    refine g_if_le (tgt := 161) X dX8_tickOnce_130 (by decide) (by rw [d10]; unfold InR; omega) (fun c_130 => ?_) (fun c_130 => ?_)
    · skip
      have hl0 : vv 9 0 = 0 := by rw [d10] at c_130; omega
      refine g_aload_n X dX8_tickOnce_161 rfl 0 rfl ?_
      refine g_iconst X dX8_tickOnce_162 ?_
      refine g_calli (st := []) X (c_X8_standing l G 1 pl vv (B + 8) (runX vv) w1 FM (by rw [f4]; exact hT) (by first | assumption | omega | (unfold InR; omega)) (by first | assumption | omega | (unfold InR; omega)) (by first | assumption | omega | (unfold InR; omega)) (by first | assumption | omega | (unfold InR; omega)) (by omega) (Or.inl ⟨rfl, rfl⟩)) cm_X8_standing im_X8_standing se_X8_standing ml_X8_140 ck_X8 FM ⟨Nat.le_of_ble_eq_true rfl, Nat.le_of_ble_eq_true rfl⟩ rfl rfl (Nat.le_of_ble_eq_true rfl) dX8_tickOnce_163 (fn_i ?_)
      refine g_istore_n (lv' := [(2, .int (iI (runX vv))), (0, .ref (gAd G 20)), (1, .int (iI (u 1 0 + 1)))]) X dX8_tickOnce_166 rfl (by decide) rfl ?_
      refine g_bipush X dX8_tickOnce_167 (by decide) ?_
      refine g_aload_n X dX8_tickOnce_169 rfl 1 rfl ?_
      refine g_geta X ck_X8 FM 5 (by decide) fl_X8_19 rfl dX8_tickOnce_170 ?_
      refine g_iconst X dX8_tickOnce_173 ?_
      refine h_iald (a := 0) (j := 0) X rfl FM (by decide) (show fkX 8 5 = (1, 101) from rfl) (by decide) (by omega) (by omega) dX8_tickOnce_174 ?_
      rw [show (w1 20 5 0 : Int) = vv 0 0 from d0]
      refine g_imul X dX8_tickOnce_175 ?_
      refine g_istore_n (lv' := [(3, .int (iI (100 * (vv 0 0)))), (2, .int (iI (runX vv))), (0, .ref (gAd G 20)), (1, .int (iI (u 1 0 + 1)))]) X dX8_tickOnce_176 rfl (by decide) rfl ?_
      refine g_aload_n X dX8_tickOnce_177 rfl 2 rfl ?_
      refine g_iload_n X dX8_tickOnce_178 rfl 3 rfl ?_
      refine g_calli (st := []) X (c_X8_stopper l G (u 1 0 + 1) pl vv (B + 8) w1 FM (by rw [f4]; exact hT) (by first | assumption | omega | (unfold InR; omega)) (by first | assumption | omega | (unfold InR; omega)) (by first | assumption | omega | (unfold InR; omega)) (by first | assumption | omega | (unfold InR; omega)) (by omega) (by exact v1.symm)) cm_X8_stopper im_X8_stopper se_X8_stopper ml_X8_166 ck_X8 FM ⟨Nat.le_of_ble_eq_true rfl, Nat.le_of_ble_eq_true rfl⟩ rfl rfl (Nat.le_of_ble_eq_true rfl) dX8_tickOnce_179 (fn_i ?_)
      refine g_istore (lv' := [(4, .int (iI (npX pl vv (pl 0 0).toNat))), (3, .int (iI (100 * (vv 0 0)))), (2, .int (iI (runX vv))), (0, .ref (gAd G 20)), (1, .int (iI (u 1 0 + 1)))]) X dX8_tickOnce_182 (by decide) rfl ?_
      refine g_iload_n X dX8_tickOnce_184 rfl 1 rfl ?_
      refine g_aload_n X dX8_tickOnce_185 rfl 3 rfl ?_
      refine g_geta X ck_X8 FM 4 (by decide) fl_X8_16 rfl dX8_tickOnce_186 ?_
      refine g_bipush X dX8_tickOnce_189 (by decide) ?_
      refine h_iald (a := 41) (j := 41) X rfl FM (by decide) (show fkX 8 4 = (1, 44) from rfl) (by decide) (by omega) (by omega) dX8_tickOnce_191 ?_
      rw [show (w1 20 4 41 : Int) = pl 11 0 from t41]
      refine g_aload_n X dX8_tickOnce_192 rfl 3 rfl ?_
      refine g_iload_n X dX8_tickOnce_193 rfl 2 rfl ?_
      refine g_iconst X dX8_tickOnce_194 ?_
      refine g_calli (st := [.int (iI (pl 11 0)), .int (iI (100 * (vv 0 0)))]) X (c_X8_sumOf l G (runX vv) 1 pl w1 FM (by rw [f4]; exact hT) (by first | assumption | omega | (unfold InR; omega)) (by exact ⟨hrv.1, hrv.2.1⟩) (by first | assumption | omega | (unfold InR; omega))) cm_X8_sumOf im_X8_sumOf se_X8_sumOf ml_X8_90 ck_X8 FM ⟨Nat.le_of_ble_eq_true rfl, Nat.le_of_ble_eq_true rfl⟩ rfl rfl (Nat.le_of_ble_eq_true rfl) dX8_tickOnce_195 (fn_i ?_)
      rw [show (sumB (runX vv) (pl ((1 : Int).toNat + 1)) (pl 0 0).toNat : Int) = sumB (runX vv) (pl 2) (pl 0 0).toNat from rfl]
      refine g_imul X dX8_tickOnce_198 ?_
      refine g_icmp_le (tgt := 267) X dX8_tickOnce_199 (by decide) (by unfold InR; omega) (by unfold InR; omega) (fun c_199 => ?_) (fun c_199 => ?_)
      · skip
        refine g_iload X dX8_tickOnce_267 0 rfl ?_
        refine g_bipush X dX8_tickOnce_269 (by decide) ?_
        refine g_icmp_eq (tgt := 352) X dX8_tickOnce_271 (by decide) (by unfold InR; omega) ⟨by decide, by decide⟩ (fun c_271 => ?_) (fun c_271 => ?_)
        · skip
          refine g_aload_n X dX8_tickOnce_352 rfl 3 rfl ?_
          refine g_geta X ck_X8 FM 5 (by decide) fl_X8_19 rfl dX8_tickOnce_353 ?_
          refine g_iconst X dX8_tickOnce_356 ?_
          refine g_iconst X dX8_tickOnce_357 ?_
          refine h_iast (a := 5) (j := 5) X rfl FM (by decide) (show fkX 8 5 = (1, 101) from rfl) (by decide) (by omega) (by omega) dX8_tickOnce_358 ?_
          obtain ⟨w_3, ew_3⟩ : ∃ q_ : Wd, q_ = up w1 20 5 5 0 := ⟨_, rfl⟩
          refine g_w (w' := w_3) ew_3 ?_
          refine g_aload_n X dX8_tickOnce_359 rfl 3 rfl ?_
          refine g_geta X ck_X8 FM 5 (by decide) fl_X8_19 rfl dX8_tickOnce_360 ?_
          refine g_bipush X dX8_tickOnce_363 (by decide) ?_
          refine g_iconst X dX8_tickOnce_365 ?_
          refine h_iast (a := 6) (j := 6) X rfl FM (by decide) (show fkX 8 5 = (1, 101) from rfl) (by decide) (by omega) (by omega) dX8_tickOnce_366 ?_
          obtain ⟨w_4, ew_4⟩ : ∃ q_ : Wd, q_ = up w_3 20 5 6 0 := ⟨_, rfl⟩
          refine g_w (w' := w_4) ew_4 ?_
          exact g_vret X rfl dX8_tickOnce_367 (by
              first
              | (have e : tailX pl vv = u1X vv := (by unfold tailX suX; rw [if_neg (by omega), if_pos (by omega), if_pos (by unfold whoX; first | rw [if_neg (by omega)] | (rw [if_pos (by omega)]; omega))])
                 exact ⟨z_9, hpw, (by rw [hps, e]; exact hR1), (by rw [hps, e]; exact hU1), (fun o f h => by rw [ew_4, ew_3, up_fn (fun z => h ⟨z.1, Or.inl z.2⟩), up_fn (fun z => h ⟨z.1, Or.inl z.2⟩)]; exact hfr5 o f h), (by unfold TbC; rw [ew_4, ew_3, up_fn (by decide), up_fn (by decide), up_fn (by decide), up_fn (by decide), up_fn (by decide), up_fn (by decide)]; exact hC1)⟩)
              | (have e : tailX pl vv = fu (fu vv 2 0 0) 3 0 0 := (by unfold tailX sdX; rw [if_neg (by omega), if_neg (by omega), if_pos (by first | exact Or.inl (by omega) | exact Or.inr (by rw [hcl]; omega))])
                 exact ⟨z_9, hpw, (by rw [hps, e, ew_4, ew_3, up_row, up_row]; exact rs_f3 (rs_f2 hRk _) _), (by rw [hps, e]; exact su_f3 (su_f2 hUk _) _), (fun o f h => by rw [ew_4, ew_3, up_fn (fun z => h ⟨z.1, Or.inl z.2⟩), up_fn (fun z => h ⟨z.1, Or.inl z.2⟩)]; exact hfr5 o f h), (by unfold TbC; rw [ew_4, ew_3]; simp only [tu10, tu11, tu12, ta10, ta11, ta12]; exact hC1)⟩)
              | (have e : tailX pl vv = fu (fu vv 2 0 0) 3 0 (vv 3 0 + 1) := (by unfold tailX sdX; rw [if_neg (by omega), if_neg (by omega), if_neg (by rw [hcl]; omega), if_neg (by omega)])
                 exact ⟨z_9, hpw, (by rw [hps, e, fu_comm, ew_4, ew_3, up_row, up_row, d6]; exact rs_f2 (rs_f3 hRk _) _), (by rw [hps, e]; exact su_f3 (su_f2 hUk _) _), (fun o f h => by rw [ew_4, ew_3, up_fn (fun z => h ⟨z.1, Or.inl z.2⟩), up_fn (fun z => h ⟨z.1, Or.inl z.2⟩)]; exact hfr5 o f h), (by unfold TbC; rw [ew_4, ew_3]; simp only [tu10, tu11, tu12, ta10, ta11, ta12]; exact hC1)⟩)
              | (have e : tailX pl vv = fu (spX (fu (fu vv 2 0 0) 3 0 (vv 3 0 + 1)) (npX pl vv (pl 0 0).toNat)) 3 0 0 := (by unfold tailX sdX; rw [if_neg (by omega), if_neg (by omega), if_neg (by rw [hcl]; omega), if_pos (by omega)])
                 have hR2 : RS (fu (fu vv 2 0 0) 3 0 (vv 3 0 + 1)) (fup (fup (w1 20 5) 6 (vv 3 0 + 1)) 5 0) := (by rw [fu_comm]; exact rs_f2 (rs_f3 hRk _) _)
                 have hsp := sp_ok (pl := pl) hSv (su_f3 (su_f2 hUk 0) (vv 3 0 + 1)) hR2 (by omega) (by omega) (by omega) (np_on pl vv _ c_271)
                 rw [v1] at hsp
                 exact ⟨z_9, hpw, (by rw [hps, e, ew_4, ew_3, up_row, upA_at, up_row, up_row, d6]; exact rs_f3 hsp.1 _), (by rw [hps, e]; exact su_f3 hsp.2 _), (fun o f h => by rw [ew_4, ew_3, up_fn (fun z => h ⟨z.1, Or.inl z.2⟩), upA_ne (fun z => h ⟨z.1, Or.inl z.2⟩), up_fn (fun z => h ⟨z.1, Or.inl z.2⟩), up_fn (fun z => h ⟨z.1, Or.inl z.2⟩)]; exact hfr5 o f h), (by unfold TbC; rw [ew_4, ew_3]; simp only [tu10, tu11, tu12, ta10, ta11, ta12]; exact hC1)⟩)
              | (have e : tailX pl vv = fu (stX (u1X vv) (nsX pl (u1X vv) (pl 0 0).toNat)) 2 0 0 := (by
                   have hwho : whoX pl (u1X vv) = nsX pl (u1X vv) (pl 0 0).toNat := (by unfold whoX; rw [if_pos (by omega)])
                   unfold tailX suX
                   rw [if_neg (by omega), if_pos (by omega), hwho, if_neg (by omega)])
                 have hst := st_ok hS1 hU1 hR1 (by omega) (by unfold u1X; rw [fu_ne (by decide), fu_ne (by decide)]; exact hl0) (by omega)
                 rw [e11, v1] at hst
                 exact ⟨z_9, hpw, (by rw [hps, e, ew_4, up_row, hwS, upA_at]; exact rs_f2 hst.1 _), (by rw [hps, e]; exact su_f2 hst.2 _), (fun o f h => by rw [ew_4, ew_3, up_fn (fun z => h ⟨z.1, Or.inl z.2⟩), upA_ne (fun z => h ⟨z.1, Or.inl z.2⟩), up_fn (fun z => h ⟨z.1, Or.inl z.2⟩), up_fn (fun z => h ⟨z.1, Or.inl z.2⟩)]; exact hfr5 o f h), (by unfold TbC; rw [ew_4, ew_3]; simp only [tu10, tu11, tu12, ta10, ta11, ta12]; exact hC1)⟩))
        · skip
          refine g_iload_n X dX8_tickOnce_274 rfl 1 rfl ?_
          have hnp2 : 0 ≤ npX pl vv (pl 0 0).toNat ∧ npX pl vv (pl 0 0).toNat < pl 0 0 := by omega
          have hpm := hp.2.1 (npX pl vv (pl 0 0).toNat).toNat (by omega)
          have hcl := np_clr hp (u := vv) hSv c_271
          have pMc := pv_most hp (clrB (runX vv) (npX pl vv (pl 0 0).toNat))
          have mulD := mulb (a := pl 12 0) (b := sumB (clrB (runX vv) (npX pl vv (pl 0 0).toNat)) (pl 2) (pl 0 0).toNat) (A := 99) (B := 480) (by omega) (by omega) pMc.1 pMc.2
          rw [hcl] at pMc mulD
          refine g_aload_n X dX8_tickOnce_275 rfl 3 rfl ?_
          refine g_geta X ck_X8 FM 4 (by decide) fl_X8_16 rfl dX8_tickOnce_276 ?_
          refine g_bipush X dX8_tickOnce_279 (by decide) ?_
          refine h_iald (a := 42) (j := 42) X rfl FM (by decide) (show fkX 8 4 = (1, 44) from rfl) (by decide) (by omega) (by omega) dX8_tickOnce_281 ?_
          rw [show (w1 20 4 42 : Int) = pl 12 0 from t42]
          refine g_aload_n X dX8_tickOnce_282 rfl 3 rfl ?_
          refine g_iload_n X dX8_tickOnce_283 rfl 2 rfl ?_
          refine g_iconst X dX8_tickOnce_284 ?_
          refine g_calli (st := [.int (iI (pl 12 0)), .int (iI (100 * (vv 0 0)))]) X (c_X8_sumOf l G (runX vv) 1 pl w1 FM (by rw [f4]; exact hT) (by first | assumption | omega | (unfold InR; omega)) (by exact ⟨hrv.1, hrv.2.1⟩) (by first | assumption | omega | (unfold InR; omega))) cm_X8_sumOf im_X8_sumOf se_X8_sumOf ml_X8_90 ck_X8 FM ⟨Nat.le_of_ble_eq_true rfl, Nat.le_of_ble_eq_true rfl⟩ rfl rfl (Nat.le_of_ble_eq_true rfl) dX8_tickOnce_285 (fn_i ?_)
          rw [show (sumB (runX vv) (pl ((1 : Int).toNat + 1)) (pl 0 0).toNat : Int) = sumB (runX vv) (pl 2) (pl 0 0).toNat from rfl]
          refine g_aload_n X dX8_tickOnce_288 rfl 3 rfl ?_
          refine g_iload X dX8_tickOnce_289 0 rfl ?_
          refine g_calli (st := [.int (iI (sumB (runX vv) (pl 2) (pl 0 0).toNat)), .int (iI (pl 12 0)), .int (iI (100 * (vv 0 0)))]) X (c_X8_mostOf l G (npX pl vv (pl 0 0).toNat) pl w1 FM (by rw [f4]; exact hT) (by first | assumption | omega | (unfold InR; omega)) (by omega)) cm_X8_mostOf im_X8_mostOf se_X8_mostOf ml_X8_99 ck_X8 FM ⟨Nat.le_of_ble_eq_true rfl, Nat.le_of_ble_eq_true rfl⟩ rfl rfl (Nat.le_of_ble_eq_true rfl) dX8_tickOnce_291 (fn_i ?_)
          refine g_isub X dX8_tickOnce_294 ?_
          refine g_imul X dX8_tickOnce_295 ?_
          refine g_icmp_ge (tgt := 352) X dX8_tickOnce_296 (by decide) (by unfold InR; omega) (by unfold InR; omega) (fun c_296 => ?_) (fun c_296 => ?_)
          · skip
            refine g_aload_n X dX8_tickOnce_352 rfl 3 rfl ?_
            refine g_geta X ck_X8 FM 5 (by decide) fl_X8_19 rfl dX8_tickOnce_353 ?_
            refine g_iconst X dX8_tickOnce_356 ?_
            refine g_iconst X dX8_tickOnce_357 ?_
            refine h_iast (a := 5) (j := 5) X rfl FM (by decide) (show fkX 8 5 = (1, 101) from rfl) (by decide) (by omega) (by omega) dX8_tickOnce_358 ?_
            obtain ⟨w_5, ew_5⟩ : ∃ q_ : Wd, q_ = up w1 20 5 5 0 := ⟨_, rfl⟩
            refine g_w (w' := w_5) ew_5 ?_
            refine g_aload_n X dX8_tickOnce_359 rfl 3 rfl ?_
            refine g_geta X ck_X8 FM 5 (by decide) fl_X8_19 rfl dX8_tickOnce_360 ?_
            refine g_bipush X dX8_tickOnce_363 (by decide) ?_
            refine g_iconst X dX8_tickOnce_365 ?_
            refine h_iast (a := 6) (j := 6) X rfl FM (by decide) (show fkX 8 5 = (1, 101) from rfl) (by decide) (by omega) (by omega) dX8_tickOnce_366 ?_
            obtain ⟨w_6, ew_6⟩ : ∃ q_ : Wd, q_ = up w_5 20 5 6 0 := ⟨_, rfl⟩
            refine g_w (w' := w_6) ew_6 ?_
            exact g_vret X rfl dX8_tickOnce_367 (by
                first
                | (have e : tailX pl vv = u1X vv := (by unfold tailX suX; rw [if_neg (by omega), if_pos (by omega), if_pos (by unfold whoX; first | rw [if_neg (by omega)] | (rw [if_pos (by omega)]; omega))])
                   exact ⟨z_9, hpw, (by rw [hps, e]; exact hR1), (by rw [hps, e]; exact hU1), (fun o f h => by rw [ew_6, ew_5, up_fn (fun z => h ⟨z.1, Or.inl z.2⟩), up_fn (fun z => h ⟨z.1, Or.inl z.2⟩)]; exact hfr5 o f h), (by unfold TbC; rw [ew_6, ew_5, up_fn (by decide), up_fn (by decide), up_fn (by decide), up_fn (by decide), up_fn (by decide), up_fn (by decide)]; exact hC1)⟩)
                | (have e : tailX pl vv = fu (fu vv 2 0 0) 3 0 0 := (by unfold tailX sdX; rw [if_neg (by omega), if_neg (by omega), if_pos (by first | exact Or.inl (by omega) | exact Or.inr (by rw [hcl]; omega))])
                   exact ⟨z_9, hpw, (by rw [hps, e, ew_6, ew_5, up_row, up_row]; exact rs_f3 (rs_f2 hRk _) _), (by rw [hps, e]; exact su_f3 (su_f2 hUk _) _), (fun o f h => by rw [ew_6, ew_5, up_fn (fun z => h ⟨z.1, Or.inl z.2⟩), up_fn (fun z => h ⟨z.1, Or.inl z.2⟩)]; exact hfr5 o f h), (by unfold TbC; rw [ew_6, ew_5]; simp only [tu10, tu11, tu12, ta10, ta11, ta12]; exact hC1)⟩)
                | (have e : tailX pl vv = fu (fu vv 2 0 0) 3 0 (vv 3 0 + 1) := (by unfold tailX sdX; rw [if_neg (by omega), if_neg (by omega), if_neg (by rw [hcl]; omega), if_neg (by omega)])
                   exact ⟨z_9, hpw, (by rw [hps, e, fu_comm, ew_6, ew_5, up_row, up_row, d6]; exact rs_f2 (rs_f3 hRk _) _), (by rw [hps, e]; exact su_f3 (su_f2 hUk _) _), (fun o f h => by rw [ew_6, ew_5, up_fn (fun z => h ⟨z.1, Or.inl z.2⟩), up_fn (fun z => h ⟨z.1, Or.inl z.2⟩)]; exact hfr5 o f h), (by unfold TbC; rw [ew_6, ew_5]; simp only [tu10, tu11, tu12, ta10, ta11, ta12]; exact hC1)⟩)
                | (have e : tailX pl vv = fu (spX (fu (fu vv 2 0 0) 3 0 (vv 3 0 + 1)) (npX pl vv (pl 0 0).toNat)) 3 0 0 := (by unfold tailX sdX; rw [if_neg (by omega), if_neg (by omega), if_neg (by rw [hcl]; omega), if_pos (by omega)])
                   have hR2 : RS (fu (fu vv 2 0 0) 3 0 (vv 3 0 + 1)) (fup (fup (w1 20 5) 6 (vv 3 0 + 1)) 5 0) := (by rw [fu_comm]; exact rs_f2 (rs_f3 hRk _) _)
                   have hsp := sp_ok (pl := pl) hSv (su_f3 (su_f2 hUk 0) (vv 3 0 + 1)) hR2 (by omega) (by omega) (by omega) (np_on pl vv _ c_271)
                   rw [v1] at hsp
                   exact ⟨z_9, hpw, (by rw [hps, e, ew_6, ew_5, up_row, upA_at, up_row, up_row, d6]; exact rs_f3 hsp.1 _), (by rw [hps, e]; exact su_f3 hsp.2 _), (fun o f h => by rw [ew_6, ew_5, up_fn (fun z => h ⟨z.1, Or.inl z.2⟩), upA_ne (fun z => h ⟨z.1, Or.inl z.2⟩), up_fn (fun z => h ⟨z.1, Or.inl z.2⟩), up_fn (fun z => h ⟨z.1, Or.inl z.2⟩)]; exact hfr5 o f h), (by unfold TbC; rw [ew_6, ew_5]; simp only [tu10, tu11, tu12, ta10, ta11, ta12]; exact hC1)⟩)
                | (have e : tailX pl vv = fu (stX (u1X vv) (nsX pl (u1X vv) (pl 0 0).toNat)) 2 0 0 := (by
                     have hwho : whoX pl (u1X vv) = nsX pl (u1X vv) (pl 0 0).toNat := (by unfold whoX; rw [if_pos (by omega)])
                     unfold tailX suX
                     rw [if_neg (by omega), if_pos (by omega), hwho, if_neg (by omega)])
                   have hst := st_ok hS1 hU1 hR1 (by omega) (by unfold u1X; rw [fu_ne (by decide), fu_ne (by decide)]; exact hl0) (by omega)
                   rw [e11, v1] at hst
                   exact ⟨z_9, hpw, (by rw [hps, e, ew_6, up_row, hwS, upA_at]; exact rs_f2 hst.1 _), (by rw [hps, e]; exact su_f2 hst.2 _), (fun o f h => by rw [ew_6, ew_5, up_fn (fun z => h ⟨z.1, Or.inl z.2⟩), upA_ne (fun z => h ⟨z.1, Or.inl z.2⟩), up_fn (fun z => h ⟨z.1, Or.inl z.2⟩), up_fn (fun z => h ⟨z.1, Or.inl z.2⟩)]; exact hfr5 o f h), (by unfold TbC; rw [ew_6, ew_5]; simp only [tu10, tu11, tu12, ta10, ta11, ta12]; exact hC1)⟩))
          · skip
            refine g_aload_n X dX8_tickOnce_299 rfl 3 rfl ?_
            refine g_geta X ck_X8 FM 5 (by decide) fl_X8_19 rfl dX8_tickOnce_300 ?_
            refine g_bipush X dX8_tickOnce_303 (by decide) ?_
            refine g_dup2 X dX8_tickOnce_305 rfl rfl ?_
            refine h_iald (a := 6) (j := 6) X rfl FM (by decide) (show fkX 8 5 = (1, 101) from rfl) (by decide) (by omega) (by omega) dX8_tickOnce_306 ?_
            refine g_iconst X dX8_tickOnce_307 ?_
            refine g_iadd X dX8_tickOnce_308 ?_
            refine h_iast (a := 6) (j := 6) X rfl FM (by decide) (show fkX 8 5 = (1, 101) from rfl) (by decide) (by omega) (by omega) dX8_tickOnce_309 ?_
            obtain ⟨w_7, ew_7⟩ : ∃ q_ : Wd, q_ = up w1 20 5 6 ((w1 20 5 6) + 1) := ⟨_, rfl⟩
            refine g_w (w' := w_7) ew_7 ?_
            refine g_aload_n X dX8_tickOnce_310 rfl 3 rfl ?_
            refine g_geta X ck_X8 FM 5 (by decide) fl_X8_19 rfl dX8_tickOnce_311 ?_
            refine g_iconst X dX8_tickOnce_314 ?_
            refine g_iconst X dX8_tickOnce_315 ?_
            refine h_iast (a := 5) (j := 5) X rfl FM (by decide) (show fkX 8 5 = (1, 101) from rfl) (by decide) (by omega) (by omega) dX8_tickOnce_316 ?_
            obtain ⟨w_8, ew_8⟩ : ∃ q_ : Wd, q_ = up w_7 20 5 5 0 := ⟨_, rfl⟩
            refine g_w (w' := w_8) ew_8 ?_
            refine g_aload_n X dX8_tickOnce_317 rfl 3 rfl ?_
            refine g_geta X ck_X8 FM 5 (by decide) fl_X8_19 rfl dX8_tickOnce_318 ?_
            refine g_bipush X dX8_tickOnce_321 (by decide) ?_
            refine h_iald (a := 6) (j := 6) X rfl FM (by decide) (show fkX 8 5 = (1, 101) from rfl) (by decide) (by omega) (by omega) dX8_tickOnce_323 ?_
            rw [show (w_8 20 5 6 : Int) = vv 3 0 + 1 from (by rw [ew_8, ew_7, up_ne (by decide), up_at, d6])]
            refine g_aload_n X dX8_tickOnce_324 rfl 3 rfl ?_
            refine g_geta X ck_X8 FM 4 (by decide) fl_X8_16 rfl dX8_tickOnce_325 ?_
            refine g_bipush X dX8_tickOnce_328 (by decide) ?_
            refine h_iald (a := 43) (j := 43) X rfl FM (by decide) (show fkX 8 4 = (1, 44) from rfl) (by decide) (by omega) (by omega) dX8_tickOnce_330 ?_
            rw [show (w_8 20 4 43 : Int) = pl 13 0 from (by rw [ew_8, ew_7, up_fn (by decide), up_fn (by decide)]; exact t43)]
            refine g_icmp_le (tgt := 367) X dX8_tickOnce_331 (by decide) (by unfold InR; omega) (by unfold InR; omega) (fun c_331 => ?_) (fun c_331 => ?_)
            · skip
              exact g_vret X rfl dX8_tickOnce_367 (by
                  first
                  | (have e : tailX pl vv = u1X vv := (by unfold tailX suX; rw [if_neg (by omega), if_pos (by omega), if_pos (by unfold whoX; first | rw [if_neg (by omega)] | (rw [if_pos (by omega)]; omega))])
                     exact ⟨z_9, hpw, (by rw [hps, e]; exact hR1), (by rw [hps, e]; exact hU1), (fun o f h => by rw [ew_8, ew_7, up_fn (fun z => h ⟨z.1, Or.inl z.2⟩), up_fn (fun z => h ⟨z.1, Or.inl z.2⟩)]; exact hfr5 o f h), (by unfold TbC; rw [ew_8, ew_7, up_fn (by decide), up_fn (by decide), up_fn (by decide), up_fn (by decide), up_fn (by decide), up_fn (by decide)]; exact hC1)⟩)
                  | (have e : tailX pl vv = fu (fu vv 2 0 0) 3 0 0 := (by unfold tailX sdX; rw [if_neg (by omega), if_neg (by omega), if_pos (by first | exact Or.inl (by omega) | exact Or.inr (by rw [hcl]; omega))])
                     exact ⟨z_9, hpw, (by rw [hps, e, ew_8, ew_7, up_row, up_row]; exact rs_f3 (rs_f2 hRk _) _), (by rw [hps, e]; exact su_f3 (su_f2 hUk _) _), (fun o f h => by rw [ew_8, ew_7, up_fn (fun z => h ⟨z.1, Or.inl z.2⟩), up_fn (fun z => h ⟨z.1, Or.inl z.2⟩)]; exact hfr5 o f h), (by unfold TbC; rw [ew_8, ew_7]; simp only [tu10, tu11, tu12, ta10, ta11, ta12]; exact hC1)⟩)
                  | (have e : tailX pl vv = fu (fu vv 2 0 0) 3 0 (vv 3 0 + 1) := (by unfold tailX sdX; rw [if_neg (by omega), if_neg (by omega), if_neg (by rw [hcl]; omega), if_neg (by omega)])
                     exact ⟨z_9, hpw, (by rw [hps, e, fu_comm, ew_8, ew_7, up_row, up_row, d6]; exact rs_f2 (rs_f3 hRk _) _), (by rw [hps, e]; exact su_f3 (su_f2 hUk _) _), (fun o f h => by rw [ew_8, ew_7, up_fn (fun z => h ⟨z.1, Or.inl z.2⟩), up_fn (fun z => h ⟨z.1, Or.inl z.2⟩)]; exact hfr5 o f h), (by unfold TbC; rw [ew_8, ew_7]; simp only [tu10, tu11, tu12, ta10, ta11, ta12]; exact hC1)⟩)
                  | (have e : tailX pl vv = fu (spX (fu (fu vv 2 0 0) 3 0 (vv 3 0 + 1)) (npX pl vv (pl 0 0).toNat)) 3 0 0 := (by unfold tailX sdX; rw [if_neg (by omega), if_neg (by omega), if_neg (by rw [hcl]; omega), if_pos (by omega)])
                     have hR2 : RS (fu (fu vv 2 0 0) 3 0 (vv 3 0 + 1)) (fup (fup (w1 20 5) 6 (vv 3 0 + 1)) 5 0) := (by rw [fu_comm]; exact rs_f2 (rs_f3 hRk _) _)
                     have hsp := sp_ok (pl := pl) hSv (su_f3 (su_f2 hUk 0) (vv 3 0 + 1)) hR2 (by omega) (by omega) (by omega) (np_on pl vv _ c_271)
                     rw [v1] at hsp
                     exact ⟨z_9, hpw, (by rw [hps, e, ew_8, ew_7, up_row, upA_at, up_row, up_row, d6]; exact rs_f3 hsp.1 _), (by rw [hps, e]; exact su_f3 hsp.2 _), (fun o f h => by rw [ew_8, ew_7, up_fn (fun z => h ⟨z.1, Or.inl z.2⟩), upA_ne (fun z => h ⟨z.1, Or.inl z.2⟩), up_fn (fun z => h ⟨z.1, Or.inl z.2⟩), up_fn (fun z => h ⟨z.1, Or.inl z.2⟩)]; exact hfr5 o f h), (by unfold TbC; rw [ew_8, ew_7]; simp only [tu10, tu11, tu12, ta10, ta11, ta12]; exact hC1)⟩)
                  | (have e : tailX pl vv = fu (stX (u1X vv) (nsX pl (u1X vv) (pl 0 0).toNat)) 2 0 0 := (by
                       have hwho : whoX pl (u1X vv) = nsX pl (u1X vv) (pl 0 0).toNat := (by unfold whoX; rw [if_pos (by omega)])
                       unfold tailX suX
                       rw [if_neg (by omega), if_pos (by omega), hwho, if_neg (by omega)])
                     have hst := st_ok hS1 hU1 hR1 (by omega) (by unfold u1X; rw [fu_ne (by decide), fu_ne (by decide)]; exact hl0) (by omega)
                     rw [e11, v1] at hst
                     exact ⟨z_9, hpw, (by rw [hps, e, ew_8, up_row, hwS, upA_at]; exact rs_f2 hst.1 _), (by rw [hps, e]; exact su_f2 hst.2 _), (fun o f h => by rw [ew_8, ew_7, up_fn (fun z => h ⟨z.1, Or.inl z.2⟩), upA_ne (fun z => h ⟨z.1, Or.inl z.2⟩), up_fn (fun z => h ⟨z.1, Or.inl z.2⟩), up_fn (fun z => h ⟨z.1, Or.inl z.2⟩)]; exact hfr5 o f h), (by unfold TbC; rw [ew_8, ew_7]; simp only [tu10, tu11, tu12, ta10, ta11, ta12]; exact hC1)⟩))
            · skip
              refine g_aload_n X dX8_tickOnce_334 rfl 3 rfl ?_
              refine g_iload X dX8_tickOnce_335 0 rfl ?_
              refine g_iload_n X dX8_tickOnce_337 rfl 4 rfl ?_
              refine g_callv (st := []) X (c_X8_stop l G (npX pl vv (pl 0 0).toNat) (u 1 0 + 1) w_8 FM (by omega)) cm_X8_stop im_X8_stop se_X8_stop ml_X8_172 ck_X8 FM ⟨Nat.le_of_ble_eq_true rfl, Nat.le_of_ble_eq_true rfl⟩ rfl rfl (Nat.le_of_ble_eq_true rfl) dX8_tickOnce_338 (fn_v ?_)
              obtain ⟨w_9, ew_9⟩ : ∃ q_ : Wd, q_ = upA w_8 20 5 (dsp (w_8 20 5) (npX pl vv (pl 0 0).toNat).toNat (u 1 0 + 1)) := ⟨_, rfl⟩
              refine g_w (w' := w_9) ew_9 ?_
              refine g_aload_n X dX8_tickOnce_341 rfl 3 rfl ?_
              refine g_geta X ck_X8 FM 5 (by decide) fl_X8_19 rfl dX8_tickOnce_342 ?_
              refine g_bipush X dX8_tickOnce_345 (by decide) ?_
              refine g_iconst X dX8_tickOnce_347 ?_
              refine h_iast (a := 6) (j := 6) X rfl FM (by decide) (show fkX 8 5 = (1, 101) from rfl) (by decide) (by omega) (by omega) dX8_tickOnce_348 ?_
              obtain ⟨w_10, ew_10⟩ : ∃ q_ : Wd, q_ = up w_9 20 5 6 0 := ⟨_, rfl⟩
              refine g_w (w' := w_10) ew_10 ?_
              refine g_goto (tgt := 367) X dX8_tickOnce_349 (by decide) ?_
              exact g_vret X rfl dX8_tickOnce_367 (by
                  first
                  | (have e : tailX pl vv = u1X vv := (by unfold tailX suX; rw [if_neg (by omega), if_pos (by omega), if_pos (by unfold whoX; first | rw [if_neg (by omega)] | (rw [if_pos (by omega)]; omega))])
                     exact ⟨z_9, hpw, (by rw [hps, e]; exact hR1), (by rw [hps, e]; exact hU1), (fun o f h => by rw [ew_10, ew_9, ew_8, ew_7, up_fn (fun z => h ⟨z.1, Or.inl z.2⟩), up_fn (fun z => h ⟨z.1, Or.inl z.2⟩)]; exact hfr5 o f h), (by unfold TbC; rw [ew_10, ew_9, ew_8, ew_7, up_fn (by decide), up_fn (by decide), up_fn (by decide), up_fn (by decide), up_fn (by decide), up_fn (by decide)]; exact hC1)⟩)
                  | (have e : tailX pl vv = fu (fu vv 2 0 0) 3 0 0 := (by unfold tailX sdX; rw [if_neg (by omega), if_neg (by omega), if_pos (by first | exact Or.inl (by omega) | exact Or.inr (by rw [hcl]; omega))])
                     exact ⟨z_9, hpw, (by rw [hps, e, ew_10, ew_9, ew_8, ew_7, up_row, up_row]; exact rs_f3 (rs_f2 hRk _) _), (by rw [hps, e]; exact su_f3 (su_f2 hUk _) _), (fun o f h => by rw [ew_10, ew_9, ew_8, ew_7, up_fn (fun z => h ⟨z.1, Or.inl z.2⟩), up_fn (fun z => h ⟨z.1, Or.inl z.2⟩)]; exact hfr5 o f h), (by unfold TbC; rw [ew_10, ew_9, ew_8, ew_7]; simp only [tu10, tu11, tu12, ta10, ta11, ta12]; exact hC1)⟩)
                  | (have e : tailX pl vv = fu (fu vv 2 0 0) 3 0 (vv 3 0 + 1) := (by unfold tailX sdX; rw [if_neg (by omega), if_neg (by omega), if_neg (by rw [hcl]; omega), if_neg (by omega)])
                     exact ⟨z_9, hpw, (by rw [hps, e, fu_comm, ew_10, ew_9, ew_8, ew_7, up_row, up_row, d6]; exact rs_f2 (rs_f3 hRk _) _), (by rw [hps, e]; exact su_f3 (su_f2 hUk _) _), (fun o f h => by rw [ew_10, ew_9, ew_8, ew_7, up_fn (fun z => h ⟨z.1, Or.inl z.2⟩), up_fn (fun z => h ⟨z.1, Or.inl z.2⟩)]; exact hfr5 o f h), (by unfold TbC; rw [ew_10, ew_9, ew_8, ew_7]; simp only [tu10, tu11, tu12, ta10, ta11, ta12]; exact hC1)⟩)
                  | (have e : tailX pl vv = fu (spX (fu (fu vv 2 0 0) 3 0 (vv 3 0 + 1)) (npX pl vv (pl 0 0).toNat)) 3 0 0 := (by unfold tailX sdX; rw [if_neg (by omega), if_neg (by omega), if_neg (by rw [hcl]; omega), if_pos (by omega)])
                     have hR2 : RS (fu (fu vv 2 0 0) 3 0 (vv 3 0 + 1)) (fup (fup (w1 20 5) 6 (vv 3 0 + 1)) 5 0) := (by rw [fu_comm]; exact rs_f2 (rs_f3 hRk _) _)
                     have hsp := sp_ok (pl := pl) hSv (su_f3 (su_f2 hUk 0) (vv 3 0 + 1)) hR2 (by omega) (by omega) (by omega) (np_on pl vv _ c_271)
                     rw [v1] at hsp
                     exact ⟨z_9, hpw, (by rw [hps, e, ew_10, ew_9, ew_8, ew_7, up_row, upA_at, up_row, up_row, d6]; exact rs_f3 hsp.1 _), (by rw [hps, e]; exact su_f3 hsp.2 _), (fun o f h => by rw [ew_10, ew_9, ew_8, ew_7, up_fn (fun z => h ⟨z.1, Or.inl z.2⟩), upA_ne (fun z => h ⟨z.1, Or.inl z.2⟩), up_fn (fun z => h ⟨z.1, Or.inl z.2⟩), up_fn (fun z => h ⟨z.1, Or.inl z.2⟩)]; exact hfr5 o f h), (by unfold TbC; rw [ew_10, ew_9, ew_8, ew_7]; simp only [tu10, tu11, tu12, ta10, ta11, ta12]; exact hC1)⟩)
                  | (have e : tailX pl vv = fu (stX (u1X vv) (nsX pl (u1X vv) (pl 0 0).toNat)) 2 0 0 := (by
                       have hwho : whoX pl (u1X vv) = nsX pl (u1X vv) (pl 0 0).toNat := (by unfold whoX; rw [if_pos (by omega)])
                       unfold tailX suX
                       rw [if_neg (by omega), if_pos (by omega), hwho, if_neg (by omega)])
                     have hst := st_ok hS1 hU1 hR1 (by omega) (by unfold u1X; rw [fu_ne (by decide), fu_ne (by decide)]; exact hl0) (by omega)
                     rw [e11, v1] at hst
                     exact ⟨z_9, hpw, (by rw [hps, e, ew_10, up_row, hwS, upA_at]; exact rs_f2 hst.1 _), (by rw [hps, e]; exact su_f2 hst.2 _), (fun o f h => by rw [ew_10, ew_9, ew_8, ew_7, up_fn (fun z => h ⟨z.1, Or.inl z.2⟩), upA_ne (fun z => h ⟨z.1, Or.inl z.2⟩), up_fn (fun z => h ⟨z.1, Or.inl z.2⟩), up_fn (fun z => h ⟨z.1, Or.inl z.2⟩)]; exact hfr5 o f h), (by unfold TbC; rw [ew_10, ew_9, ew_8, ew_7]; simp only [tu10, tu11, tu12, ta10, ta11, ta12]; exact hC1)⟩))
      · skip
        refine g_aload_n X dX8_tickOnce_202 rfl 3 rfl ?_
        refine g_geta X ck_X8 FM 5 (by decide) fl_X8_19 rfl dX8_tickOnce_203 ?_
        refine g_iconst X dX8_tickOnce_206 ?_
        refine g_dup2 X dX8_tickOnce_207 rfl rfl ?_
        refine h_iald (a := 5) (j := 5) X rfl FM (by decide) (show fkX 8 5 = (1, 101) from rfl) (by decide) (by omega) (by omega) dX8_tickOnce_208 ?_
        refine g_iconst X dX8_tickOnce_209 ?_
        refine g_iadd X dX8_tickOnce_210 ?_
        refine h_iast (a := 5) (j := 5) X rfl FM (by decide) (show fkX 8 5 = (1, 101) from rfl) (by decide) (by omega) (by omega) dX8_tickOnce_211 ?_
        obtain ⟨w_11, ew_11⟩ : ∃ q_ : Wd, q_ = up w1 20 5 5 ((w1 20 5 5) + 1) := ⟨_, rfl⟩
        refine g_w (w' := w_11) ew_11 ?_
        refine g_aload_n X dX8_tickOnce_212 rfl 3 rfl ?_
        refine g_geta X ck_X8 FM 5 (by decide) fl_X8_19 rfl dX8_tickOnce_213 ?_
        refine g_bipush X dX8_tickOnce_216 (by decide) ?_
        refine g_iconst X dX8_tickOnce_218 ?_
        refine h_iast (a := 6) (j := 6) X rfl FM (by decide) (show fkX 8 5 = (1, 101) from rfl) (by decide) (by omega) (by omega) dX8_tickOnce_219 ?_
        obtain ⟨w_12, ew_12⟩ : ∃ q_ : Wd, q_ = up w_11 20 5 6 0 := ⟨_, rfl⟩
        refine g_w (w' := w_12) ew_12 ?_
        have hw5 : w_12 20 5 = fup (fup (w1 20 5) 5 (w1 20 5 5 + 1)) 6 0 := by rw [ew_12, ew_11, up_row, up_row]
        have hw4 : w_12 20 4 = w 20 4 := by rw [ew_12, ew_11, up_fn (by decide), up_fn (by decide)]; exact f4
        have hR1 : RS (u1X vv) (w_12 20 5) := by rw [hw5, d5]; exact rs_f3 (rs_f2 hRk _) _
        have hU1 : SU (pl 0 0) (u1X vv) := su_f3 (su_f2 hUk _) _
        have hS1 : SV (B + 9) (pl 0 0) (u1X vv) := sv_fu3 (sv_fu2 (sv_mono hSv (by omega)) (by omega) (by omega)) (by decide) (by omega)
        have e11 : u1X vv 1 0 = vv 1 0 := by unfold u1X; rw [fu_ne (by decide), fu_ne (by decide)]
        have e12 : u1X vv 2 0 = vv 2 0 + 1 := by unfold u1X; rw [fu_ne (by decide), fu_at]
        have hns := nsX_in pl (u1X vv) (pl 0 0).toNat
        refine g_aload_n X dX8_tickOnce_220 rfl 3 rfl ?_
        refine g_iload_n X dX8_tickOnce_221 rfl 4 rfl ?_
        refine g_calli (st := []) X (c_X8_starter l G (u 1 0 + 1) pl (u1X vv) (B + 9) w_12 FM (by rw [hw4]; exact hT) (by first | assumption | omega | (unfold InR; omega)) (by exact hR1) (by exact hS1) (by exact hU1) (by omega) (by rw [e11]; exact v1.symm)) cm_X8_starter im_X8_starter se_X8_starter ml_X8_169 ck_X8 FM ⟨Nat.le_of_ble_eq_true rfl, Nat.le_of_ble_eq_true rfl⟩ rfl rfl (Nat.le_of_ble_eq_true rfl) dX8_tickOnce_222 (fn_i ?_)
        refine g_istore (lv' := [(5, .int (iI (nsX pl (u1X vv) (pl 0 0).toNat))), (4, .int (iI (npX pl vv (pl 0 0).toNat))), (3, .int (iI (100 * (vv 0 0)))), (2, .int (iI (runX vv))), (0, .ref (gAd G 20)), (1, .int (iI (u 1 0 + 1)))]) X dX8_tickOnce_225 (by decide) rfl ?_
        refine g_aload_n X dX8_tickOnce_227 rfl 4 rfl ?_
        refine g_geta X ck_X8 FM 5 (by decide) fl_X8_19 rfl dX8_tickOnce_228 ?_
        refine g_iconst X dX8_tickOnce_231 ?_
        refine h_iald (a := 5) (j := 5) X rfl FM (by decide) (show fkX 8 5 = (1, 101) from rfl) (by decide) (by omega) (by omega) dX8_tickOnce_232 ?_
        rw [show (w_12 20 5 5 : Int) = vv 2 0 + 1 from (by rw [hR1.2.1.2.1, e12])]
        refine g_aload_n X dX8_tickOnce_233 rfl 4 rfl ?_
        refine g_geta X ck_X8 FM 4 (by decide) fl_X8_16 rfl dX8_tickOnce_234 ?_
        refine g_bipush X dX8_tickOnce_237 (by decide) ?_
        refine h_iald (a := 43) (j := 43) X rfl FM (by decide) (show fkX 8 4 = (1, 44) from rfl) (by decide) (by omega) (by omega) dX8_tickOnce_239 ?_
        rw [show (w_12 20 4 43 : Int) = pl 13 0 from (by rw [hw4]; exact hT.2.2 13 (by decide) (by decide))]
        refine g_icmp_le (tgt := 264) X dX8_tickOnce_240 (by decide) (by unfold InR; omega) (by unfold InR; omega) (fun c_240 => ?_) (fun c_240 => ?_)
        · skip
          refine g_goto (tgt := 367) X dX8_tickOnce_264 (by decide) ?_
          exact g_vret X rfl dX8_tickOnce_367 (by
              first
              | (have e : tailX pl vv = u1X vv := (by unfold tailX suX; rw [if_neg (by omega), if_pos (by omega), if_pos (by unfold whoX; first | rw [if_neg (by omega)] | (rw [if_pos (by omega)]; omega))])
                 exact ⟨z_9, hpw, (by rw [hps, e]; exact hR1), (by rw [hps, e]; exact hU1), (fun o f h => by rw [ew_12, ew_11, up_fn (fun z => h ⟨z.1, Or.inl z.2⟩), up_fn (fun z => h ⟨z.1, Or.inl z.2⟩)]; exact hfr5 o f h), (by unfold TbC; rw [ew_12, ew_11, up_fn (by decide), up_fn (by decide), up_fn (by decide), up_fn (by decide), up_fn (by decide), up_fn (by decide)]; exact hC1)⟩)
              | (have e : tailX pl vv = fu (fu vv 2 0 0) 3 0 0 := (by unfold tailX sdX; rw [if_neg (by omega), if_neg (by omega), if_pos (by first | exact Or.inl (by omega) | exact Or.inr (by rw [hcl]; omega))])
                 exact ⟨z_9, hpw, (by rw [hps, e, ew_12, ew_11, up_row, up_row]; exact rs_f3 (rs_f2 hRk _) _), (by rw [hps, e]; exact su_f3 (su_f2 hUk _) _), (fun o f h => by rw [ew_12, ew_11, up_fn (fun z => h ⟨z.1, Or.inl z.2⟩), up_fn (fun z => h ⟨z.1, Or.inl z.2⟩)]; exact hfr5 o f h), (by unfold TbC; rw [ew_12, ew_11]; simp only [tu10, tu11, tu12, ta10, ta11, ta12]; exact hC1)⟩)
              | (have e : tailX pl vv = fu (fu vv 2 0 0) 3 0 (vv 3 0 + 1) := (by unfold tailX sdX; rw [if_neg (by omega), if_neg (by omega), if_neg (by rw [hcl]; omega), if_neg (by omega)])
                 exact ⟨z_9, hpw, (by rw [hps, e, fu_comm, ew_12, ew_11, up_row, up_row, d6]; exact rs_f2 (rs_f3 hRk _) _), (by rw [hps, e]; exact su_f3 (su_f2 hUk _) _), (fun o f h => by rw [ew_12, ew_11, up_fn (fun z => h ⟨z.1, Or.inl z.2⟩), up_fn (fun z => h ⟨z.1, Or.inl z.2⟩)]; exact hfr5 o f h), (by unfold TbC; rw [ew_12, ew_11]; simp only [tu10, tu11, tu12, ta10, ta11, ta12]; exact hC1)⟩)
              | (have e : tailX pl vv = fu (spX (fu (fu vv 2 0 0) 3 0 (vv 3 0 + 1)) (npX pl vv (pl 0 0).toNat)) 3 0 0 := (by unfold tailX sdX; rw [if_neg (by omega), if_neg (by omega), if_neg (by rw [hcl]; omega), if_pos (by omega)])
                 have hR2 : RS (fu (fu vv 2 0 0) 3 0 (vv 3 0 + 1)) (fup (fup (w1 20 5) 6 (vv 3 0 + 1)) 5 0) := (by rw [fu_comm]; exact rs_f2 (rs_f3 hRk _) _)
                 have hsp := sp_ok (pl := pl) hSv (su_f3 (su_f2 hUk 0) (vv 3 0 + 1)) hR2 (by omega) (by omega) (by omega) (np_on pl vv _ c_271)
                 rw [v1] at hsp
                 exact ⟨z_9, hpw, (by rw [hps, e, ew_12, ew_11, up_row, upA_at, up_row, up_row, d6]; exact rs_f3 hsp.1 _), (by rw [hps, e]; exact su_f3 hsp.2 _), (fun o f h => by rw [ew_12, ew_11, up_fn (fun z => h ⟨z.1, Or.inl z.2⟩), upA_ne (fun z => h ⟨z.1, Or.inl z.2⟩), up_fn (fun z => h ⟨z.1, Or.inl z.2⟩), up_fn (fun z => h ⟨z.1, Or.inl z.2⟩)]; exact hfr5 o f h), (by unfold TbC; rw [ew_12, ew_11]; simp only [tu10, tu11, tu12, ta10, ta11, ta12]; exact hC1)⟩)
              | (have e : tailX pl vv = fu (stX (u1X vv) (nsX pl (u1X vv) (pl 0 0).toNat)) 2 0 0 := (by
                   have hwho : whoX pl (u1X vv) = nsX pl (u1X vv) (pl 0 0).toNat := (by unfold whoX; rw [if_pos (by omega)])
                   unfold tailX suX
                   rw [if_neg (by omega), if_pos (by omega), hwho, if_neg (by omega)])
                 have hst := st_ok hS1 hU1 hR1 (by omega) (by unfold u1X; rw [fu_ne (by decide), fu_ne (by decide)]; exact hl0) (by omega)
                 rw [e11, v1] at hst
                 exact ⟨z_9, hpw, (by rw [hps, e, ew_12, up_row, hwS, upA_at]; exact rs_f2 hst.1 _), (by rw [hps, e]; exact su_f2 hst.2 _), (fun o f h => by rw [ew_12, ew_11, up_fn (fun z => h ⟨z.1, Or.inl z.2⟩), upA_ne (fun z => h ⟨z.1, Or.inl z.2⟩), up_fn (fun z => h ⟨z.1, Or.inl z.2⟩), up_fn (fun z => h ⟨z.1, Or.inl z.2⟩)]; exact hfr5 o f h), (by unfold TbC; rw [ew_12, ew_11]; simp only [tu10, tu11, tu12, ta10, ta11, ta12]; exact hC1)⟩))
        · skip
          refine g_iload X dX8_tickOnce_243 0 rfl ?_
          refine g_bipush X dX8_tickOnce_245 (by decide) ?_
          refine g_icmp_eq (tgt := 264) X dX8_tickOnce_247 (by decide) (by unfold InR; omega) ⟨by decide, by decide⟩ (fun c_247 => ?_) (fun c_247 => ?_)
          · skip
            refine g_goto (tgt := 367) X dX8_tickOnce_264 (by decide) ?_
            exact g_vret X rfl dX8_tickOnce_367 (by
                first
                | (have e : tailX pl vv = u1X vv := (by unfold tailX suX; rw [if_neg (by omega), if_pos (by omega), if_pos (by unfold whoX; first | rw [if_neg (by omega)] | (rw [if_pos (by omega)]; omega))])
                   exact ⟨z_9, hpw, (by rw [hps, e]; exact hR1), (by rw [hps, e]; exact hU1), (fun o f h => by rw [ew_12, ew_11, up_fn (fun z => h ⟨z.1, Or.inl z.2⟩), up_fn (fun z => h ⟨z.1, Or.inl z.2⟩)]; exact hfr5 o f h), (by unfold TbC; rw [ew_12, ew_11, up_fn (by decide), up_fn (by decide), up_fn (by decide), up_fn (by decide), up_fn (by decide), up_fn (by decide)]; exact hC1)⟩)
                | (have e : tailX pl vv = fu (fu vv 2 0 0) 3 0 0 := (by unfold tailX sdX; rw [if_neg (by omega), if_neg (by omega), if_pos (by first | exact Or.inl (by omega) | exact Or.inr (by rw [hcl]; omega))])
                   exact ⟨z_9, hpw, (by rw [hps, e, ew_12, ew_11, up_row, up_row]; exact rs_f3 (rs_f2 hRk _) _), (by rw [hps, e]; exact su_f3 (su_f2 hUk _) _), (fun o f h => by rw [ew_12, ew_11, up_fn (fun z => h ⟨z.1, Or.inl z.2⟩), up_fn (fun z => h ⟨z.1, Or.inl z.2⟩)]; exact hfr5 o f h), (by unfold TbC; rw [ew_12, ew_11]; simp only [tu10, tu11, tu12, ta10, ta11, ta12]; exact hC1)⟩)
                | (have e : tailX pl vv = fu (fu vv 2 0 0) 3 0 (vv 3 0 + 1) := (by unfold tailX sdX; rw [if_neg (by omega), if_neg (by omega), if_neg (by rw [hcl]; omega), if_neg (by omega)])
                   exact ⟨z_9, hpw, (by rw [hps, e, fu_comm, ew_12, ew_11, up_row, up_row, d6]; exact rs_f2 (rs_f3 hRk _) _), (by rw [hps, e]; exact su_f3 (su_f2 hUk _) _), (fun o f h => by rw [ew_12, ew_11, up_fn (fun z => h ⟨z.1, Or.inl z.2⟩), up_fn (fun z => h ⟨z.1, Or.inl z.2⟩)]; exact hfr5 o f h), (by unfold TbC; rw [ew_12, ew_11]; simp only [tu10, tu11, tu12, ta10, ta11, ta12]; exact hC1)⟩)
                | (have e : tailX pl vv = fu (spX (fu (fu vv 2 0 0) 3 0 (vv 3 0 + 1)) (npX pl vv (pl 0 0).toNat)) 3 0 0 := (by unfold tailX sdX; rw [if_neg (by omega), if_neg (by omega), if_neg (by rw [hcl]; omega), if_pos (by omega)])
                   have hR2 : RS (fu (fu vv 2 0 0) 3 0 (vv 3 0 + 1)) (fup (fup (w1 20 5) 6 (vv 3 0 + 1)) 5 0) := (by rw [fu_comm]; exact rs_f2 (rs_f3 hRk _) _)
                   have hsp := sp_ok (pl := pl) hSv (su_f3 (su_f2 hUk 0) (vv 3 0 + 1)) hR2 (by omega) (by omega) (by omega) (np_on pl vv _ c_271)
                   rw [v1] at hsp
                   exact ⟨z_9, hpw, (by rw [hps, e, ew_12, ew_11, up_row, upA_at, up_row, up_row, d6]; exact rs_f3 hsp.1 _), (by rw [hps, e]; exact su_f3 hsp.2 _), (fun o f h => by rw [ew_12, ew_11, up_fn (fun z => h ⟨z.1, Or.inl z.2⟩), upA_ne (fun z => h ⟨z.1, Or.inl z.2⟩), up_fn (fun z => h ⟨z.1, Or.inl z.2⟩), up_fn (fun z => h ⟨z.1, Or.inl z.2⟩)]; exact hfr5 o f h), (by unfold TbC; rw [ew_12, ew_11]; simp only [tu10, tu11, tu12, ta10, ta11, ta12]; exact hC1)⟩)
                | (have e : tailX pl vv = fu (stX (u1X vv) (nsX pl (u1X vv) (pl 0 0).toNat)) 2 0 0 := (by
                     have hwho : whoX pl (u1X vv) = nsX pl (u1X vv) (pl 0 0).toNat := (by unfold whoX; rw [if_pos (by omega)])
                     unfold tailX suX
                     rw [if_neg (by omega), if_pos (by omega), hwho, if_neg (by omega)])
                   have hst := st_ok hS1 hU1 hR1 (by omega) (by unfold u1X; rw [fu_ne (by decide), fu_ne (by decide)]; exact hl0) (by omega)
                   rw [e11, v1] at hst
                   exact ⟨z_9, hpw, (by rw [hps, e, ew_12, up_row, hwS, upA_at]; exact rs_f2 hst.1 _), (by rw [hps, e]; exact su_f2 hst.2 _), (fun o f h => by rw [ew_12, ew_11, up_fn (fun z => h ⟨z.1, Or.inl z.2⟩), upA_ne (fun z => h ⟨z.1, Or.inl z.2⟩), up_fn (fun z => h ⟨z.1, Or.inl z.2⟩), up_fn (fun z => h ⟨z.1, Or.inl z.2⟩)]; exact hfr5 o f h), (by unfold TbC; rw [ew_12, ew_11]; simp only [tu10, tu11, tu12, ta10, ta11, ta12]; exact hC1)⟩))
          · skip
            refine g_aload_n X dX8_tickOnce_250 rfl 4 rfl ?_
            refine g_iload X dX8_tickOnce_251 0 rfl ?_
            refine g_iload_n X dX8_tickOnce_253 rfl 5 rfl ?_
            refine g_callv (st := []) X (c_X8_start l G (nsX pl (u1X vv) (pl 0 0).toNat) (u 1 0 + 1) w_12 FM (by omega)) cm_X8_start im_X8_start se_X8_start ml_X8_163 ck_X8 FM ⟨Nat.le_of_ble_eq_true rfl, Nat.le_of_ble_eq_true rfl⟩ rfl rfl (Nat.le_of_ble_eq_true rfl) dX8_tickOnce_254 (fn_v ?_)
            obtain ⟨w_13, ew_13⟩ : ∃ q_ : Wd, q_ = upA w_12 20 5 (dst (w_12 20 5) (nsX pl (u1X vv) (pl 0 0).toNat).toNat (u 1 0 + 1)) := ⟨_, rfl⟩
            refine g_w (w' := w_13) ew_13 ?_
            have hwS := ew_13
            refine g_aload_n X dX8_tickOnce_257 rfl 4 rfl ?_
            refine g_geta X ck_X8 FM 5 (by decide) fl_X8_19 rfl dX8_tickOnce_258 ?_
            refine g_iconst X dX8_tickOnce_261 ?_
            refine g_iconst X dX8_tickOnce_262 ?_
            refine h_iast (a := 5) (j := 5) X rfl FM (by decide) (show fkX 8 5 = (1, 101) from rfl) (by decide) (by omega) (by omega) dX8_tickOnce_263 ?_
            obtain ⟨w_14, ew_14⟩ : ∃ q_ : Wd, q_ = up w_13 20 5 5 0 := ⟨_, rfl⟩
            refine g_w (w' := w_14) ew_14 ?_
            refine g_goto (tgt := 367) X dX8_tickOnce_264 (by decide) ?_
            exact g_vret X rfl dX8_tickOnce_367 (by
                first
                | (have e : tailX pl vv = u1X vv := (by unfold tailX suX; rw [if_neg (by omega), if_pos (by omega), if_pos (by unfold whoX; first | rw [if_neg (by omega)] | (rw [if_pos (by omega)]; omega))])
                   exact ⟨z_9, hpw, (by rw [hps, e]; exact hR1), (by rw [hps, e]; exact hU1), (fun o f h => by rw [ew_14, ew_13, ew_12, ew_11, up_fn (fun z => h ⟨z.1, Or.inl z.2⟩), up_fn (fun z => h ⟨z.1, Or.inl z.2⟩)]; exact hfr5 o f h), (by unfold TbC; rw [ew_14, ew_13, ew_12, ew_11, up_fn (by decide), up_fn (by decide), up_fn (by decide), up_fn (by decide), up_fn (by decide), up_fn (by decide)]; exact hC1)⟩)
                | (have e : tailX pl vv = fu (fu vv 2 0 0) 3 0 0 := (by unfold tailX sdX; rw [if_neg (by omega), if_neg (by omega), if_pos (by first | exact Or.inl (by omega) | exact Or.inr (by rw [hcl]; omega))])
                   exact ⟨z_9, hpw, (by rw [hps, e, ew_14, ew_13, ew_12, ew_11, up_row, up_row]; exact rs_f3 (rs_f2 hRk _) _), (by rw [hps, e]; exact su_f3 (su_f2 hUk _) _), (fun o f h => by rw [ew_14, ew_13, ew_12, ew_11, up_fn (fun z => h ⟨z.1, Or.inl z.2⟩), up_fn (fun z => h ⟨z.1, Or.inl z.2⟩)]; exact hfr5 o f h), (by unfold TbC; rw [ew_14, ew_13, ew_12, ew_11]; simp only [tu10, tu11, tu12, ta10, ta11, ta12]; exact hC1)⟩)
                | (have e : tailX pl vv = fu (fu vv 2 0 0) 3 0 (vv 3 0 + 1) := (by unfold tailX sdX; rw [if_neg (by omega), if_neg (by omega), if_neg (by rw [hcl]; omega), if_neg (by omega)])
                   exact ⟨z_9, hpw, (by rw [hps, e, fu_comm, ew_14, ew_13, ew_12, ew_11, up_row, up_row, d6]; exact rs_f2 (rs_f3 hRk _) _), (by rw [hps, e]; exact su_f3 (su_f2 hUk _) _), (fun o f h => by rw [ew_14, ew_13, ew_12, ew_11, up_fn (fun z => h ⟨z.1, Or.inl z.2⟩), up_fn (fun z => h ⟨z.1, Or.inl z.2⟩)]; exact hfr5 o f h), (by unfold TbC; rw [ew_14, ew_13, ew_12, ew_11]; simp only [tu10, tu11, tu12, ta10, ta11, ta12]; exact hC1)⟩)
                | (have e : tailX pl vv = fu (spX (fu (fu vv 2 0 0) 3 0 (vv 3 0 + 1)) (npX pl vv (pl 0 0).toNat)) 3 0 0 := (by unfold tailX sdX; rw [if_neg (by omega), if_neg (by omega), if_neg (by rw [hcl]; omega), if_pos (by omega)])
                   have hR2 : RS (fu (fu vv 2 0 0) 3 0 (vv 3 0 + 1)) (fup (fup (w1 20 5) 6 (vv 3 0 + 1)) 5 0) := (by rw [fu_comm]; exact rs_f2 (rs_f3 hRk _) _)
                   have hsp := sp_ok (pl := pl) hSv (su_f3 (su_f2 hUk 0) (vv 3 0 + 1)) hR2 (by omega) (by omega) (by omega) (np_on pl vv _ c_271)
                   rw [v1] at hsp
                   exact ⟨z_9, hpw, (by rw [hps, e, ew_14, ew_13, ew_12, ew_11, up_row, upA_at, up_row, up_row, d6]; exact rs_f3 hsp.1 _), (by rw [hps, e]; exact su_f3 hsp.2 _), (fun o f h => by rw [ew_14, ew_13, ew_12, ew_11, up_fn (fun z => h ⟨z.1, Or.inl z.2⟩), upA_ne (fun z => h ⟨z.1, Or.inl z.2⟩), up_fn (fun z => h ⟨z.1, Or.inl z.2⟩), up_fn (fun z => h ⟨z.1, Or.inl z.2⟩)]; exact hfr5 o f h), (by unfold TbC; rw [ew_14, ew_13, ew_12, ew_11]; simp only [tu10, tu11, tu12, ta10, ta11, ta12]; exact hC1)⟩)
                | (have e : tailX pl vv = fu (stX (u1X vv) (nsX pl (u1X vv) (pl 0 0).toNat)) 2 0 0 := (by
                     have hwho : whoX pl (u1X vv) = nsX pl (u1X vv) (pl 0 0).toNat := (by unfold whoX; rw [if_pos (by omega)])
                     unfold tailX suX
                     rw [if_neg (by omega), if_pos (by omega), hwho, if_neg (by omega)])
                   have hst := st_ok hS1 hU1 hR1 (by omega) (by unfold u1X; rw [fu_ne (by decide), fu_ne (by decide)]; exact hl0) (by omega)
                   rw [e11, v1] at hst
                   exact ⟨z_9, hpw, (by rw [hps, e, ew_14, up_row, hwS, upA_at]; exact rs_f2 hst.1 _), (by rw [hps, e]; exact su_f2 hst.2 _), (fun o f h => by rw [ew_14, ew_13, ew_12, ew_11, up_fn (fun z => h ⟨z.1, Or.inl z.2⟩), upA_ne (fun z => h ⟨z.1, Or.inl z.2⟩), up_fn (fun z => h ⟨z.1, Or.inl z.2⟩), up_fn (fun z => h ⟨z.1, Or.inl z.2⟩)]; exact hfr5 o f h), (by unfold TbC; rw [ew_14, ew_13, ew_12, ew_11]; simp only [tu10, tu11, tu12, ta10, ta11, ta12]; exact hC1)⟩))
    · skip
      refine g_aload_n X dX8_tickOnce_133 rfl 0 rfl ?_
      refine g_iload_n X dX8_tickOnce_134 rfl 1 rfl ?_
      refine g_calli (st := []) X (c_X8_isGapOver l G (u 1 0 + 1) pl vv (B + 8) w1 FM (by rw [f4]; exact hT) (by first | assumption | omega | (unfold InR; omega)) (by first | assumption | omega | (unfold InR; omega)) (by first | assumption | omega | (unfold InR; omega)) (by first | assumption | omega | (unfold InR; omega)) (by omega) (by omega)) cm_X8_isGapOver im_X8_isGapOver se_X8_isGapOver ml_X8_150 ck_X8 FM ⟨Nat.le_of_ble_eq_true rfl, Nat.le_of_ble_eq_true rfl⟩ rfl rfl (Nat.le_of_ble_eq_true rfl) dX8_tickOnce_135 (fn_i ?_)
      refine g_if_eq (tgt := 160) X dX8_tickOnce_138 (by decide) (by exact in01) (fun c_138 => ?_) (fun c_138 => ?_)
      · skip
        exact g_vret X rfl dX8_tickOnce_160 (by
            rw [d10] at c_130
            rw [← v1] at c_138
            have tc : tailX pl vv = cbX pl vv := by unfold tailX; rw [if_pos (by omega)]
            first
            | (have e : cbX pl vv = vv := (by unfold cbX; rw [if_neg (of_zero c_138)])
               exact ⟨z_9, hpw, by rw [hps, tc, e]; exact hRk, by rw [hps, tc, e]; exact hUk, hfr5, hC1⟩)
            | (have e : cbX pl vv = stX (tkX vv (vv 10 0)) (vv 10 0) := (by unfold cbX; rw [if_pos (of_one c_138)])
               have hcb := cb_ok hSv hUk hRk (by omega) (by omega)
               refine ⟨z_9, hpw, ?_, ?_, fun o f h => ?_, ?_⟩
               rw [hps, tc, e, upA_at, upA_at, ← v1]; exact hcb.1
               rw [hps, tc, e]; exact hcb.2
               rw [upA_ne (fun z => h ⟨z.1, Or.inl z.2⟩), upA_ne (fun z => h ⟨z.1, Or.inl z.2⟩)]; exact hfr5 o f h
               unfold TbC
               rw [upA_ne (by decide), upA_ne (by decide), upA_ne (by decide), upA_ne (by decide), upA_ne (by decide), upA_ne (by decide)]; exact hC1))
      · skip
        refine g_aload_n X dX8_tickOnce_141 rfl 0 rfl ?_
        refine g_geta X ck_X8 FM 5 (by decide) fl_X8_19 rfl dX8_tickOnce_142 ?_
        refine g_bipush X dX8_tickOnce_145 (by decide) ?_
        refine h_iald (a := 11) (j := 11) X rfl FM (by decide) (show fkX 8 5 = (1, 101) from rfl) (by decide) (by omega) (by omega) dX8_tickOnce_147 ?_
        rw [show (w1 20 5 11 : Int) = vv 10 0 from (hRk.2.2.1 0 (by decide) (by rw [d10] at c_130; omega))]
        refine g_istore_n (lv' := [(2, .int (iI (vv 10 0))), (0, .ref (gAd G 20)), (1, .int (iI (u 1 0 + 1)))]) X dX8_tickOnce_148 rfl (by decide) rfl ?_
        refine g_aload_n X dX8_tickOnce_149 rfl 1 rfl ?_
        refine g_iload_n X dX8_tickOnce_150 rfl 0 rfl ?_
        refine g_callv (st := []) X (c_X8_unlist l G (vv 10 0) w1 FM (by rw [d10]; omega) (by rw [d10] at c_130; have := cE 0 (by omega); unfold InR; omega) (by intro j hj; rw [d10] at hj; rw [hRk.2.2.1 j (by omega) hj]; have := cE j hj; unfold InR; omega)) cm_X8_unlist im_X8_unlist se_X8_unlist ml_X8_159 ck_X8 FM ⟨Nat.le_of_ble_eq_true rfl, Nat.le_of_ble_eq_true rfl⟩ rfl rfl (Nat.le_of_ble_eq_true rfl) dX8_tickOnce_151 (fn_v ?_)
        obtain ⟨w_15, ew_15⟩ : ∃ q_ : Wd, q_ = upA w1 20 5 (dun (w1 20 5) (vv 10 0)) := ⟨_, rfl⟩
        refine g_w (w' := w_15) ew_15 ?_
        refine g_aload_n X dX8_tickOnce_154 rfl 1 rfl ?_
        refine g_iload_n X dX8_tickOnce_155 rfl 0 rfl ?_
        refine g_iload_n X dX8_tickOnce_156 rfl 2 rfl ?_
        refine g_callv (st := []) X (c_X8_start l G (vv 10 0) (u 1 0 + 1) w_15 FM (by rw [d10] at c_130; have := cE 0 (by omega); omega)) cm_X8_start im_X8_start se_X8_start ml_X8_163 ck_X8 FM ⟨Nat.le_of_ble_eq_true rfl, Nat.le_of_ble_eq_true rfl⟩ rfl rfl (Nat.le_of_ble_eq_true rfl) dX8_tickOnce_157 (fn_v ?_)
        obtain ⟨w_16, ew_16⟩ : ∃ q_ : Wd, q_ = upA w_15 20 5 (dst (w_15 20 5) (vv 10 0).toNat (u 1 0 + 1)) := ⟨_, rfl⟩
        refine g_w (w' := w_16) ew_16 ?_
        exact g_vret X rfl dX8_tickOnce_160 (by
            rw [d10] at c_130
            rw [← v1] at c_138
            have tc : tailX pl vv = cbX pl vv := by unfold tailX; rw [if_pos (by omega)]
            first
            | (have e : cbX pl vv = vv := (by unfold cbX; rw [if_neg (of_zero c_138)])
               exact ⟨z_9, hpw, by rw [hps, tc, e]; exact hRk, by rw [hps, tc, e]; exact hUk, hfr5, hC1⟩)
            | (have e : cbX pl vv = stX (tkX vv (vv 10 0)) (vv 10 0) := (by unfold cbX; rw [if_pos (of_one c_138)])
               have hcb := cb_ok hSv hUk hRk (by omega) (by omega)
               refine ⟨z_9, hpw, ?_, ?_, fun o f h => ?_, ?_⟩
               rw [hps, tc, e, ew_16, ew_15, upA_at, upA_at, ← v1]; exact hcb.1
               rw [hps, tc, e]; exact hcb.2
               rw [ew_16, ew_15, upA_ne (fun z => h ⟨z.1, Or.inl z.2⟩), upA_ne (fun z => h ⟨z.1, Or.inl z.2⟩)]; exact hfr5 o f h
               unfold TbC
               rw [ew_16, ew_15, upA_ne (by decide), upA_ne (by decide), upA_ne (by decide), upA_ne (by decide), upA_ne (by decide), upA_ne (by decide)]; exact hC1))
  · skip
    obtain ⟨qq, hqq⟩ : ∃ q, q = lpX (tkE u z_9) k.toNat := ⟨_, rfl⟩
    rw [← hqq] at hRk hUk hSk
    have hkN : k.toNat < 6 := by omega
    have qC := hSk.2.2.1
    have qE := hSk.2.2.2.2.1
    have qF := hSk.2.2.2.2.2.1 k.toNat hkN
    have qG := hSk.2.2.2.2.2.2.1
    have qM := hRk.2.2.2 k.toNat hkN
    have qA := hUk.1 k.toNat hkN
    have q6 := tb01 (qq 6 0) k.toNat
    have q7 := tb01 (qq 7 0) k.toNat
    have q1 : qq 1 0 = u 1 0 + 1 := by rw [hqq, (lp_1 _ _).1]; simp [tkE, fu]
    have hqr := (bt_or (s := qq 6 0) (t := qq 7 0) (by omega) (by omega) (by omega) (by omega)).2.2 k.toNat hkN
    have hqr2 : tb (runX qq) k.toNat = max (tb (qq 6 0) k.toNat) (tb (qq 7 0) k.toNat) := hqr
    have kk : ((k.toNat : Nat) : Int) = k := by omega
    refine g_aload_n X dX8_tickOnce_44 rfl 0 rfl ?_
    refine g_cut3 (pc' := 115) (fun (y : Int) (w2 : Wd) (z2 : Int) => [(0, .ref (gAd G 20)), (1, .int (iI (u 1 0 + 1))), (2, .int (iI k))]) (fun (y : Int) (w2 : Wd) (z2 : Int) => [.int (iI y), .int (iI z2), .int (iI (17 + (14 * k))), .ref (gAr G 20 5)]) (fun (y : Int) (w2 : Wd) (z2 : Int) => w2) (fun (y : Int) (w2 : Wd) (z2 : Int) => (w2 = up w1 20 5 (17 + (14 * k) + 1).toNat (w1 20 5 (17 + (14 * k) + 1).toNat + tb (runX qq) k.toNat)) ∧ (z2 = w2 20 5 (17 + 14 * k).toNat) ∧ (y = if tb (hrX qq k 6 0) k.toNat = 1 ∧ 3 ≤ hrX qq k 1 0 - sbX (hrX qq k) k 1 then 1 else 0)) ?_ ?_
    · intro y w2 z2 hI_115
      obtain ⟨hw2, hz2, hy⟩ := hI_115
      try dsimp only
      have hR1 := rs_hr hRk hkN
      have hw5 : w2 20 5 = fup (w1 20 5) (18 + 14 * k.toNat) (w1 20 5 (18 + 14 * k.toNat) + tb (runX qq) k.toNat) := by
        rw [hw2, show (17 + 14 * k + 1).toNat = 18 + 14 * k.toNat by omega, up_row]
      rw [← hw5, kk] at hR1
      have hU1 := su_hr hUk k
      have h6e : hrX qq k 6 = qq 6 := fuf (by decide)
      have h7e : hrX qq k 7 = qq 7 := fuf (by decide)
      have h9e : hrX qq k 9 = qq 9 := fuf (by decide)
      have h10e : hrX qq k 10 = qq 10 := fuf (by decide)
      have hR2 := rs_co hR1 hkN (by rw [h6e]; omega) (by rw [h7e]; omega) (by rw [h6e, h7e]; exact qA)
      have hU2 := su_co hU1 hkN (by rw [h6e]; omega) (by rw [h7e]; omega) (by rw [h9e, h10e]; exact fun j hj => by have := qE j hj; omega)
      rw [kk] at hR2 hU2
      refine g_iadd X dX8_tickOnce_115 ?_
      refine h_iast (a := 17 + (14 * k)) (j := (17 + (14 * k)).toNat) X rfl FM (by decide) (show fkX 8 5 = (1, 101) from rfl) (by decide) (by omega) (by omega) dX8_tickOnce_116 ?_
      obtain ⟨w_17, ew_17⟩ : ∃ q_ : Wd, q_ = up w2 20 5 (17 + (14 * k)).toNat (z2 + y) := ⟨_, rfl⟩
      refine g_w (w' := w_17) ew_17 ?_
      refine g_iinc (j := 2) (lv' := [(2, .int (iI (k + 1))), (0, .ref (gAd G 20)), (1, .int (iI (u 1 0 + 1)))]) X dX8_tickOnce_117 rfl (by decide) rfl ?_
      refine g_goto (tgt := 33) X dX8_tickOnce_120 (by decide) ?_
      refine g_lv (lv' := [(0, .ref (gAd G 20)), (1, .int (iI (u 1 0 + 1))), (2, .int (iI (k + 1)))]) [1, 2, 0] rfl ?_
      exact ih_33 (k + 1) w_17 ⟨(by first | omega | rfl | assumption), (by first | omega | rfl | assumption), (by
          rw [show (k + 1).toNat = k.toNat + 1 by omega]
          show RS (coX (hrX (lpX (tkE u z_9) k.toNat) ((k.toNat : Nat) : Int)) ((k.toNat : Nat) : Int)) _
          rw [kk, ← hqq, ew_17, show (17 + 14 * k).toNat = 17 + 14 * k.toNat by omega, up_row, hz2, show (17 + 14 * k).toNat = 17 + 14 * k.toNat by omega, hy]
          exact hR2), (by
          rw [show (k + 1).toNat = k.toNat + 1 by omega]
          show SU _ (coX (hrX (lpX (tkE u z_9) k.toNat) ((k.toNat : Nat) : Int)) ((k.toNat : Nat) : Int))
          rw [kk, ← hqq]
          exact hU2), (by intro o f h; rw [ew_17, up_fn h, hw2, up_fn h]; exact hf o f h)⟩ (by omega)
    · intro J_115
      try dsimp only at J_115
      refine g_cut1 (pc' := 73) (fun (x : Int) => [(0, .ref (gAd G 20)), (1, .int (iI (u 1 0 + 1))), (2, .int (iI k))]) (fun (x : Int) => [.int (iI x), .int (iI (w1 20 5 (17 + (14 * k) + 1).toNat)), .int (iI (17 + (14 * k) + 1)), .ref (gAr G 20 5)]) (fun (x : Int) => w1) (fun (x : Int) => (x = tb (runX qq) k.toNat)) ?_ ?_
      · intro x hI_73
        have hx := hI_73
        try dsimp only at hx ⊢
        refine g_iadd X dX8_tickOnce_73 ?_
        refine h_iast (a := 17 + (14 * k) + 1) (j := (17 + (14 * k) + 1).toNat) X rfl FM (by decide) (show fkX 8 5 = (1, 101) from rfl) (by decide) (by omega) (by omega) dX8_tickOnce_74 ?_
        obtain ⟨w_18, ew_18⟩ : ∃ q_ : Wd, q_ = up w1 20 5 (17 + (14 * k) + 1).toNat ((w1 20 5 (17 + (14 * k) + 1).toNat) + x) := ⟨_, rfl⟩
        refine g_w (w' := w_18) ew_18 ?_
        refine g_aload_n X dX8_tickOnce_75 rfl 0 rfl ?_
        refine g_geta X ck_X8 FM 5 (by decide) fl_X8_19 rfl dX8_tickOnce_76 ?_
        refine g_bipush X dX8_tickOnce_79 (by decide) ?_
        refine g_bipush X dX8_tickOnce_81 (by decide) ?_
        refine g_iload_n X dX8_tickOnce_83 rfl 2 rfl ?_
        refine g_imul X dX8_tickOnce_84 ?_
        refine g_iadd X dX8_tickOnce_85 ?_
        refine g_dup2 X dX8_tickOnce_86 rfl rfl ?_
        refine h_iald (a := 17 + (14 * k)) (j := (17 + (14 * k)).toNat) X rfl FM (by decide) (show fkX 8 5 = (1, 101) from rfl) (by decide) (by omega) (by omega) dX8_tickOnce_87 ?_
        refine g_aload_n X dX8_tickOnce_88 rfl 0 rfl ?_
        refine g_iload_n X dX8_tickOnce_89 rfl 2 rfl ?_
        refine g_iconst X dX8_tickOnce_90 ?_
        refine g_calli (st := [.int (iI (w_18 20 5 (17 + (14 * k)).toNat)), .int (iI (17 + (14 * k))), .ref (gAr G 20 5)]) X (c_X8_own l G k 0 w_18 FM (by first | assumption | omega | (unfold InR; omega)) (by first | assumption | omega | (unfold InR; omega))) cm_X8_own im_X8_own se_X8_own ml_X8_122 ck_X8 FM ⟨Nat.le_of_ble_eq_true rfl, Nat.le_of_ble_eq_true rfl⟩ rfl rfl (Nat.le_of_ble_eq_true rfl) dX8_tickOnce_91 (fn_i ?_)
        rw [show (w_18 20 5 (17 + 14 * k + 0).toNat : Int) = tb (qq 6 0) k.toNat + 2 * tb (qq 7 0) k.toNat from (by rw [ew_18, show (17 + 14 * k + 0).toNat = 17 + 14 * k.toNat by omega, up_ne (by omega)]; exact qM.1)]
        refine g_iconst X dX8_tickOnce_94 ?_
        refine g_icmp_ne (tgt := 114) X dX8_tickOnce_95 (by decide) (by unfold InR; omega) ⟨by decide, by decide⟩ (fun c_95 => ?_) (fun c_95 => ?_)
        · skip
          refine g_iconst X dX8_tickOnce_114 ?_
          refine g_lv (lv' := [(0, .ref (gAd G 20)), (1, .int (iI (u 1 0 + 1))), (2, .int (iI k))]) [0, 1, 2] rfl ?_
          exact J_115 0 w_18 (w_18 20 5 (17 + (14 * k)).toNat) ⟨(by rw [ew_18, hx]), (by rfl), (by
              have qs := sb_in (u := qq) (k := k) (by omega) (by omega) qG
              have qn := nev_in (qM.2.2.2.2.2 0 (by decide))
              rw [kk] at qn
              have qn2 : sbX qq k 1 = w1 20 5 (22 + 14 * k.toNat) ∨ (sbX qq k 1 = -100000 ∧ w1 20 5 (22 + 14 * k.toNat) = -1000) := qn
              have e1 : hrX qq k 6 0 = qq 6 0 := by rw [show hrX qq k 6 = qq 6 from fuf (by decide)]
              have e2 : hrX qq k 1 0 = qq 1 0 := by rw [show hrX qq k 1 = qq 1 from fuf (by decide)]
              have e3 : sbX (hrX qq k) k 1 = sbX qq k 1 := by unfold sbX; rw [show hrX qq k 12 = qq 12 from fuf (by decide), show hrX qq k 13 = qq 13 from fuf (by decide)]
              rw [e1, e2, e3]
              first
              | rw [if_pos ⟨by omega, by omega⟩]
              | rw [if_neg (fun h => by omega)])⟩
        · skip
          refine g_iload_n X dX8_tickOnce_98 rfl 1 rfl ?_
          refine g_aload_n X dX8_tickOnce_99 rfl 0 rfl ?_
          refine g_iload_n X dX8_tickOnce_100 rfl 2 rfl ?_
          refine g_iconst X dX8_tickOnce_101 ?_
          refine g_calli (st := [.int (iI (u 1 0 + 1)), .int (iI (w_18 20 5 (17 + (14 * k)).toNat)), .int (iI (17 + (14 * k))), .ref (gAr G 20 5)]) X (c_X8_own l G k 5 w_18 FM (by first | assumption | omega | (unfold InR; omega)) (by first | assumption | omega | (unfold InR; omega))) cm_X8_own im_X8_own se_X8_own ml_X8_122 ck_X8 FM ⟨Nat.le_of_ble_eq_true rfl, Nat.le_of_ble_eq_true rfl⟩ rfl rfl (Nat.le_of_ble_eq_true rfl) dX8_tickOnce_102 (fn_i ?_)
          rw [show (w_18 20 5 (17 + 14 * k + 5).toNat : Int) = w1 20 5 (22 + 14 * k.toNat) from (by rw [ew_18, up_ne (by omega)]; congr 1; omega)]
          refine g_isub X dX8_tickOnce_105 ?_
          refine g_iconst X dX8_tickOnce_106 ?_
          refine g_icmp_lt (tgt := 114) X dX8_tickOnce_107 (by decide) (by have qs := sb_in (u := qq) (k := k) (by omega) (by omega) qG; have qn := nev_in (qM.2.2.2.2.2 0 (by decide)); rw [kk] at qn; have qn2 : sbX qq k 1 = w1 20 5 (22 + 14 * k.toNat) ∨ (sbX qq k 1 = -100000 ∧ w1 20 5 (22 + 14 * k.toNat) = -1000) := qn; unfold InR; omega) ⟨by decide, by decide⟩ (fun c_107 => ?_) (fun c_107 => ?_)
          · skip
            refine g_iconst X dX8_tickOnce_114 ?_
            refine g_lv (lv' := [(0, .ref (gAd G 20)), (1, .int (iI (u 1 0 + 1))), (2, .int (iI k))]) [0, 1, 2] rfl ?_
            exact J_115 0 w_18 (w_18 20 5 (17 + (14 * k)).toNat) ⟨(by rw [ew_18, hx]), (by rfl), (by
                have qs := sb_in (u := qq) (k := k) (by omega) (by omega) qG
                have qn := nev_in (qM.2.2.2.2.2 0 (by decide))
                rw [kk] at qn
                have qn2 : sbX qq k 1 = w1 20 5 (22 + 14 * k.toNat) ∨ (sbX qq k 1 = -100000 ∧ w1 20 5 (22 + 14 * k.toNat) = -1000) := qn
                have e1 : hrX qq k 6 0 = qq 6 0 := by rw [show hrX qq k 6 = qq 6 from fuf (by decide)]
                have e2 : hrX qq k 1 0 = qq 1 0 := by rw [show hrX qq k 1 = qq 1 from fuf (by decide)]
                have e3 : sbX (hrX qq k) k 1 = sbX qq k 1 := by unfold sbX; rw [show hrX qq k 12 = qq 12 from fuf (by decide), show hrX qq k 13 = qq 13 from fuf (by decide)]
                rw [e1, e2, e3]
                first
                | rw [if_pos ⟨by omega, by omega⟩]
                | rw [if_neg (fun h => by omega)])⟩
          · skip
            refine g_iconst X dX8_tickOnce_110 ?_
            refine g_goto (tgt := 115) X dX8_tickOnce_111 (by decide) ?_
            refine g_lv (lv' := [(0, .ref (gAd G 20)), (1, .int (iI (u 1 0 + 1))), (2, .int (iI k))]) [0, 1, 2] rfl ?_
            exact J_115 1 w_18 (w_18 20 5 (17 + (14 * k)).toNat) ⟨(by rw [ew_18, hx]), (by rfl), (by
                have qs := sb_in (u := qq) (k := k) (by omega) (by omega) qG
                have qn := nev_in (qM.2.2.2.2.2 0 (by decide))
                rw [kk] at qn
                have qn2 : sbX qq k 1 = w1 20 5 (22 + 14 * k.toNat) ∨ (sbX qq k 1 = -100000 ∧ w1 20 5 (22 + 14 * k.toNat) = -1000) := qn
                have e1 : hrX qq k 6 0 = qq 6 0 := by rw [show hrX qq k 6 = qq 6 from fuf (by decide)]
                have e2 : hrX qq k 1 0 = qq 1 0 := by rw [show hrX qq k 1 = qq 1 from fuf (by decide)]
                have e3 : sbX (hrX qq k) k 1 = sbX qq k 1 := by unfold sbX; rw [show hrX qq k 12 = qq 12 from fuf (by decide), show hrX qq k 13 = qq 13 from fuf (by decide)]
                rw [e1, e2, e3]
                first
                | rw [if_pos ⟨by omega, by omega⟩]
                | rw [if_neg (fun h => by omega)])⟩
      · intro J_73
        try dsimp only at J_73
        refine g_geta X ck_X8 FM 5 (by decide) fl_X8_19 rfl dX8_tickOnce_45 ?_
        refine g_bipush X dX8_tickOnce_48 (by decide) ?_
        refine g_bipush X dX8_tickOnce_50 (by decide) ?_
        refine g_iload_n X dX8_tickOnce_52 rfl 2 rfl ?_
        refine g_imul X dX8_tickOnce_53 ?_
        refine g_iadd X dX8_tickOnce_54 ?_
        refine g_iconst X dX8_tickOnce_55 ?_
        refine g_iadd X dX8_tickOnce_56 ?_
        refine g_dup2 X dX8_tickOnce_57 rfl rfl ?_
        refine h_iald (a := (17 + (14 * k)) + 1) (j := ((17 + (14 * k)) + 1).toNat) X rfl FM (by decide) (show fkX 8 5 = (1, 101) from rfl) (by decide) (by omega) (by omega) dX8_tickOnce_58 ?_
        refine g_aload_n X dX8_tickOnce_59 rfl 0 rfl ?_
        refine g_iload_n X dX8_tickOnce_60 rfl 2 rfl ?_
        refine g_iconst X dX8_tickOnce_61 ?_
        refine g_calli (st := [.int (iI (w1 20 5 ((17 + (14 * k)) + 1).toNat)), .int (iI ((17 + (14 * k)) + 1)), .ref (gAr G 20 5)]) X (c_X8_own l G k 0 w1 FM (by first | assumption | omega | (unfold InR; omega)) (by first | assumption | omega | (unfold InR; omega))) cm_X8_own im_X8_own se_X8_own ml_X8_122 ck_X8 FM ⟨Nat.le_of_ble_eq_true rfl, Nat.le_of_ble_eq_true rfl⟩ rfl rfl (Nat.le_of_ble_eq_true rfl) dX8_tickOnce_62 (fn_i ?_)
        rw [show (w1 20 5 (17 + 14 * k + 0).toNat : Int) = tb (qq 6 0) k.toNat + 2 * tb (qq 7 0) k.toNat from (by rw [show (17 + 14 * k + 0).toNat = 17 + 14 * k.toNat by omega]; exact qM.1)]
        refine g_if_le (tgt := 72) X dX8_tickOnce_65 (by decide) (by unfold InR; omega) (fun c_65 => ?_) (fun c_65 => ?_)
        · skip
          refine g_iconst X dX8_tickOnce_72 ?_
          refine g_lv (lv' := [(0, .ref (gAd G 20)), (1, .int (iI (u 1 0 + 1))), (2, .int (iI k))]) [0, 1, 2] rfl ?_
          exact J_73 0 (by omega)
        · skip
          refine g_iconst X dX8_tickOnce_68 ?_
          refine g_goto (tgt := 73) X dX8_tickOnce_69 (by decide) ?_
          refine g_lv (lv' := [(0, .ref (gAd G 20)), (1, .int (iI (u 1 0 + 1))), (2, .int (iI k))]) [0, 1, 2] rfl ?_
          exact J_73 1 (by omega)
