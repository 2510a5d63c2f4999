/-- k ticks go by, from this very state -/
def AheadF (pl : Nat → Nat → Int) (u : Nat → Nat → Int) : Nat → (Nat → Nat → Int) → Int → Prop
  | 0, v, n => v = u ∧ n = 0
  | k + 1, v, n => ∃ q e n0, AheadF pl u k q n0 ∧ PowX pl q e ∧ v = psX pl q e ∧ n = (if madeX pl v < v 0 0 then n0 + 1 else n0)
theorem ahead_f {pl u : Nat → Nat → Int} : ∀ (k : Nat) (q : Nat → Nat → Int) (n : Int), AheadR pl u k q n → ∃ v, (∀ f j, inS f j → v f j = u f j) ∧ AheadF pl v k q n
  | 0, q, n, h => ⟨q, h.1, rfl, h.2⟩
  | k + 1, q, n, ⟨p, e, n0, a, b, c, d⟩ => by
    obtain ⟨v, v1, v2⟩ := ahead_f k p n0 a
    exact ⟨v, v1, p, e, n0, v2, b, c, d⟩
theorem pow_uq {pl u : Nat → Nat → Int} {e e' : Int} (h : PowX pl u e) (h' : PowX pl u e') : e = e' := by
  obtain ⟨v, a, b⟩ := h
  obtain ⟨v', a', b'⟩ := h'
  rw [b, b', best_uq a a']
theorem aheadf_uq {pl u : Nat → Nat → Int} : ∀ (k : Nat) (q q' : Nat → Nat → Int) (n n' : Int), AheadF pl u k q n → AheadF pl u k q' n' → q = q' ∧ n = n'
  | 0, q, q', n, n', h, h' => ⟨h.1.trans h'.1.symm, h.2.trans h'.2.symm⟩
  | k + 1, q, q', n, n', ⟨p, e, n0, a, b, c, d⟩, ⟨p', e', n0', a', b', c', d'⟩ => by
    obtain ⟨e1, e2⟩ := aheadf_uq k p p' n0 n0' a a'
    subst e1
    have e3 := pow_uq b b'
    subst e3
    have e4 : q = q' := c.trans c'.symm
    subst e4
    exact ⟨rfl, by rw [d, d', e2]⟩
theorem tick_uq {pl u : Nat → Nat → Int} : ∀ (k : Nat) (q q' : Nat → Nat → Int), TickR pl u k q → TickR pl u k q' → q = q'
  | 0, q, q', h, h' => by
    have a : q = u := h
    have b : q' = u := h'
    rw [a, b]
  | k + 1, q, q', ⟨p, e, a, b, c⟩, ⟨p', e', a', b', c'⟩ => by
    have e1 := tick_uq k p p' a a'
    subst e1
    have e3 := pow_uq b b'
    subst e3
    exact c.trans c'.symm
theorem rs_D {u : Nat → Nat → Int} {D E : Nat → Int} (h : RS u D) (hE : ∀ j, j < 101 → E j = D j) : RS u E := by
  obtain ⟨a, b, c, d⟩ := h
  refine ⟨fun j hj => by rw [hE j (by omega)]; exact a j hj, ?_, fun j h6 hj => by rw [hE _ (by omega)]; exact c j h6 hj, fun m hm => rm_cg (d m hm) (fun j _ _ => hE j (by omega)) rfl rfl rfl rfl rfl rfl (fun _ _ _ => rfl)⟩
  rw [hE 4 (by decide), hE 5 (by decide), hE 6 (by decide), hE 7 (by decide), hE 8 (by decide), hE 9 (by decide), hE 10 (by decide)]
  exact b
theorem rs_inS {u v : Nat → Nat → Int} {D : Nat → Int} (h : RS u D) (h9 : u 9 0 ≤ 6) (e : ∀ f j, inS f j → v f j = u f j) : RS v D := by
  have e0 : ∀ j, j < 4 → v 0 j = u 0 j := fun j hj => e 0 j (Or.inl ⟨rfl, hj⟩)
  have e1 : ∀ f, 1 ≤ f → f ≤ 9 → v f 0 = u f 0 := fun f a b => e f 0 (Or.inr (Or.inl ⟨a, b, rfl⟩))
  have e2 : ∀ f j, (f = 10 ∨ f = 11 ∨ f = 12 ∨ f = 14) → j < 6 → v f j = u f j := fun f j a b => e f j (Or.inr (Or.inr (Or.inl ⟨a, b⟩)))
  have e3 : ∀ j, j < 54 → v 13 j = u 13 j := fun j hj => e 13 j (Or.inr (Or.inr (Or.inr ⟨rfl, hj⟩)))
  obtain ⟨a, b, c, d⟩ := h
  refine ⟨fun j hj => by rw [e0 j hj]; exact a j hj, ?_, fun j h6 hj => ?_, fun m hm => ?_⟩
  · rw [e1 1 (by decide) (by decide), e1 2 (by decide) (by decide), e1 3 (by decide) (by decide), e1 4 (by decide) (by decide), e1 8 (by decide) (by decide), e1 9 (by decide) (by decide), sumN_congr (f := v 12) (g := u 12) 6 (fun k hk => e2 12 k (by decide) hk)]
    exact b
  · rw [e1 9 (by decide) (by decide)] at hj
    rw [e2 10 j (by decide) h6]
    exact c j h6 hj
  · exact rm_cg (d m hm) (fun _ _ _ => rfl) (by rw [e1 6 (by decide) (by decide)]) (by rw [e1 7 (by decide) (by decide)]) (by rw [e1 5 (by decide) (by decide)]) (e2 11 m (by decide) hm) (e2 12 m (by decide) hm) (e2 14 m (by decide) hm) (fun j j1 j2 => e3 j (by omega))
theorem su_inS {n : Int} {u v : Nat → Nat → Int} (h : SU n u) (h9 : u 9 0 ≤ 6) (e : ∀ f j, inS f j → v f j = u f j) : SU n v := by
  have e1 : ∀ f, 1 ≤ f → f ≤ 9 → v f 0 = u f 0 := fun f a b => e f 0 (Or.inr (Or.inl ⟨a, b, rfl⟩))
  have e2 : ∀ f j, (f = 10 ∨ f = 11 ∨ f = 12 ∨ f = 14) → j < 6 → v f j = u f j := fun f j a b => e f j (Or.inr (Or.inr (Or.inl ⟨a, b⟩)))
  have e3 : ∀ j, j < 54 → v 13 j = u 13 j := fun j hj => e 13 j (Or.inr (Or.inr (Or.inr ⟨rfl, hj⟩)))
  obtain ⟨a, b, c, d, g, p⟩ := h
  have k6 := e1 6 (by decide) (by decide)
  have k7 := e1 7 (by decide) (by decide)
  have k9 := e1 9 (by decide) (by decide)
  refine ⟨by rw [k6, k7]; exact a, fun i j h1 h2 => ?_, fun j hj => ?_, by rw [e1 5 (by decide) (by decide)]; exact d, fun m hm => ?_, by unfold runX; rw [k6, k7, k9]; exact p⟩
  · rw [k9] at h2
    rw [e2 10 i (by decide) (by omega), e2 10 j (by decide) (by omega)]
    exact b i j h1 h2
  · rw [k9] at hj
    rw [e2 10 j (by decide) (by omega), k6, k7]
    exact c j hj
  · have q : ∀ b, sbX v m b = sbX u m b := sb_cg (e2 12 m (by decide) hm) (fun j j1 j2 => e3 j (by omega))
    rw [q, e1 1 (by decide) (by decide)]
    exact ⟨(g m hm).1, fun k k1 k2 => by rw [q, q]; exact (g m hm).2 k k1 k2⟩
set_option maxHeartbeats 4000000 in
set_option maxRecDepth 100000 in
theorem c_X8_ahead (l : Launch) (G : Ly) (n : Int) (what : Int) (pl : Nat → Nat → Int) (u : Nat → Nat → Int) (B : Int) (w : Wd) (FM : gOb G 20 = some 8) (hT : PlR pl (w 20 4)) (hp : PV pl) (hR : RS u (w 20 5)) (hS : SV B (pl 0 0) u) (hU : SU (pl 0 0) u) (hB : B ≤ 99000) (hC : TbC pl (w 20)) (hB1 : B = 9 * u 1 0) (h99 : u 1 0 ≤ 9999) (hr_n : InR n) (hr_what : InR what) : Mi l yX8_ahead cX8_ahead 8 (some .int) 7 172 G [.ref (gAd G 20), .int (iI n), .int (iI what)] w (fun z w2 => (∀ o f, ¬ (o = 20 ∧ (f = 5 ∨ f = 6 ∨ (10 ≤ f ∧ f ≤ 13))) → w2 o f = w o f) ∧ TbC pl (w2 20) ∧ (∀ j, j < 101 → w2 20 5 j = w 20 5 j) ∧ (¬ ((1 ≤ n ∧ n ≤ 60) ∧ 0 ≤ what ∧ what ≤ 3) → z = -1) ∧ (((1 ≤ n ∧ n ≤ 60) ∧ 0 ≤ what ∧ what ≤ 3) → ∃ q n1, AheadF pl u n.toNat q n1 ∧ (what = 0 → z = cnt (runX q)) ∧ (what = 1 → z = sumN (q 12) 6 - sumN (u 12) 6) ∧ (what = 2 → z = q 4 0 - u 4 0) ∧ (what = 3 → z = n1))) := by
  refine mi_of (lv := [(0, .ref (gAd G 20)), (1, .int (iI n)), (2, .int (iI what))]) (by decide) (Nat.le_of_ble_eq_true rfl) rfl ?_
  intro p_ e_ s_ m_ b_ h_ c_ X
  have hp0 := hp.1
  have hp7 := hp.2.2
  have t36 := hT.1
  have sT := hS.1
  have sB := hS.2.1
  have sC := hS.2.2.1
  have sD := hS.2.2.2.1
  have sE := hS.2.2.2.2.1
  have sF := hS.2.2.2.2.2.1
  have sG := hS.2.2.2.2.2.2.1
  have sH := hS.2.2.2.2.2.2.2
  have rT := hR.1
  have rB := hR.2.1
  have rL := hR.2.2.1
  have rM := hR.2.2.2
  have uA := hU.1
  have hrun := bt_or (s := u 6 0) (t := u 7 0) (by omega) (by omega) (by omega) (by omega)
  have r00 : w 20 5 0 = u 0 0 := rT 0 (by decide)
  have r01 : w 20 5 1 = u 0 1 := rT 1 (by decide)
  have r02 : w 20 5 2 = u 0 2 := rT 2 (by decide)
  have r03 : w 20 5 3 = u 0 3 := rT 3 (by decide)
  have r04 : w 20 5 4 = u 1 0 := rB.1
  have hall := bt_all (pl 0 0) (by omega) (by omega)
  have hlf0 : 0 ≤ liftX u ∧ liftX u ≤ 45 := by unfold liftX; omega
  refine g_iload_n X dX8_ahead_0 rfl 1 rfl ?_
  refine g_iconst X dX8_ahead_1 ?_
  refine g_bipush X dX8_ahead_2 (by decide) ?_
  refine g_callsi (st := []) X (c_X8_in l G n 1 60 w (by exact hr_n) (by first | assumption | omega | (unfold InR; omega)) (by first | assumption | omega | (unfold InR; omega))) cm_X8_in sm_X8_in ml_X8_61 ⟨Nat.le_of_ble_eq_true rfl, Nat.le_of_ble_eq_true rfl⟩ rfl rfl (Nat.le_of_ble_eq_true rfl) dX8_ahead_4 (fn_i ?_)
  refine g_if_eq (tgt := 19) X dX8_ahead_7 (by decide) (by exact in01) (fun c_7 => ?_) (fun c_7 => ?_)
  · skip
    refine g_iconst X dX8_ahead_19 ?_
    exact g_iret X rfl rfl dX8_ahead_20 (by
        refine ⟨fun _ _ _ => rfl, hC, fun _ _ => rfl, fun _ => rfl, fun h => absurd h ?_⟩
        first
        | exact fun h => of_zero c_7 h.1
        | exact fun h => of_zero (Classical.not_not.mp c_16) h.2)
  · skip
    refine g_iload_n X dX8_ahead_10 rfl 2 rfl ?_
    refine g_iconst X dX8_ahead_11 ?_
    refine g_iconst X dX8_ahead_12 ?_
    refine g_callsi (st := []) X (c_X8_in l G what 0 3 w (by exact hr_what) (by first | assumption | omega | (unfold InR; omega)) (by first | assumption | omega | (unfold InR; omega))) cm_X8_in sm_X8_in ml_X8_61 ⟨Nat.le_of_ble_eq_true rfl, Nat.le_of_ble_eq_true rfl⟩ rfl rfl (Nat.le_of_ble_eq_true rfl) dX8_ahead_13 (fn_i ?_)
    refine g_if_ne (tgt := 21) X dX8_ahead_16 (by decide) (by exact in01) (fun c_16 => ?_) (fun c_16 => ?_)
    · skip
      refine g_iconst X dX8_ahead_21 ?_
      refine g_istore_n (lv' := [(3, .int (iI 0)), (0, .ref (gAd G 20)), (1, .int (iI n)), (2, .int (iI what))]) X dX8_ahead_22 rfl (by decide) rfl ?_
      refine g_lv (lv' := [(0, .ref (gAd G 20)), (1, .int (iI n)), (2, .int (iI what)), (3, .int (iI 0))]) [1, 2, 3, 0] rfl ?_
      refine g_loop2 (fun (k : Int) (w1 : Wd) => [(0, .ref (gAd G 20)), (1, .int (iI n)), (2, .int (iI what)), (3, .int (iI k))]) (fun (k : Int) (w1 : Wd) => w1) (fun (k : Int) (w1 : Wd) => (0 ≤ k) ∧ (k ≤ 101) ∧ (∀ o f, ¬ (o = 20 ∧ f = 6) → w1 o f = w o f) ∧ (∀ j : Nat, (j : Int) < k → w1 20 6 j = w 20 5 j)) (fun (k : Int) (w1 : Wd) => (101 - k).toNat) 0 w ⟨(by first | omega | rfl | assumption), (by first | omega | rfl | assumption), (by intro _ _ _; rfl), (by intro j hj; omega)⟩ ?_
      intro k w1 hI_23 ih_23
      obtain ⟨h0, h1, hf, ha⟩ := hI_23
      try dsimp only at ih_23 ⊢
      refine g_iload_n X dX8_ahead_23 rfl 3 rfl ?_
      refine g_bipush X dX8_ahead_24 (by decide) ?_
      refine g_icmp_ge (tgt := 47) X dX8_ahead_26 (by decide) (by unfold InR; omega) ⟨by decide, by decide⟩ (fun c_26 => ?_) (fun c_26 => ?_)
      · skip
        have a6 : ∀ j : Nat, j < 101 → w1 20 6 j = w 20 5 j := fun j hj => ha j (by omega)
        have hnn := of_one c_7
        have hww := of_one c_16
        refine g_iconst X dX8_ahead_47 ?_
        refine g_istore_n (lv' := [(3, .int (iI 0)), (0, .ref (gAd G 20)), (1, .int (iI n)), (2, .int (iI what))]) X dX8_ahead_48 rfl (by decide) rfl ?_
        refine g_iconst X dX8_ahead_49 ?_
        refine g_istore (lv' := [(4, .int (iI 0)), (3, .int (iI 0)), (0, .ref (gAd G 20)), (1, .int (iI n)), (2, .int (iI what))]) X dX8_ahead_50 (by decide) rfl ?_
        refine g_lv (lv' := [(0, .ref (gAd G 20)), (1, .int (iI n)), (2, .int (iI what)), (3, .int (iI 0)), (4, .int (iI 0))]) [2, 3, 4, 1, 0] rfl ?_
        refine g_loop3 (fun (br : Int) (i : Int) (w3 : Wd) => [(0, .ref (gAd G 20)), (1, .int (iI n)), (2, .int (iI what)), (3, .int (iI br)), (4, .int (iI i))]) (fun (br : Int) (i : Int) (w3 : Wd) => w3) (fun (br : Int) (i : Int) (w3 : Wd) => (0 ≤ i) ∧ (i ≤ n) ∧ (0 ≤ br ∧ br ≤ i) ∧ (Hid (∃ q, AheadF pl u i.toNat q br ∧ RS q (w3 20 5) ∧ SU (pl 0 0) q ∧ SV (9 * (u 1 0 + i)) (pl 0 0) q)) ∧ (∀ o f, ¬ (o = 20 ∧ (f = 5 ∨ (10 ≤ f ∧ f ≤ 13))) → w3 o f = w1 o f) ∧ (TbC pl (w3 20))) (fun (br : Int) (i : Int) (w3 : Wd) => (n - i).toNat) 0 0 w1 ⟨(by first | omega | rfl | assumption), (by omega), (by first | omega | rfl | assumption), (by exact ⟨u, ⟨rfl, rfl⟩, by rw [hf 20 5 (by decide)]; exact hR, hU, by rw [Int.add_zero, ← hB1]; exact hS⟩), (by intro _ _ _; rfl), (by unfold TbC; rw [hf 20 10 (by decide), hf 20 11 (by decide), hf 20 12 (by decide)]; exact hC)⟩ ?_
        intro br i w3 hI_52 ih_52
        obtain ⟨i0, i1, hbr, hti, hfr, hC1⟩ := hI_52
        try dsimp only at ih_52 ⊢
        refine g_iload X dX8_ahead_52 4 rfl ?_
        refine g_iload_n X dX8_ahead_54 rfl 1 rfl ?_
        refine g_icmp_ge (tgt := 89) X dX8_ahead_55 (by decide) (by unfold InR; omega) (by exact hr_n) (fun c_55 => ?_) (fun c_55 => ?_)
        · skip
          obtain ⟨q, g1, g2, g3, g4⟩ := id hti
          have hin : i = n := by omega
          have gC := g4.2.2.1
          have grr := bt_or (s := q 6 0) (t := q 7 0) (by omega) (by omega) (by omega) (by omega)
          have p7 : w3 20 5 7 = sumN (q 12) 6 := g2.2.1.2.2.2.1
          have p8 : w3 20 5 8 = q 4 0 := g2.2.1.2.2.2.2.1
          have b6 : w3 20 6 = w1 20 6 := hfr 20 6 (by decide)
          have p67 : w3 20 6 7 = sumN (u 12) 6 := by rw [b6, a6 7 (by decide)]; exact rB.2.2.2.1
          have p68 : w3 20 6 8 = u 4 0 := by rw [b6, a6 8 (by decide)]; exact rB.2.2.2.2.1
          refine g_aload_n X dX8_ahead_89 rfl 0 rfl ?_
          refine g_iconst X dX8_ahead_90 ?_
          refine g_calli (st := []) X (c_X8_standing l G 1 pl q (9 * (u 1 0 + i)) (runX q) w3 FM (by rw [hfr 20 4 (by decide), hf 20 4 (by decide)]; exact hT) (by first | assumption | omega | (unfold InR; omega)) (by first | assumption | omega | (unfold InR; omega)) (by first | assumption | omega | (unfold InR; omega)) (by first | assumption | omega | (unfold InR; omega)) (by omega) (Or.inl ⟨rfl, rfl⟩)) cm_X8_standing im_X8_standing se_X8_standing ml_X8_140 ck_X8 FM ⟨Nat.le_of_ble_eq_true rfl, Nat.le_of_ble_eq_true rfl⟩ rfl rfl (Nat.le_of_ble_eq_true rfl) dX8_ahead_91 (fn_i ?_)
          refine g_callsi (st := []) X (c_X8_ones l G (runX q) w3 (by exact ⟨grr.1, grr.2.1⟩)) cm_X8_ones sm_X8_ones ml_X8_137 ⟨Nat.le_of_ble_eq_true rfl, Nat.le_of_ble_eq_true rfl⟩ rfl rfl (Nat.le_of_ble_eq_true rfl) dX8_ahead_94 (fn_i ?_)
          refine g_istore (lv' := [(4, .int (iI (cnt (runX q)))), (0, .ref (gAd G 20)), (1, .int (iI n)), (2, .int (iI what)), (3, .int (iI br))]) X dX8_ahead_97 (by decide) rfl ?_
          refine g_aload_n X dX8_ahead_99 rfl 1 rfl ?_
          refine g_geta X ck_X8 FM 5 (by decide) fl_X8_19 rfl dX8_ahead_100 ?_
          refine g_bipush X dX8_ahead_103 (by decide) ?_
          refine h_iald (a := 7) (j := 7) X rfl FM (by decide) (show fkX 8 5 = (1, 101) from rfl) (by decide) (by omega) (by omega) dX8_ahead_105 ?_
          rw [show (w3 20 5 7 : Int) = sumN (q 12) 6 from p7]
          refine g_aload_n X dX8_ahead_106 rfl 1 rfl ?_
          refine g_geta X ck_X8 FM 6 (by decide) fl_X8_22 rfl dX8_ahead_107 ?_
          refine g_bipush X dX8_ahead_110 (by decide) ?_
          refine h_iald (a := 7) (j := 7) X rfl FM (by decide) (show fkX 8 6 = (1, 101) from rfl) (by decide) (by omega) (by omega) dX8_ahead_112 ?_
          rw [show (w3 20 6 7 : Int) = sumN (u 12) 6 from p67]
          refine g_isub X dX8_ahead_113 ?_
          refine g_istore (lv' := [(5, .int (iI ((sumN (q 12) 6) - (sumN (u 12) 6)))), (4, .int (iI (cnt (runX q)))), (0, .ref (gAd G 20)), (1, .int (iI n)), (2, .int (iI what)), (3, .int (iI br))]) X dX8_ahead_114 (by decide) rfl ?_
          refine g_aload_n X dX8_ahead_116 rfl 2 rfl ?_
          refine g_geta X ck_X8 FM 5 (by decide) fl_X8_19 rfl dX8_ahead_117 ?_
          refine g_bipush X dX8_ahead_120 (by decide) ?_
          refine h_iald (a := 8) (j := 8) X rfl FM (by decide) (show fkX 8 5 = (1, 101) from rfl) (by decide) (by omega) (by omega) dX8_ahead_122 ?_
          rw [show (w3 20 5 8 : Int) = q 4 0 from p8]
          refine g_aload_n X dX8_ahead_123 rfl 2 rfl ?_
          refine g_geta X ck_X8 FM 6 (by decide) fl_X8_22 rfl dX8_ahead_124 ?_
          refine g_bipush X dX8_ahead_127 (by decide) ?_
          refine h_iald (a := 8) (j := 8) X rfl FM (by decide) (show fkX 8 6 = (1, 101) from rfl) (by decide) (by omega) (by omega) dX8_ahead_129 ?_
          rw [show (w3 20 6 8 : Int) = u 4 0 from p68]
          refine g_isub X dX8_ahead_130 ?_
          refine g_istore (lv' := [(6, .int (iI ((q 4 0) - (u 4 0)))), (5, .int (iI ((sumN (q 12) 6) - (sumN (u 12) 6)))), (4, .int (iI (cnt (runX q)))), (0, .ref (gAd G 20)), (1, .int (iI n)), (2, .int (iI what)), (3, .int (iI br))]) X dX8_ahead_131 (by decide) rfl ?_
          refine g_iconst X dX8_ahead_133 ?_
          refine g_istore (lv' := [(7, .int (iI 0)), (6, .int (iI ((q 4 0) - (u 4 0)))), (5, .int (iI ((sumN (q 12) 6) - (sumN (u 12) 6)))), (4, .int (iI (cnt (runX q)))), (0, .ref (gAd G 20)), (1, .int (iI n)), (2, .int (iI what)), (3, .int (iI br))]) X dX8_ahead_134 (by decide) rfl ?_
          refine g_lv (lv' := [(0, .ref (gAd G 20)), (1, .int (iI n)), (2, .int (iI what)), (3, .int (iI br)), (4, .int (iI (cnt (runX q)))), (5, .int (iI (sumN (q 12) 6 - sumN (u 12) 6))), (6, .int (iI (q 4 0 - u 4 0))), (7, .int (iI 0))]) [4, 5, 6, 7, 3, 2, 1, 0] rfl ?_
          refine g_loop2 (fun (k : Int) (w5 : Wd) => [(0, .ref (gAd G 20)), (1, .int (iI n)), (2, .int (iI what)), (3, .int (iI br)), (4, .int (iI (cnt (runX q)))), (5, .int (iI (sumN (q 12) 6 - sumN (u 12) 6))), (6, .int (iI (q 4 0 - u 4 0))), (7, .int (iI k))]) (fun (k : Int) (w5 : Wd) => w5) (fun (k : Int) (w5 : Wd) => (0 ≤ k) ∧ (k ≤ 101) ∧ (∀ o f, ¬ (o = 20 ∧ f = 5) → w5 o f = w3 o f) ∧ (∀ j : Nat, (j : Int) < k → w5 20 5 j = w 20 5 j)) (fun (k : Int) (w5 : Wd) => (101 - k).toNat) 0 w3 ⟨(by first | omega | rfl | assumption), (by first | omega | rfl | assumption), (by intro _ _ _; rfl), (by intro j hj; omega)⟩ ?_
          intro k w5 hI_136 ih_136
          obtain ⟨k0, k1, kf, ka⟩ := hI_136
          try dsimp only at ih_136 ⊢
          refine g_iload X dX8_ahead_136 7 rfl ?_
          refine g_bipush X dX8_ahead_138 (by decide) ?_
          refine g_icmp_ge (tgt := 163) X dX8_ahead_140 (by decide) (by unfold InR; omega) ⟨by decide, by decide⟩ (fun c_140 => ?_) (fun c_140 => ?_)
          · skip
            refine g_iload_n X dX8_ahead_163 rfl 2 rfl ?_
            refine g_if_ne (tgt := 172) X dX8_ahead_164 (by decide) (by exact hr_what) (fun c_164 => ?_) (fun c_164 => ?_)
            · skip
              refine g_iload_n X dX8_ahead_172 rfl 2 rfl ?_
              refine g_iconst X dX8_ahead_173 ?_
              refine g_icmp_ne (tgt := 182) X dX8_ahead_174 (by decide) (by exact hr_what) ⟨by decide, by decide⟩ (fun c_174 => ?_) (fun c_174 => ?_)
              · skip
                refine g_iload_n X dX8_ahead_182 rfl 2 rfl ?_
                refine g_iconst X dX8_ahead_183 ?_
                refine g_icmp_ne (tgt := 192) X dX8_ahead_184 (by decide) (by exact hr_what) ⟨by decide, by decide⟩ (fun c_184 => ?_) (fun c_184 => ?_)
                · skip
                  refine g_iload_n X dX8_ahead_192 rfl 3 rfl ?_
                  exact g_iret X rfl rfl dX8_ahead_193 (by
                      rw [hin] at g1
                      refine ⟨fun o f h => ?_, ?_, fun j hj => ka j (by omega), fun h => absurd ⟨hnn, hww⟩ h, fun _ => ⟨q, br, g1, ?_⟩⟩
                      · rw [kf o f (fun z => h ⟨z.1, Or.inl z.2⟩), hfr o f (fun z => h ⟨z.1, by omega⟩), hf o f (fun z => h ⟨z.1, by omega⟩)]
                      · unfold TbC; rw [kf 20 10 (by decide), kf 20 11 (by decide), kf 20 12 (by decide)]; exact hC1
                      · first
                        | exact ⟨fun _ => rfl, fun h => absurd h (by omega), fun h => absurd h (by omega), fun h => absurd h (by omega)⟩
                        | exact ⟨fun h => absurd h (by omega), fun _ => rfl, fun h => absurd h (by omega), fun h => absurd h (by omega)⟩
                        | exact ⟨fun h => absurd h (by omega), fun h => absurd h (by omega), fun _ => rfl, fun h => absurd h (by omega)⟩
                        | exact ⟨fun h => absurd h (by omega), fun h => absurd h (by omega), fun h => absurd h (by omega), fun _ => rfl⟩)
                · skip
                  refine g_iload X dX8_ahead_187 6 rfl ?_
                  refine g_goto (tgt := 193) X dX8_ahead_189 (by decide) ?_
                  exact g_iret X rfl rfl dX8_ahead_193 (by
                      rw [hin] at g1
                      refine ⟨fun o f h => ?_, ?_, fun j hj => ka j (by omega), fun h => absurd ⟨hnn, hww⟩ h, fun _ => ⟨q, br, g1, ?_⟩⟩
                      · rw [kf o f (fun z => h ⟨z.1, Or.inl z.2⟩), hfr o f (fun z => h ⟨z.1, by omega⟩), hf o f (fun z => h ⟨z.1, by omega⟩)]
                      · unfold TbC; rw [kf 20 10 (by decide), kf 20 11 (by decide), kf 20 12 (by decide)]; exact hC1
                      · first
                        | exact ⟨fun _ => rfl, fun h => absurd h (by omega), fun h => absurd h (by omega), fun h => absurd h (by omega)⟩
                        | exact ⟨fun h => absurd h (by omega), fun _ => rfl, fun h => absurd h (by omega), fun h => absurd h (by omega)⟩
                        | exact ⟨fun h => absurd h (by omega), fun h => absurd h (by omega), fun _ => rfl, fun h => absurd h (by omega)⟩
                        | exact ⟨fun h => absurd h (by omega), fun h => absurd h (by omega), fun h => absurd h (by omega), fun _ => rfl⟩)
              · skip
                refine g_iload X dX8_ahead_177 5 rfl ?_
                refine g_goto (tgt := 193) X dX8_ahead_179 (by decide) ?_
                exact g_iret X rfl rfl dX8_ahead_193 (by
                    rw [hin] at g1
                    refine ⟨fun o f h => ?_, ?_, fun j hj => ka j (by omega), fun h => absurd ⟨hnn, hww⟩ h, fun _ => ⟨q, br, g1, ?_⟩⟩
                    · rw [kf o f (fun z => h ⟨z.1, Or.inl z.2⟩), hfr o f (fun z => h ⟨z.1, by omega⟩), hf o f (fun z => h ⟨z.1, by omega⟩)]
                    · unfold TbC; rw [kf 20 10 (by decide), kf 20 11 (by decide), kf 20 12 (by decide)]; exact hC1
                    · first
                      | exact ⟨fun _ => rfl, fun h => absurd h (by omega), fun h => absurd h (by omega), fun h => absurd h (by omega)⟩
                      | exact ⟨fun h => absurd h (by omega), fun _ => rfl, fun h => absurd h (by omega), fun h => absurd h (by omega)⟩
                      | exact ⟨fun h => absurd h (by omega), fun h => absurd h (by omega), fun _ => rfl, fun h => absurd h (by omega)⟩
                      | exact ⟨fun h => absurd h (by omega), fun h => absurd h (by omega), fun h => absurd h (by omega), fun _ => rfl⟩)
            · skip
              refine g_iload X dX8_ahead_167 4 rfl ?_
              refine g_goto (tgt := 193) X dX8_ahead_169 (by decide) ?_
              exact g_iret X rfl rfl dX8_ahead_193 (by
                  rw [hin] at g1
                  refine ⟨fun o f h => ?_, ?_, fun j hj => ka j (by omega), fun h => absurd ⟨hnn, hww⟩ h, fun _ => ⟨q, br, g1, ?_⟩⟩
                  · rw [kf o f (fun z => h ⟨z.1, Or.inl z.2⟩), hfr o f (fun z => h ⟨z.1, by omega⟩), hf o f (fun z => h ⟨z.1, by omega⟩)]
                  · unfold TbC; rw [kf 20 10 (by decide), kf 20 11 (by decide), kf 20 12 (by decide)]; exact hC1
                  · first
                    | exact ⟨fun _ => rfl, fun h => absurd h (by omega), fun h => absurd h (by omega), fun h => absurd h (by omega)⟩
                    | exact ⟨fun h => absurd h (by omega), fun _ => rfl, fun h => absurd h (by omega), fun h => absurd h (by omega)⟩
                    | exact ⟨fun h => absurd h (by omega), fun h => absurd h (by omega), fun _ => rfl, fun h => absurd h (by omega)⟩
                    | exact ⟨fun h => absurd h (by omega), fun h => absurd h (by omega), fun h => absurd h (by omega), fun _ => rfl⟩)
          · skip
            refine g_aload_n X dX8_ahead_143 rfl 0 rfl ?_
            refine g_geta X ck_X8 FM 5 (by decide) fl_X8_19 rfl dX8_ahead_144 ?_
            refine g_iload X dX8_ahead_147 7 rfl ?_
            refine g_aload_n X dX8_ahead_149 rfl 0 rfl ?_
            refine g_geta X ck_X8 FM 6 (by decide) fl_X8_22 rfl dX8_ahead_150 ?_
            refine g_iload X dX8_ahead_153 7 rfl ?_
            refine h_iald (a := k) (j := (k).toNat) X rfl FM (by decide) (show fkX 8 6 = (1, 101) from rfl) (by decide) (by omega) (by omega) dX8_ahead_155 ?_
            refine h_iast (a := k) (j := (k).toNat) X rfl FM (by decide) (show fkX 8 5 = (1, 101) from rfl) (by decide) (by omega) (by omega) dX8_ahead_156 ?_
            obtain ⟨w_1, ew_1⟩ : ∃ q_ : Wd, q_ = up w5 20 5 (k).toNat (w5 20 6 (k).toNat) := ⟨_, rfl⟩
            refine g_w (w' := w_1) ew_1 ?_
            refine g_iinc (j := 7) (lv' := [(7, .int (iI (k + 1))), (0, .ref (gAd G 20)), (1, .int (iI n)), (2, .int (iI what)), (3, .int (iI br)), (4, .int (iI (cnt (runX q)))), (5, .int (iI (sumN (q 12) 6 - sumN (u 12) 6))), (6, .int (iI (q 4 0 - u 4 0)))]) X dX8_ahead_157 rfl (by decide) rfl ?_
            refine g_goto (tgt := 136) X dX8_ahead_160 (by decide) ?_
            refine g_lv (lv' := [(0, .ref (gAd G 20)), (1, .int (iI n)), (2, .int (iI what)), (3, .int (iI br)), (4, .int (iI (cnt (runX q)))), (5, .int (iI (sumN (q 12) 6 - sumN (u 12) 6))), (6, .int (iI (q 4 0 - u 4 0))), (7, .int (iI (k + 1)))]) [1, 2, 3, 4, 5, 6, 7, 0] rfl ?_
            exact ih_136 (k + 1) w_1 ⟨(by first | omega | rfl | assumption), (by first | omega | rfl | assumption), (by intro o f h; rw [ew_1, up_fn h]; exact kf o f h), (by intro j hj; rw [ew_1]; rcases Int.lt_or_le (j : Int) k with e | e; (rw [up_ne (by omega)]; exact ka j e); (have e2 : j = k.toNat := (by omega)); subst e2; rw [up_at, kf 20 6 (by decide), b6, a6 _ (by omega)])⟩ (by omega)
        · skip
          obtain ⟨q, g1, g2, g3, g4⟩ := id hti
          refine g_aload_n X dX8_ahead_58 rfl 0 rfl ?_
          refine g_callv (st := []) X (c_X8_tickOnce l G pl q (9 * (u 1 0 + i)) w3 FM (by rw [hfr 20 4 (by decide), hf 20 4 (by decide)]; exact hT) (by first | assumption | omega | (unfold InR; omega)) (by first | assumption | omega | (unfold InR; omega)) (by first | assumption | omega | (unfold InR; omega)) (by first | assumption | omega | (unfold InR; omega)) (by omega) (by first | assumption | omega | (unfold InR; omega)) (by omega)) cm_X8_tickOnce im_X8_tickOnce se_X8_tickOnce ml_X8_181 ck_X8 FM ⟨Nat.le_of_ble_eq_true rfl, Nat.le_of_ble_eq_true rfl⟩ rfl rfl (Nat.le_of_ble_eq_true rfl) dX8_ahead_59 ?_
          rintro u_59 ⟨e, x1, x2, x3, x4, x5⟩
          have s5 : SV (9 * (u 1 0 + i) + 9) (pl 0 0) (psX pl q e) := sv_ps hp g4 (by omega)
          have sT5 := s5.1
          refine g_iload_n X dX8_ahead_62 rfl 3 rfl ?_
          refine g_aload_n X dX8_ahead_63 rfl 0 rfl ?_
          refine g_calli (st := [.int (iI br)]) X (c_X8_made l G pl (psX pl q e) (9 * (u 1 0 + i) + 9) u_59 FM (by rw [x4 20 4 (by decide), hfr 20 4 (by decide), hf 20 4 (by decide)]; exact hT) (by first | assumption | omega | (unfold InR; omega)) (by exact x2) (by exact s5) (by exact x3) (by omega) (by exact x5)) cm_X8_made im_X8_made se_X8_made ml_X8_147 ck_X8 FM ⟨Nat.le_of_ble_eq_true rfl, Nat.le_of_ble_eq_true rfl⟩ rfl rfl (Nat.le_of_ble_eq_true rfl) dX8_ahead_64 ?_
          rintro z_64 u_64 ⟨y1, ⟨y2, y3, y4, y5⟩, y6⟩
          have mr := (made_can (u := psX pl q e) hp).2 sT5.1.1 sT5.1.2
          refine g_cut1 (pc' := 81) (fun (x : Int) => [(0, .ref (gAd G 20)), (1, .int (iI n)), (2, .int (iI what)), (3, .int (iI br)), (4, .int (iI i))]) (fun (x : Int) => [.int (iI x), .int (iI br)]) (fun (x : Int) => u_64) (fun (x : Int) => (x = if madeX pl (psX pl q e) < psX pl q e 0 0 then 1 else 0)) ?_ ?_
          · intro x hI_81
            have hx := hI_81
            try dsimp only at hx ⊢
            refine g_iadd X dX8_ahead_81 ?_
            refine g_istore_n (lv' := [(3, .int (iI (br + x))), (0, .ref (gAd G 20)), (1, .int (iI n)), (2, .int (iI what)), (4, .int (iI i))]) X dX8_ahead_82 rfl (by decide) rfl ?_
            refine g_iinc (j := 4) (lv' := [(4, .int (iI (i + 1))), (3, .int (iI (br + x))), (0, .ref (gAd G 20)), (1, .int (iI n)), (2, .int (iI what))]) X dX8_ahead_83 rfl (by decide) rfl ?_
            refine g_goto (tgt := 52) X dX8_ahead_86 (by decide) ?_
            refine g_lv (lv' := [(0, .ref (gAd G 20)), (1, .int (iI n)), (2, .int (iI what)), (3, .int (iI (br + x))), (4, .int (iI (i + 1)))]) [2, 3, 4, 1, 0] rfl ?_
            exact ih_52 (br + x) (i + 1) u_64 ⟨(by first | omega | rfl | assumption), (by first | omega | rfl | assumption), (by rw [hx]; split <;> omega), (by
                refine ⟨psX pl q e, ?_, by rw [y2 20 5 (by decide)]; exact x2, x3, sv_mono s5 (by omega)⟩
                rw [show (i + 1).toNat = i.toNat + 1 by omega]
                refine ⟨q, e, br, g1, x1, rfl, ?_⟩
                rw [hx]
                split <;> omega), (by intro o f h; rw [y2 o f (fun z => h ⟨z.1, Or.inr z.2⟩), x4 o f h]; exact hfr o f h), (by exact y3)⟩ (by omega)
          · intro J_81
            try dsimp only at J_81
            refine g_aload_n X dX8_ahead_67 rfl 0 rfl ?_
            refine g_geta X ck_X8 FM 5 (by decide) fl_X8_19 rfl dX8_ahead_68 ?_
            refine g_iconst X dX8_ahead_71 ?_
            refine h_iald (a := 0) (j := 0) X rfl FM (by decide) (show fkX 8 5 = (1, 101) from rfl) (by decide) (by omega) (by omega) dX8_ahead_72 ?_
            rw [show (u_64 20 5 0 : Int) = psX pl q e 0 0 from (by rw [y2 20 5 (by decide)]; exact x2.1 0 (by decide))]
            refine g_icmp_ge (tgt := 80) X dX8_ahead_73 (by decide) (by rw [y1]; unfold InR; omega) (by unfold InR; omega) (fun c_73 => ?_) (fun c_73 => ?_)
            · skip
              refine g_iconst X dX8_ahead_80 ?_
              refine g_lv (lv' := [(0, .ref (gAd G 20)), (1, .int (iI n)), (2, .int (iI what)), (3, .int (iI br)), (4, .int (iI i))]) [0, 1, 2, 3, 4] rfl ?_
              exact J_81 0 (by rw [y1] at c_73; first | exact (if_neg (by omega)).symm | exact (if_pos (by omega)).symm)
            · skip
              refine g_iconst X dX8_ahead_76 ?_
              refine g_goto (tgt := 81) X dX8_ahead_77 (by decide) ?_
              refine g_lv (lv' := [(0, .ref (gAd G 20)), (1, .int (iI n)), (2, .int (iI what)), (3, .int (iI br)), (4, .int (iI i))]) [0, 1, 2, 3, 4] rfl ?_
              exact J_81 1 (by rw [y1] at c_73; first | exact (if_neg (by omega)).symm | exact (if_pos (by omega)).symm)
      · skip
        refine g_aload_n X dX8_ahead_29 rfl 0 rfl ?_
        refine g_geta X ck_X8 FM 6 (by decide) fl_X8_22 rfl dX8_ahead_30 ?_
        refine g_iload_n X dX8_ahead_33 rfl 3 rfl ?_
        refine g_aload_n X dX8_ahead_34 rfl 0 rfl ?_
        refine g_geta X ck_X8 FM 5 (by decide) fl_X8_19 rfl dX8_ahead_35 ?_
        refine g_iload_n X dX8_ahead_38 rfl 3 rfl ?_
        refine h_iald (a := k) (j := (k).toNat) X rfl FM (by decide) (show fkX 8 5 = (1, 101) from rfl) (by decide) (by omega) (by omega) dX8_ahead_39 ?_
        refine h_iast (a := k) (j := (k).toNat) X rfl FM (by decide) (show fkX 8 6 = (1, 101) from rfl) (by decide) (by omega) (by omega) dX8_ahead_40 ?_
        obtain ⟨w_2, ew_2⟩ : ∃ q_ : Wd, q_ = up w1 20 6 (k).toNat (w1 20 5 (k).toNat) := ⟨_, rfl⟩
        refine g_w (w' := w_2) ew_2 ?_
        refine g_iinc (j := 3) (lv' := [(3, .int (iI (k + 1))), (0, .ref (gAd G 20)), (1, .int (iI n)), (2, .int (iI what))]) X dX8_ahead_41 rfl (by decide) rfl ?_
        refine g_goto (tgt := 23) X dX8_ahead_44 (by decide) ?_
        refine g_lv (lv' := [(0, .ref (gAd G 20)), (1, .int (iI n)), (2, .int (iI what)), (3, .int (iI (k + 1)))]) [1, 2, 3, 0] rfl ?_
        exact ih_23 (k + 1) w_2 ⟨(by first | omega | rfl | assumption), (by first | omega | rfl | assumption), (by intro o f h; rw [ew_2, up_fn h]; exact hf o f h), (by intro j hj; rw [ew_2]; rcases Int.lt_or_le (j : Int) k with e | e; (rw [up_ne (by omega)]; exact ha j e); (have e2 : j = k.toNat := (by omega)); subst e2; rw [up_at, hf 20 5 (by decide)])⟩ (by omega)
    · skip
      refine g_iconst X dX8_ahead_19 ?_
      exact g_iret X rfl rfl dX8_ahead_20 (by
          refine ⟨fun _ _ _ => rfl, hC, fun _ _ => rfl, fun _ => rfl, fun h => absurd h ?_⟩
          first
          | exact fun h => of_zero c_7 h.1
          | exact fun h => of_zero (Classical.not_not.mp c_16) h.2)
