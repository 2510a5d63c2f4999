/-- of the sets below S that are not locked and can make the load: the best -/
def FB (pl : Nat → Nat → Int) (lift load lk S best bp : Int) : Prop :=
  (best = -4 ∧ bp = 1000000000 ∧ ∀ s, 0 ≤ s → s < S → band s lk = 0 → ¬ CanX pl s load) ∨
  ((0 ≤ best ∧ best < S) ∧ band best lk = 0 ∧ CanX pl best load ∧ BestC pl (pwX pl lift) best (pl 0 0).toNat load bp ∧ ∀ s p, 0 ≤ s → s < S → band s lk = 0 → CanX pl s load → BestC pl (pwX pl lift) s (pl 0 0).toNat load p → bp < p ∨ (bp = p ∧ (cnt best < cnt s ∨ (cnt best = cnt s ∧ best ≤ s))))
theorem fb_in {pl : Nat → Nat → Int} (hp : PV pl) {lift load lk S best bp : Int} (hl : 0 ≤ lift ∧ lift ≤ 45) (h : FB pl lift load lk S best bp) : (best = -4 ∧ bp = 1000000000) ∨ ((0 ≤ best ∧ best < S) ∧ 0 ≤ bp ∧ bp ≤ 123468) := by
  rcases h with q | q
  · exact Or.inl ⟨q.1, q.2.1⟩
  · obtain ⟨⟨x, a, b, c⟩, -⟩ := q.2.2.2.1
    have := pw_sum hp hl a
    exact Or.inr ⟨q.1, by omega⟩
theorem fb_skip {pl : Nat → Nat → Int} {lift load lk S best bp : Int} (h : FB pl lift load lk S best bp) (hn : ¬ (band S lk = 0 ∧ CanX pl S load)) : FB pl lift load lk (S + 1) best bp := by
  rcases h with ⟨a, b, c⟩ | ⟨a, b, c, d, e⟩
  · refine Or.inl ⟨a, b, fun s h0 h1 h2 h3 => ?_⟩
    rcases Int.lt_or_le s S with q | q
    · exact c s h0 q h2 h3
    · rw [show s = S by omega] at h2 h3
      exact hn ⟨h2, h3⟩
  · refine Or.inr ⟨⟨a.1, by omega⟩, b, c, d, fun s p h0 h1 h2 h3 h4 => ?_⟩
    rcases Int.lt_or_le s S with q | q
    · exact e s p h0 q h2 h3 h4
    · rw [show s = S by omega] at h2 h3
      exact absurd ⟨h2, h3⟩ hn
theorem fb_old {pl : Nat → Nat → Int} {lift load lk S best bp z : Int} (h : FB pl lift load lk S best bp) (hz : z < 1000000000) (hb : BestC pl (pwX pl lift) S (pl 0 0).toNat load z) (h1 : ¬ z < bp) (h2 : z = bp → ¬ cnt S < cnt best) : FB pl lift load lk (S + 1) best bp := by
  rcases h with ⟨a, b, c⟩ | ⟨a, b, c, d, e⟩
  · omega
  · refine Or.inr ⟨⟨a.1, by omega⟩, b, c, d, fun s p g0 g1 g2 g3 g4 => ?_⟩
    rcases Int.lt_or_le s S with q | q
    · exact e s p g0 q g2 g3 g4
    · have es : s = S := by omega
      rw [es] at g4 ⊢
      have := best_uq hb g4
      omega
theorem fb_new {pl : Nat → Nat → Int} {lift load lk S best bp z : Int} (h : FB pl lift load lk S best bp) (h0 : 0 ≤ S) (hlk : band S lk = 0) (hc : CanX pl S load) (hb : BestC pl (pwX pl lift) S (pl 0 0).toNat load z) (hz : z ≤ 123468) (hbet : z < bp ∨ (z = bp ∧ cnt S < cnt best)) : FB pl lift load lk (S + 1) S z := by
  refine Or.inr ⟨⟨h0, by omega⟩, hlk, hc, hb, fun s p g0 g1 g2 g3 g4 => ?_⟩
  rcases Int.lt_or_le s S with q | q
  · rcases h with ⟨a, b, c⟩ | ⟨a, b, c, d, e⟩
    · exact absurd g3 (c s g0 q g2)
    · have := e s p g0 q g2 g3 g4
      omega
  · have es : s = S := by omega
    rw [es] at g4 ⊢
    have := best_uq hb g4
    exact Or.inr ⟨this, Or.inr ⟨rfl, Int.le_refl _⟩⟩
set_option maxHeartbeats 4000000 in
set_option maxRecDepth 100000 in
theorem c_X8_findBest (l : Launch) (G : Ly) (load : Int) (pl : Nat → Nat → Int) (u : Nat → Nat → Int) (B : Int) (w : Wd) (FM : gOb G 20 = some 8) (hT : PlR pl (w 20 4)) (hp : PV pl) (hR : RS u (w 20 5)) (hS : SV B (pl 0 0) u) (hU : SU (pl 0 0) u) (hB : B ≤ 99000) (hC : TbC pl (w 20)) (hld : 0 ≤ load ∧ load ≤ 480) : Mi l yX8_findBest cX8_findBest 7 (some .int) 3 76 G [.ref (gAd G 20), .int (iI load)] w (fun z w2 => (∀ o f, ¬ (o = 20 ∧ 10 ≤ f ∧ f ≤ 14) → w2 o f = w o f) ∧ TbC pl (w2 20) ∧ FB pl (liftX u) load (u 5 0) (bshl 1 (pl 0 0)) z (w2 20 14 0)) := by
  refine mi_of (lv := [(0, .ref (gAd G 20)), (1, .int (iI load))]) (by decide) (Nat.le_of_ble_eq_true rfl) rfl ?_
  intro p_ e_ s_ m_ b_ h_ c_ X
  have hp0 := hp.1
  have hp7 := hp.2.2
  have t36 := hT.1
  have sT := hS.1
  have sB := hS.2.1
  have sC := hS.2.2.1
  have sD := hS.2.2.2.1
  have sE := hS.2.2.2.2.1
  have sF := hS.2.2.2.2.2.1
  have sG := hS.2.2.2.2.2.2.1
  have sH := hS.2.2.2.2.2.2.2
  have rT := hR.1
  have rB := hR.2.1
  have rL := hR.2.2.1
  have rM := hR.2.2.2
  have uA := hU.1
  have hrun := bt_or (s := u 6 0) (t := u 7 0) (by omega) (by omega) (by omega) (by omega)
  have r00 : w 20 5 0 = u 0 0 := rT 0 (by decide)
  have r01 : w 20 5 1 = u 0 1 := rT 1 (by decide)
  have r02 : w 20 5 2 = u 0 2 := rT 2 (by decide)
  have r03 : w 20 5 3 = u 0 3 := rT 3 (by decide)
  have r04 : w 20 5 4 = u 1 0 := rB.1
  have hall := bt_all (pl 0 0) (by omega) (by omega)
  have hlf0 : 0 ≤ liftX u ∧ liftX u ≤ 45 := by unfold liftX; omega
  refine g_aload_n X dX8_findBest_0 rfl 0 rfl ?_
  refine g_callv (st := []) X (c_X8_layTable l G pl w FM (by first | assumption | omega | (unfold InR; omega)) (by first | assumption | omega | (unfold InR; omega)) (by omega) (by omega) (by first | assumption | omega | (unfold InR; omega))) cm_X8_layTable im_X8_layTable se_X8_layTable ml_X8_125 ck_X8 FM ⟨Nat.le_of_ble_eq_true rfl, Nat.le_of_ble_eq_true rfl⟩ rfl rfl (Nat.le_of_ble_eq_true rfl) dX8_findBest_1 ?_
  rintro u_1 ⟨lfr, lC, l11, l12⟩
  have s4 : u_1 20 4 = w 20 4 := lfr 20 4 (by decide)
  have s5 : u_1 20 5 = w 20 5 := lfr 20 5 (by decide)
  have l12b : u_1 20 12 0 = liftX u := by rw [l12, r02, r03]
  refine g_aload_n X dX8_findBest_4 rfl 0 rfl ?_
  refine g_calli (st := []) X (c_X8_lockedOnes l G pl u B u_1 FM (by rw [s4]; exact hT) (by first | assumption | omega | (unfold InR; omega)) (by rw [s5]; exact hR) (by first | assumption | omega | (unfold InR; omega)) (by first | assumption | omega | (unfold InR; omega)) (by first | assumption | omega | (unfold InR; omega))) cm_X8_lockedOnes im_X8_lockedOnes se_X8_lockedOnes ml_X8_128 ck_X8 FM ⟨Nat.le_of_ble_eq_true rfl, Nat.le_of_ble_eq_true rfl⟩ rfl rfl (Nat.le_of_ble_eq_true rfl) dX8_findBest_5 (fn_i ?_)
  refine g_istore_n (lv' := [(2, .int (iI (u 5 0))), (0, .ref (gAd G 20)), (1, .int (iI load))]) X dX8_findBest_8 rfl (by decide) rfl ?_
  refine g_bipush X dX8_findBest_9 (by decide) ?_
  refine g_istore_n (lv' := [(3, .int (iI (-4))), (2, .int (iI (u 5 0))), (0, .ref (gAd G 20)), (1, .int (iI load))]) X dX8_findBest_11 rfl (by decide) rfl ?_
  refine g_aload_n X dX8_findBest_12 rfl 2 rfl ?_
  refine g_ldc (n := 1000000000) X cst_X8_94 (by decide) dX8_findBest_13 ?_
  refine g_puti X ck_X8 FM 14 (by decide) fl_X8_131 rfl rfl rfl dX8_findBest_15 ?_
  obtain ⟨w_1, ew_1⟩ : ∃ q_ : Wd, q_ = up u_1 20 14 0 1000000000 := ⟨_, rfl⟩
  refine g_w (w' := w_1) ew_1 ?_
  refine g_iconst X dX8_findBest_18 ?_
  refine g_istore (lv' := [(4, .int (iI 0)), (3, .int (iI (-4))), (2, .int (iI (u 5 0))), (0, .ref (gAd G 20)), (1, .int (iI load))]) X dX8_findBest_19 (by decide) rfl ?_
  refine g_lv (lv' := [(0, .ref (gAd G 20)), (1, .int (iI load)), (2, .int (iI (u 5 0))), (3, .int (iI (-4))), (4, .int (iI 0))]) [3, 4, 2, 1, 0] rfl ?_
  refine g_loop3 (fun (best : Int) (set : Int) (w1 : Wd) => [(0, .ref (gAd G 20)), (1, .int (iI load)), (2, .int (iI (u 5 0))), (3, .int (iI best)), (4, .int (iI set))]) (fun (best : Int) (set : Int) (w1 : Wd) => w1) (fun (best : Int) (set : Int) (w1 : Wd) => (0 ≤ set) ∧ (set ≤ bshl 1 (pl 0 0)) ∧ (FB pl (liftX u) load (u 5 0) set best (w1 20 14 0)) ∧ (∀ o f, ¬ (o = 20 ∧ f = 14) → w1 o f = u_1 o f)) (fun (best : Int) (set : Int) (w1 : Wd) => (bshl 1 (pl 0 0) - set).toNat) (-4) 0 w_1 ⟨(by first | omega | rfl | assumption), (by first | omega | rfl | assumption), (by rw [ew_1, up_at]; exact Or.inl ⟨rfl, rfl, fun s a b => by omega⟩), (by intro o f h; rw [ew_1, up_fn h])⟩ ?_
  intro best set w1 hI_21 ih_21
  obtain ⟨h0, h1, hfb, hf⟩ := hI_21
  try dsimp only at ih_21 ⊢
  have m4 : w1 20 4 = w 20 4 := by rw [hf 20 4 (by decide)]; exact s4
  have m36 : w1 20 4 36 = pl 0 0 := by rw [m4]; exact t36
  have mC : TbC pl (w1 20) := by unfold TbC; rw [hf 20 10 (by decide), hf 20 11 (by decide), hf 20 12 (by decide)]; exact lC
  have m11 : w1 20 11 0 = 1 := by rw [hf 20 11 (by decide)]; exact l11
  have m12 : w1 20 12 0 = liftX u := by rw [hf 20 12 (by decide)]; exact l12b
  have hbr := fb_in hp hlf0 hfb
  refine g_iload X dX8_findBest_21 4 rfl ?_
  refine g_iconst X dX8_findBest_23 ?_
  refine g_aload_n X dX8_findBest_24 rfl 0 rfl ?_
  refine g_geta X ck_X8 FM 4 (by decide) fl_X8_16 rfl dX8_findBest_25 ?_
  refine g_bipush X dX8_findBest_28 (by decide) ?_
  refine h_iald (a := 36) (j := 36) X rfl FM (by decide) (show fkX 8 4 = (1, 44) from rfl) (by decide) (by omega) (by omega) dX8_findBest_30 ?_
  refine g_ishl X dX8_findBest_31 ?_
  refine g_icmp_ge (tgt := 134) X dX8_findBest_32 (by decide) (by unfold InR; omega) (by rw [m36]; unfold InR; omega) (fun c_32 => ?_) (fun c_32 => ?_)
  · skip
    refine g_iload_n X dX8_findBest_134 rfl 3 rfl ?_
    exact g_iret X rfl rfl dX8_findBest_135 (by
        rw [m36] at c_32
        rw [show set = bshl 1 (pl 0 0) by omega] at hfb
        exact ⟨fun o f h => by rw [hf o f (fun z => h ⟨z.1, by omega, by omega⟩)]; exact lfr o f (fun z => h ⟨z.1, by omega, by omega⟩), mC, hfb⟩)
  · skip
    have hs64 : set < bshl 1 (pl 0 0) := by rw [m36] at c_32; omega
    have hba := bt_and2 (s := set) (t := u 5 0) h0 (by omega) (by omega) (by omega)
    refine g_iload X dX8_findBest_35 4 rfl ?_
    refine g_cut2 (pc' := 128) (fun (b2 : Int) (w3 : Wd) => [(0, .ref (gAd G 20)), (1, .int (iI load)), (2, .int (iI (u 5 0))), (3, .int (iI b2)), (4, .int (iI set))]) (fun (b2 : Int) (w3 : Wd) => []) (fun (b2 : Int) (w3 : Wd) => w3) (fun (b2 : Int) (w3 : Wd) => (FB pl (liftX u) load (u 5 0) (set + 1) b2 (w3 20 14 0)) ∧ (∀ o f, ¬ (o = 20 ∧ f = 14) → w3 o f = u_1 o f)) ?_ ?_
    · intro b2 w3 hI_128
      obtain ⟨gfb, gf⟩ := hI_128
      try dsimp only
      refine g_iinc (j := 4) (lv' := [(4, .int (iI (set + 1))), (0, .ref (gAd G 20)), (1, .int (iI load)), (2, .int (iI (u 5 0))), (3, .int (iI b2))]) X dX8_findBest_128 rfl (by decide) rfl ?_
      refine g_goto (tgt := 21) X dX8_findBest_131 (by decide) ?_
      refine g_lv (lv' := [(0, .ref (gAd G 20)), (1, .int (iI load)), (2, .int (iI (u 5 0))), (3, .int (iI b2)), (4, .int (iI (set + 1)))]) [1, 2, 3, 4, 0] rfl ?_
      exact ih_21 b2 (set + 1) w3 ⟨(by first | omega | rfl | assumption), (by first | omega | rfl | assumption), (by first | omega | rfl | assumption), (by first | omega | rfl | assumption)⟩ (by omega)
    · intro J_128
      try dsimp only at J_128
      refine g_iload_n X dX8_findBest_37 rfl 2 rfl ?_
      refine g_iand X dX8_findBest_38 ?_
      refine g_if_ne (tgt := 128) X dX8_findBest_39 (by decide) (by unfold InR; omega) (fun c_39 => ?_) (fun c_39 => ?_)
      · skip
        refine g_lv (lv' := [(0, .ref (gAd G 20)), (1, .int (iI load)), (2, .int (iI (u 5 0))), (3, .int (iI best)), (4, .int (iI set))]) [0, 1, 2, 3, 4] rfl ?_
        exact J_128 best w1 ⟨(by
            first
            | exact fb_skip hfb (fun h => absurd h.1 c_39)
            | exact fb_skip hfb (fun h => of_zero c_49 ⟨h.2.1, h.2.2⟩)
            | exact absurd c_100 c_113
            | exact absurd c_113 c_100
            | (rw [up_at]
               rcases hy with q | q
               · exact absurd (q.1.symm.trans c_100) (by decide)
               · exact fb_old hfb (by omega) hzb.2 q.2.1 q.2.2)
            | (rw [up_at]
               rcases hy with q | q
               · exact fb_new hfb h0 (by omega) hcan hzb.2 hz0.2 q.2
               · exact absurd q.1 c_100)), (by first | exact hf | (intro o f h; rw [up_fn h]; exact hf o f h))⟩
      · skip
        refine g_aload_n X dX8_findBest_42 rfl 0 rfl ?_
        refine g_iload X dX8_findBest_43 4 rfl ?_
        refine g_iload_n X dX8_findBest_45 rfl 1 rfl ?_
        refine g_calli (st := []) X (c_X8_can l G set load pl w1 FM (by rw [m4]; exact hT) (by first | assumption | omega | (unfold InR; omega)) (by omega) (by unfold InR; omega)) cm_X8_can im_X8_can se_X8_can ml_X8_134 ck_X8 FM ⟨Nat.le_of_ble_eq_true rfl, Nat.le_of_ble_eq_true rfl⟩ rfl rfl (Nat.le_of_ble_eq_true rfl) dX8_findBest_46 (fn_i ?_)
        refine g_if_eq (tgt := 128) X dX8_findBest_49 (by decide) (by exact in01) (fun c_49 => ?_) (fun c_49 => ?_)
        · skip
          refine g_lv (lv' := [(0, .ref (gAd G 20)), (1, .int (iI load)), (2, .int (iI (u 5 0))), (3, .int (iI best)), (4, .int (iI set))]) [0, 1, 2, 3, 4] rfl ?_
          exact J_128 best w1 ⟨(by
              first
              | exact fb_skip hfb (fun h => absurd h.1 c_39)
              | exact fb_skip hfb (fun h => of_zero c_49 ⟨h.2.1, h.2.2⟩)
              | exact absurd c_100 c_113
              | exact absurd c_113 c_100
              | (rw [up_at]
                 rcases hy with q | q
                 · exact absurd (q.1.symm.trans c_100) (by decide)
                 · exact fb_old hfb (by omega) hzb.2 q.2.1 q.2.2)
              | (rw [up_at]
                 rcases hy with q | q
                 · exact fb_new hfb h0 (by omega) hcan hzb.2 hz0.2 q.2
                 · exact absurd q.1 c_100)), (by first | exact hf | (intro o f h; rw [up_fn h]; exact hf o f h))⟩
        · skip
          refine g_aload_n X dX8_findBest_52 rfl 0 rfl ?_
          refine g_iload X dX8_findBest_53 4 rfl ?_
          refine g_iload_n X dX8_findBest_55 rfl 1 rfl ?_
          refine g_calli (st := []) X (c_X8_leastPower l G set load pl w1 FM (by rw [m4]; exact hT) (by first | assumption | omega | (unfold InR; omega)) (by first | assumption | omega | (unfold InR; omega)) (by first | assumption | omega | (unfold InR; omega)) (by omega) (by first | assumption | omega | (unfold InR; omega))) cm_X8_leastPower im_X8_leastPower se_X8_leastPower ml_X8_119 ck_X8 FM ⟨Nat.le_of_ble_eq_true rfl, Nat.le_of_ble_eq_true rfl⟩ rfl rfl (Nat.le_of_ble_eq_true rfl) dX8_findBest_56 (fn_p ?_)
          rintro z_56 h_56
          have hcan0 := of_one c_49
          have hcan : CanX pl set load := hcan0
          rw [m12] at h_56
          have hzz := tv_rng hp hlf0 h_56
          have hzb : (0 ≤ z_56 ∧ z_56 ≤ 123468) ∧ BestC pl (pwX pl (liftX u)) set (pl 0 0).toNat load z_56 := by rcases hzz with q | q; exact ⟨⟨q.1, q.2.1⟩, q.2.2.2⟩; exact absurd hcan q.2
          have hz0 := hzb.1
          have hc0 := cnt_rng h0 (show set < 64 by omega)
          have hb0 : 0 ≤ best → 0 ≤ cnt best ∧ cnt best ≤ 6 := fun h => cnt_rng h (by omega)
          refine g_istore (lv' := [(5, .int (iI z_56)), (0, .ref (gAd G 20)), (1, .int (iI load)), (2, .int (iI (u 5 0))), (3, .int (iI best)), (4, .int (iI set))]) X dX8_findBest_59 (by decide) rfl ?_
          refine g_cut1 (pc' := 96) (fun (y : Int) => [(0, .ref (gAd G 20)), (1, .int (iI load)), (2, .int (iI (u 5 0))), (3, .int (iI best)), (4, .int (iI set)), (5, .int (iI z_56))]) (fun (y : Int) => [.int (iI y)]) (fun (y : Int) => w1) (fun (y : Int) => ((y = 1 ∧ (z_56 < w1 20 14 0 ∨ (z_56 = w1 20 14 0 ∧ cnt set < cnt best))) ∨ (y = 0 ∧ ¬ z_56 < w1 20 14 0 ∧ (z_56 = w1 20 14 0 → ¬ cnt set < cnt best)))) ?_ ?_
          · intro y hI_96
            have hy := hI_96
            try dsimp only at hy ⊢
            refine g_istore (lv' := [(6, .int (iI y)), (0, .ref (gAd G 20)), (1, .int (iI load)), (2, .int (iI (u 5 0))), (3, .int (iI best)), (4, .int (iI set)), (5, .int (iI z_56))]) X dX8_findBest_96 (by decide) rfl ?_
            refine g_iload X dX8_findBest_98 0 rfl ?_
            refine g_if_eq (tgt := 108) X dX8_findBest_100 (by decide) (by rcases hy with q | q <;> (rw [q.1]; exact ⟨by decide, by decide⟩)) (fun c_100 => ?_) (fun c_100 => ?_)
            · skip
              refine g_iload_n X dX8_findBest_108 rfl 4 rfl ?_
              refine g_istore_n (lv' := [(3, .int (iI best)), (6, .int (iI y)), (0, .ref (gAd G 20)), (1, .int (iI load)), (2, .int (iI (u 5 0))), (4, .int (iI set)), (5, .int (iI z_56))]) X dX8_findBest_109 rfl (by decide) rfl ?_
              refine g_aload_n X dX8_findBest_110 rfl 2 rfl ?_
              refine g_iload X dX8_findBest_111 1 rfl ?_
              refine g_if_eq (tgt := 121) X dX8_findBest_113 (by decide) (by rcases hy with q | q <;> (rw [q.1]; exact ⟨by decide, by decide⟩)) (fun c_113 => ?_) (fun c_113 => ?_)
              · skip
                refine g_aload_n X dX8_findBest_121 rfl 2 rfl ?_
                refine g_geti X ck_X8 FM 14 (by decide) fl_X8_131 (Or.inl rfl) dX8_findBest_122 ?_
                refine g_puti X ck_X8 FM 14 (by decide) fl_X8_131 rfl rfl rfl dX8_findBest_125 ?_
                obtain ⟨w_2, ew_2⟩ : ∃ q_ : Wd, q_ = up w1 20 14 0 (w1 20 14 0) := ⟨_, rfl⟩
                refine g_w (w' := w_2) ew_2 ?_
                refine g_lv (lv' := [(0, .ref (gAd G 20)), (1, .int (iI load)), (2, .int (iI (u 5 0))), (3, .int (iI best)), (4, .int (iI set))]) [2, 3, 4, 0, 5] rfl ?_
                exact J_128 best w_2 ⟨(by
                    first
                    | exact fb_skip hfb (fun h => absurd h.1 c_39)
                    | exact fb_skip hfb (fun h => of_zero c_49 ⟨h.2.1, h.2.2⟩)
                    | exact absurd c_100 c_113
                    | exact absurd c_113 c_100
                    | (rw [ew_2, up_at]
                       rcases hy with q | q
                       · exact absurd (q.1.symm.trans c_100) (by decide)
                       · exact fb_old hfb (by omega) hzb.2 q.2.1 q.2.2)
                    | (rw [ew_2, up_at]
                       rcases hy with q | q
                       · exact fb_new hfb h0 (by omega) hcan hzb.2 hz0.2 q.2
                       · exact absurd q.1 c_100)), (by first | exact hf | (intro o f h; rw [ew_2, up_fn h]; exact hf o f h))⟩
              · skip
                refine g_iload X dX8_findBest_116 6 rfl ?_
                refine g_goto (tgt := 125) X dX8_findBest_118 (by decide) ?_
                refine g_puti X ck_X8 FM 14 (by decide) fl_X8_131 rfl rfl rfl dX8_findBest_125 ?_
                obtain ⟨w_3, ew_3⟩ : ∃ q_ : Wd, q_ = up w1 20 14 0 z_56 := ⟨_, rfl⟩
                refine g_w (w' := w_3) ew_3 ?_
                refine g_lv (lv' := [(0, .ref (gAd G 20)), (1, .int (iI load)), (2, .int (iI (u 5 0))), (3, .int (iI best)), (4, .int (iI set))]) [2, 3, 4, 0, 5] rfl ?_
                exact J_128 best w_3 ⟨(by
                    first
                    | exact fb_skip hfb (fun h => absurd h.1 c_39)
                    | exact fb_skip hfb (fun h => of_zero c_49 ⟨h.2.1, h.2.2⟩)
                    | exact absurd c_100 c_113
                    | exact absurd c_113 c_100
                    | (rw [ew_3, up_at]
                       rcases hy with q | q
                       · exact absurd (q.1.symm.trans c_100) (by decide)
                       · exact fb_old hfb (by omega) hzb.2 q.2.1 q.2.2)
                    | (rw [ew_3, up_at]
                       rcases hy with q | q
                       · exact fb_new hfb h0 (by omega) hcan hzb.2 hz0.2 q.2
                       · exact absurd q.1 c_100)), (by first | exact hf | (intro o f h; rw [ew_3, up_fn h]; exact hf o f h))⟩
            · skip
              refine g_iload X dX8_findBest_103 5 rfl ?_
              refine g_goto (tgt := 109) X dX8_findBest_105 (by decide) ?_
              refine g_istore_n (lv' := [(3, .int (iI set)), (6, .int (iI y)), (0, .ref (gAd G 20)), (1, .int (iI load)), (2, .int (iI (u 5 0))), (4, .int (iI set)), (5, .int (iI z_56))]) X dX8_findBest_109 rfl (by decide) rfl ?_
              refine g_aload_n X dX8_findBest_110 rfl 2 rfl ?_
              refine g_iload X dX8_findBest_111 1 rfl ?_
              refine g_if_eq (tgt := 121) X dX8_findBest_113 (by decide) (by rcases hy with q | q <;> (rw [q.1]; exact ⟨by decide, by decide⟩)) (fun c_113 => ?_) (fun c_113 => ?_)
              · skip
                refine g_aload_n X dX8_findBest_121 rfl 2 rfl ?_
                refine g_geti X ck_X8 FM 14 (by decide) fl_X8_131 (Or.inl rfl) dX8_findBest_122 ?_
                refine g_puti X ck_X8 FM 14 (by decide) fl_X8_131 rfl rfl rfl dX8_findBest_125 ?_
                obtain ⟨w_4, ew_4⟩ : ∃ q_ : Wd, q_ = up w1 20 14 0 (w1 20 14 0) := ⟨_, rfl⟩
                refine g_w (w' := w_4) ew_4 ?_
                refine g_lv (lv' := [(0, .ref (gAd G 20)), (1, .int (iI load)), (2, .int (iI (u 5 0))), (3, .int (iI set)), (4, .int (iI set))]) [2, 3, 4, 0, 5] rfl ?_
                exact J_128 set w_4 ⟨(by
                    first
                    | exact fb_skip hfb (fun h => absurd h.1 c_39)
                    | exact fb_skip hfb (fun h => of_zero c_49 ⟨h.2.1, h.2.2⟩)
                    | exact absurd c_100 c_113
                    | exact absurd c_113 c_100
                    | (rw [ew_4, up_at]
                       rcases hy with q | q
                       · exact absurd (q.1.symm.trans c_100) (by decide)
                       · exact fb_old hfb (by omega) hzb.2 q.2.1 q.2.2)
                    | (rw [ew_4, up_at]
                       rcases hy with q | q
                       · exact fb_new hfb h0 (by omega) hcan hzb.2 hz0.2 q.2
                       · exact absurd q.1 c_100)), (by first | exact hf | (intro o f h; rw [ew_4, up_fn h]; exact hf o f h))⟩
              · skip
                refine g_iload X dX8_findBest_116 6 rfl ?_
                refine g_goto (tgt := 125) X dX8_findBest_118 (by decide) ?_
                refine g_puti X ck_X8 FM 14 (by decide) fl_X8_131 rfl rfl rfl dX8_findBest_125 ?_
                obtain ⟨w_5, ew_5⟩ : ∃ q_ : Wd, q_ = up w1 20 14 0 z_56 := ⟨_, rfl⟩
                refine g_w (w' := w_5) ew_5 ?_
                refine g_lv (lv' := [(0, .ref (gAd G 20)), (1, .int (iI load)), (2, .int (iI (u 5 0))), (3, .int (iI set)), (4, .int (iI set))]) [2, 3, 4, 0, 5] rfl ?_
                exact J_128 set w_5 ⟨(by
                    first
                    | exact fb_skip hfb (fun h => absurd h.1 c_39)
                    | exact fb_skip hfb (fun h => of_zero c_49 ⟨h.2.1, h.2.2⟩)
                    | exact absurd c_100 c_113
                    | exact absurd c_113 c_100
                    | (rw [ew_5, up_at]
                       rcases hy with q | q
                       · exact absurd (q.1.symm.trans c_100) (by decide)
                       · exact fb_old hfb (by omega) hzb.2 q.2.1 q.2.2)
                    | (rw [ew_5, up_at]
                       rcases hy with q | q
                       · exact fb_new hfb h0 (by omega) hcan hzb.2 hz0.2 q.2
                       · exact absurd q.1 c_100)), (by first | exact hf | (intro o f h; rw [ew_5, up_fn h]; exact hf o f h))⟩
          · intro J_96
            try dsimp only at J_96
            refine g_iload X dX8_findBest_61 0 rfl ?_
            refine g_aload_n X dX8_findBest_63 rfl 1 rfl ?_
            refine g_geti X ck_X8 FM 14 (by decide) fl_X8_131 (Or.inl rfl) dX8_findBest_64 ?_
            refine g_icmp_lt (tgt := 91) X dX8_findBest_67 (by decide) (by unfold InR; omega) (by unfold InR; omega) (fun c_67 => ?_) (fun c_67 => ?_)
            · skip
              refine g_iconst X dX8_findBest_91 ?_
              refine g_goto (tgt := 96) X dX8_findBest_92 (by decide) ?_
              refine g_lv (lv' := [(0, .ref (gAd G 20)), (1, .int (iI load)), (2, .int (iI (u 5 0))), (3, .int (iI best)), (4, .int (iI set)), (5, .int (iI z_56))]) [1, 2, 3, 4, 5, 0] rfl ?_
              exact J_96 1 (by first | exact Or.inl ⟨rfl, by omega⟩ | exact Or.inr ⟨rfl, by omega, by omega⟩)
            · skip
              refine g_iload X dX8_findBest_70 0 rfl ?_
              refine g_aload_n X dX8_findBest_72 rfl 1 rfl ?_
              refine g_geti X ck_X8 FM 14 (by decide) fl_X8_131 (Or.inl rfl) dX8_findBest_73 ?_
              refine g_icmp_ne (tgt := 95) X dX8_findBest_76 (by decide) (by unfold InR; omega) (by unfold InR; omega) (fun c_76 => ?_) (fun c_76 => ?_)
              · skip
                refine g_iconst X dX8_findBest_95 ?_
                refine g_lv (lv' := [(0, .ref (gAd G 20)), (1, .int (iI load)), (2, .int (iI (u 5 0))), (3, .int (iI best)), (4, .int (iI set)), (5, .int (iI z_56))]) [1, 2, 3, 4, 5, 0] rfl ?_
                exact J_96 0 (by first | exact Or.inl ⟨rfl, by omega⟩ | exact Or.inr ⟨rfl, by omega, by omega⟩)
              · skip
                refine g_iload X dX8_findBest_79 5 rfl ?_
                refine g_callsi (st := []) X (c_X8_ones l G set w1 (by omega)) cm_X8_ones sm_X8_ones ml_X8_137 ⟨Nat.le_of_ble_eq_true rfl, Nat.le_of_ble_eq_true rfl⟩ rfl rfl (Nat.le_of_ble_eq_true rfl) dX8_findBest_81 (fn_i ?_)
                refine g_iload_n X dX8_findBest_84 rfl 4 rfl ?_
                refine g_callsi (st := [.int (iI (cnt set))]) X (c_X8_ones l G best w1 (by omega)) cm_X8_ones sm_X8_ones ml_X8_137 ⟨Nat.le_of_ble_eq_true rfl, Nat.le_of_ble_eq_true rfl⟩ rfl rfl (Nat.le_of_ble_eq_true rfl) dX8_findBest_85 (fn_i ?_)
                refine g_icmp_ge (tgt := 95) X dX8_findBest_88 (by decide) (by unfold InR; omega) (by have := hb0 (by omega); unfold InR; omega) (fun c_88 => ?_) (fun c_88 => ?_)
                · skip
                  refine g_iconst X dX8_findBest_95 ?_
                  refine g_lv (lv' := [(0, .ref (gAd G 20)), (1, .int (iI load)), (2, .int (iI (u 5 0))), (3, .int (iI best)), (4, .int (iI set)), (5, .int (iI z_56))]) [1, 2, 3, 4, 5, 0] rfl ?_
                  exact J_96 0 (by first | exact Or.inl ⟨rfl, by omega⟩ | exact Or.inr ⟨rfl, by omega, by omega⟩)
                · skip
                  refine g_iconst X dX8_findBest_91 ?_
                  refine g_goto (tgt := 96) X dX8_findBest_92 (by decide) ?_
                  refine g_lv (lv' := [(0, .ref (gAd G 20)), (1, .int (iI load)), (2, .int (iI (u 5 0))), (3, .int (iI best)), (4, .int (iI set)), (5, .int (iI z_56))]) [1, 2, 3, 4, 5, 0] rfl ?_
                  exact J_96 1 (by first | exact Or.inl ⟨rfl, by omega⟩ | exact Or.inr ⟨rfl, by omega, by omega⟩)
set_option maxHeartbeats 4000000 in
set_option maxRecDepth 100000 in
theorem c_X8_best (l : Launch) (G : Ly) (load : Int) (what : Int) (pl : Nat → Nat → Int) (u : Nat → Nat → Int) (B : Int) (w : Wd) (FM : gOb G 20 = some 8) (hT : PlR pl (w 20 4)) (hp : PV pl) (hR : RS u (w 20 5)) (hS : SV B (pl 0 0) u) (hU : SU (pl 0 0) u) (hB : B ≤ 99000) (hC : TbC pl (w 20)) (hr_load : InR load) (hr_what : InR what) : Mi l yX8_best cX8_best 4 (some .int) 4 102 G [.ref (gAd G 20), .int (iI load), .int (iI what)] w (fun z w2 => (∀ o f, ¬ (o = 20 ∧ 10 ≤ f ∧ f ≤ 14) → w2 o f = w o f) ∧ TbC pl (w2 20) ∧ (¬ ((0 ≤ load ∧ load ≤ 480) ∧ 0 ≤ what ∧ what ≤ 1) → z = -1) ∧ (((0 ≤ load ∧ load ≤ 480) ∧ 0 ≤ what ∧ what ≤ 1) → ∃ b p, FB pl (liftX u) load (u 5 0) (bshl 1 (pl 0 0)) b p ∧ z = if b = -4 then -4 else if what = 0 then b else p)) := by
  refine mi_of (lv := [(0, .ref (gAd G 20)), (1, .int (iI load)), (2, .int (iI what))]) (by decide) (Nat.le_of_ble_eq_true rfl) rfl ?_
  intro p_ e_ s_ m_ b_ h_ c_ X
  have hp0 := hp.1
  have hp7 := hp.2.2
  have t36 := hT.1
  have sT := hS.1
  have sB := hS.2.1
  have sC := hS.2.2.1
  have sD := hS.2.2.2.1
  have sE := hS.2.2.2.2.1
  have sF := hS.2.2.2.2.2.1
  have sG := hS.2.2.2.2.2.2.1
  have sH := hS.2.2.2.2.2.2.2
  have rT := hR.1
  have rB := hR.2.1
  have rL := hR.2.2.1
  have rM := hR.2.2.2
  have uA := hU.1
  have hrun := bt_or (s := u 6 0) (t := u 7 0) (by omega) (by omega) (by omega) (by omega)
  have r00 : w 20 5 0 = u 0 0 := rT 0 (by decide)
  have r01 : w 20 5 1 = u 0 1 := rT 1 (by decide)
  have r02 : w 20 5 2 = u 0 2 := rT 2 (by decide)
  have r03 : w 20 5 3 = u 0 3 := rT 3 (by decide)
  have r04 : w 20 5 4 = u 1 0 := rB.1
  have hall := bt_all (pl 0 0) (by omega) (by omega)
  have hlf0 : 0 ≤ liftX u ∧ liftX u ≤ 45 := by unfold liftX; omega
  refine g_iload_n X dX8_best_0 rfl 1 rfl ?_
  refine g_iconst X dX8_best_1 ?_
  refine g_sipush X dX8_best_2 (by decide) ?_
  refine g_callsi (st := []) X (c_X8_in l G load 0 480 w (by exact hr_load) (by first | assumption | omega | (unfold InR; omega)) (by first | assumption | omega | (unfold InR; omega))) cm_X8_in sm_X8_in ml_X8_61 ⟨Nat.le_of_ble_eq_true rfl, Nat.le_of_ble_eq_true rfl⟩ rfl rfl (Nat.le_of_ble_eq_true rfl) dX8_best_5 (fn_i ?_)
  refine g_if_eq (tgt := 20) X dX8_best_8 (by decide) (by exact in01) (fun c_8 => ?_) (fun c_8 => ?_)
  · skip
    refine g_iconst X dX8_best_20 ?_
    exact g_iret X rfl rfl dX8_best_21 (by
        refine ⟨fun _ _ _ => rfl, hC, fun _ => rfl, fun h => absurd h ?_⟩
        first
        | exact fun h => of_zero c_8 h.1
        | exact fun h => of_zero (Classical.not_not.mp c_17) h.2)
  · skip
    refine g_iload_n X dX8_best_11 rfl 2 rfl ?_
    refine g_iconst X dX8_best_12 ?_
    refine g_iconst X dX8_best_13 ?_
    refine g_callsi (st := []) X (c_X8_in l G what 0 1 w (by exact hr_what) (by first | assumption | omega | (unfold InR; omega)) (by first | assumption | omega | (unfold InR; omega))) cm_X8_in sm_X8_in ml_X8_61 ⟨Nat.le_of_ble_eq_true rfl, Nat.le_of_ble_eq_true rfl⟩ rfl rfl (Nat.le_of_ble_eq_true rfl) dX8_best_14 (fn_i ?_)
    refine g_if_ne (tgt := 22) X dX8_best_17 (by decide) (by exact in01) (fun c_17 => ?_) (fun c_17 => ?_)
    · skip
      refine g_aload_n X dX8_best_22 rfl 0 rfl ?_
      refine g_iload_n X dX8_best_23 rfl 1 rfl ?_
      refine g_calli (st := []) X (c_X8_findBest l G load pl u B w FM (by first | assumption | omega | (unfold InR; omega)) (by first | assumption | omega | (unfold InR; omega)) (by first | assumption | omega | (unfold InR; omega)) (by first | assumption | omega | (unfold InR; omega)) (by first | assumption | omega | (unfold InR; omega)) (by first | assumption | omega | (unfold InR; omega)) (by first | assumption | omega | (unfold InR; omega)) (by exact of_one c_8)) cm_X8_findBest im_X8_findBest se_X8_findBest ml_X8_187 ck_X8 FM ⟨Nat.le_of_ble_eq_true rfl, Nat.le_of_ble_eq_true rfl⟩ rfl rfl (Nat.le_of_ble_eq_true rfl) dX8_best_24 ?_
      rintro z_24 u_24 ⟨hf, hC2, hfb⟩
      refine g_istore_n (lv' := [(3, .int (iI z_24)), (0, .ref (gAd G 20)), (1, .int (iI load)), (2, .int (iI what))]) X dX8_best_27 rfl (by decide) rfl ?_
      refine g_iload_n X dX8_best_28 rfl 0 rfl ?_
      refine g_bipush X dX8_best_29 (by decide) ?_
      refine g_icmp_ne (tgt := 39) X dX8_best_31 (by decide) (by have := fb_in hp hlf0 hfb; unfold InR; omega) ⟨by decide, by decide⟩ (fun c_31 => ?_) (fun c_31 => ?_)
      · skip
        refine g_iload_n X dX8_best_39 rfl 3 rfl ?_
        refine g_if_ne (tgt := 47) X dX8_best_40 (by decide) (by exact hr_what) (fun c_40 => ?_) (fun c_40 => ?_)
        · skip
          refine g_aload_n X dX8_best_47 rfl 1 rfl ?_
          refine g_geti X ck_X8 FM 14 (by decide) fl_X8_131 (Or.inl rfl) dX8_best_48 ?_
          exact g_iret X rfl rfl dX8_best_51 (by
              refine ⟨hf, hC2, fun h => absurd ⟨of_one c_8, of_one c_17⟩ h, fun _ => ⟨_, _, hfb, ?_⟩⟩
              first
              | exact (if_pos (by omega)).symm
              | (rw [if_neg (by omega)]; first | exact (if_pos (by omega)).symm | exact (if_neg (by omega)).symm))
        · skip
          refine g_iload_n X dX8_best_43 rfl 0 rfl ?_
          refine g_goto (tgt := 51) X dX8_best_44 (by decide) ?_
          exact g_iret X rfl rfl dX8_best_51 (by
              refine ⟨hf, hC2, fun h => absurd ⟨of_one c_8, of_one c_17⟩ h, fun _ => ⟨_, _, hfb, ?_⟩⟩
              first
              | exact (if_pos (by omega)).symm
              | (rw [if_neg (by omega)]; first | exact (if_pos (by omega)).symm | exact (if_neg (by omega)).symm))
      · skip
        refine g_bipush X dX8_best_34 (by decide) ?_
        refine g_goto (tgt := 51) X dX8_best_36 (by decide) ?_
        exact g_iret X rfl rfl dX8_best_51 (by
            refine ⟨hf, hC2, fun h => absurd ⟨of_one c_8, of_one c_17⟩ h, fun _ => ⟨_, _, hfb, ?_⟩⟩
            first
            | exact (if_pos (by omega)).symm
            | (rw [if_neg (by omega)]; first | exact (if_pos (by omega)).symm | exact (if_neg (by omega)).symm))
    · skip
      refine g_iconst X dX8_best_20 ?_
      exact g_iret X rfl rfl dX8_best_21 (by
          refine ⟨fun _ _ _ => rfl, hC, fun _ => rfl, fun h => absurd h ?_⟩
          first
          | exact fun h => of_zero c_8 h.1
          | exact fun h => of_zero (Classical.not_not.mp c_17) h.2)
set_option maxHeartbeats 4000000 in
set_option maxRecDepth 100000 in
theorem c_X8_more (l : Launch) (G : Ly) (pl : Nat → Nat → Int) (u : Nat → Nat → Int) (B : Int) (w : Wd) (FM : gOb G 20 = some 8) (hT : PlR pl (w 20 4)) (hp : PV pl) (hR : RS u (w 20 5)) (hS : SV B (pl 0 0) u) (hU : SU (pl 0 0) u) (hB : B ≤ 99000) (hC : TbC pl (w 20)) : Mi l yX8_more cX8_more 3 (some .int) 6 147 G [.ref (gAd G 20)] w (fun z w2 => (∀ o f, ¬ (o = 20 ∧ 10 ≤ f ∧ f ≤ 14) → w2 o f = w o f) ∧ TbC pl (w2 20) ∧ (madeX pl u ≠ u 0 0 → z = -4) ∧ (madeX pl u = u 0 0 → ∃ b p e, FB pl (liftX u) (u 0 0) (u 5 0) (bshl 1 (pl 0 0)) b p ∧ PowX pl u e ∧ z = if b = -4 then -4 else e - p)) := by
  refine mi_of (lv := [(0, .ref (gAd G 20))]) (by decide) (Nat.le_of_ble_eq_true rfl) rfl ?_
  intro p_ e_ s_ m_ b_ h_ c_ X
  have hp0 := hp.1
  have hp7 := hp.2.2
  have t36 := hT.1
  have sT := hS.1
  have sB := hS.2.1
  have sC := hS.2.2.1
  have sD := hS.2.2.2.1
  have sE := hS.2.2.2.2.1
  have sF := hS.2.2.2.2.2.1
  have sG := hS.2.2.2.2.2.2.1
  have sH := hS.2.2.2.2.2.2.2
  have rT := hR.1
  have rB := hR.2.1
  have rL := hR.2.2.1
  have rM := hR.2.2.2
  have uA := hU.1
  have hrun := bt_or (s := u 6 0) (t := u 7 0) (by omega) (by omega) (by omega) (by omega)
  have r00 : w 20 5 0 = u 0 0 := rT 0 (by decide)
  have r01 : w 20 5 1 = u 0 1 := rT 1 (by decide)
  have r02 : w 20 5 2 = u 0 2 := rT 2 (by decide)
  have r03 : w 20 5 3 = u 0 3 := rT 3 (by decide)
  have r04 : w 20 5 4 = u 1 0 := rB.1
  have hall := bt_all (pl 0 0) (by omega) (by omega)
  have hlf0 : 0 ≤ liftX u ∧ liftX u ≤ 45 := by unfold liftX; omega
  have hmr := (made_can (u := u) hp).2 (by omega) (by omega)
  refine g_aload_n X dX8_more_0 rfl 0 rfl ?_
  refine g_calli (st := []) X (c_X8_made l G pl u B w FM (by first | assumption | omega | (unfold InR; omega)) (by first | assumption | omega | (unfold InR; omega)) (by first | assumption | omega | (unfold InR; omega)) (by first | assumption | omega | (unfold InR; omega)) (by first | assumption | omega | (unfold InR; omega)) (by first | assumption | omega | (unfold InR; omega)) (by first | assumption | omega | (unfold InR; omega))) cm_X8_made im_X8_made se_X8_made ml_X8_147 ck_X8 FM ⟨Nat.le_of_ble_eq_true rfl, Nat.le_of_ble_eq_true rfl⟩ rfl rfl (Nat.le_of_ble_eq_true rfl) dX8_more_1 ?_
  rintro z_1 u_1 ⟨hz, ⟨hfa, hCa, a11, a12⟩, -⟩
  refine g_istore_n (lv' := [(1, .int (iI z_1)), (0, .ref (gAd G 20))]) X dX8_more_4 rfl (by decide) rfl ?_
  refine g_iload_n X dX8_more_5 rfl 0 rfl ?_
  refine g_aload_n X dX8_more_6 rfl 1 rfl ?_
  refine g_geta X ck_X8 FM 5 (by decide) fl_X8_19 rfl dX8_more_7 ?_
  refine g_iconst X dX8_more_10 ?_
  refine h_iald (a := 0) (j := 0) X rfl FM (by decide) (show fkX 8 5 = (1, 101) from rfl) (by decide) (by omega) (by omega) dX8_more_11 ?_
  rw [show (u_1 20 5 0 : Int) = u 0 0 from (by rw [hfa 20 5 (by decide)]; exact r00)]
  refine g_icmp_eq (tgt := 18) X dX8_more_12 (by decide) (by rw [hz]; unfold InR; omega) (by unfold InR; omega) (fun c_12 => ?_) (fun c_12 => ?_)
  · skip
    refine g_aload_n X dX8_more_18 rfl 1 rfl ?_
    refine g_calli (st := []) X (c_X8_powerNow l G pl u B u_1 FM (by rw [hfa 20 4 (by decide)]; exact hT) (by first | assumption | omega | (unfold InR; omega)) (by rw [hfa 20 5 (by decide)]; exact hR) (by first | assumption | omega | (unfold InR; omega)) (by first | assumption | omega | (unfold InR; omega)) (by first | assumption | omega | (unfold InR; omega)) (by exact hCa)) cm_X8_powerNow im_X8_powerNow se_X8_powerNow ml_X8_156 ck_X8 FM ⟨Nat.le_of_ble_eq_true rfl, Nat.le_of_ble_eq_true rfl⟩ rfl rfl (Nat.le_of_ble_eq_true rfl) dX8_more_19 ?_
    rintro z_19 u_19 ⟨hpw, hfb_, hCb, b11, b12⟩
    refine g_istore_n (lv' := [(2, .int (iI z_19)), (1, .int (iI z_1)), (0, .ref (gAd G 20))]) X dX8_more_22 rfl (by decide) rfl ?_
    refine g_aload_n X dX8_more_23 rfl 2 rfl ?_
    refine g_aload_n X dX8_more_24 rfl 2 rfl ?_
    refine g_geta X ck_X8 FM 5 (by decide) fl_X8_19 rfl dX8_more_25 ?_
    refine g_iconst X dX8_more_28 ?_
    refine h_iald (a := 0) (j := 0) X rfl FM (by decide) (show fkX 8 5 = (1, 101) from rfl) (by decide) (by omega) (by omega) dX8_more_29 ?_
    rw [show (u_19 20 5 0 : Int) = u 0 0 from (by rw [hfb_ 20 5 (by decide), hfa 20 5 (by decide)]; exact r00)]
    refine g_calli (st := []) X (c_X8_findBest l G (u 0 0) pl u B u_19 FM (by rw [hfb_ 20 4 (by decide), hfa 20 4 (by decide)]; exact hT) (by first | assumption | omega | (unfold InR; omega)) (by rw [hfb_ 20 5 (by decide), hfa 20 5 (by decide)]; exact hR) (by first | assumption | omega | (unfold InR; omega)) (by first | assumption | omega | (unfold InR; omega)) (by first | assumption | omega | (unfold InR; omega)) (by exact hCb) (by omega)) cm_X8_findBest im_X8_findBest se_X8_findBest ml_X8_187 ck_X8 FM ⟨Nat.le_of_ble_eq_true rfl, Nat.le_of_ble_eq_true rfl⟩ rfl rfl (Nat.le_of_ble_eq_true rfl) dX8_more_30 ?_
    rintro z_30 u_30 ⟨hfc, hCc, hfb⟩
    refine g_bipush X dX8_more_33 (by decide) ?_
    refine g_icmp_ne (tgt := 43) X dX8_more_35 (by decide) (by have := fb_in hp hlf0 hfb; unfold InR; omega) ⟨by decide, by decide⟩ (fun c_35 => ?_) (fun c_35 => ?_)
    · skip
      refine g_iload_n X dX8_more_43 rfl 0 rfl ?_
      refine g_aload_n X dX8_more_44 rfl 2 rfl ?_
      refine g_geti X ck_X8 FM 14 (by decide) fl_X8_131 (Or.inl rfl) dX8_more_45 ?_
      refine g_isub X dX8_more_48 ?_
      exact g_iret X rfl rfl dX8_more_49 (by
          refine ⟨fun o f h => by rw [hfc o f h, hfb_ o f (fun z => h ⟨z.1, by omega, by omega⟩)]; exact hfa o f (fun z => h ⟨z.1, by omega, by omega⟩), hCc, fun h => absurd (hz.symm.trans (by omega)) h, fun _ => ⟨_, _, _, hfb, hpw, ?_⟩⟩
          first
          | exact (if_pos (by omega)).symm
          | exact (if_neg (by omega)).symm)
    · skip
      refine g_bipush X dX8_more_38 (by decide) ?_
      refine g_goto (tgt := 49) X dX8_more_40 (by decide) ?_
      exact g_iret X rfl rfl dX8_more_49 (by
          refine ⟨fun o f h => by rw [hfc o f h, hfb_ o f (fun z => h ⟨z.1, by omega, by omega⟩)]; exact hfa o f (fun z => h ⟨z.1, by omega, by omega⟩), hCc, fun h => absurd (hz.symm.trans (by omega)) h, fun _ => ⟨_, _, _, hfb, hpw, ?_⟩⟩
          first
          | exact (if_pos (by omega)).symm
          | exact (if_neg (by omega)).symm)
  · skip
    refine g_bipush X dX8_more_15 (by decide) ?_
    exact g_iret X rfl rfl dX8_more_17 (by exact ⟨fun o f h => hfa o f (fun z => h ⟨z.1, by omega, by omega⟩), hCa, fun _ => rfl, fun h => absurd (hz.trans h) c_12⟩)
set_option maxHeartbeats 4000000 in
set_option maxRecDepth 100000 in
theorem c_X8_now (l : Launch) (G : Ly) (what : Int) (pl : Nat → Nat → Int) (u : Nat → Nat → Int) (B : Int) (w : Wd) (FM : gOb G 20 = some 8) (hT : PlR pl (w 20 4)) (hp : PV pl) (hR : RS u (w 20 5)) (hS : SV B (pl 0 0) u) (hU : SU (pl 0 0) u) (hB : B ≤ 99000) (hC : TbC pl (w 20)) (hr_what : InR what) : Mi l yX8_now cX8_now 4 (some .int) 7 169 G [.ref (gAd G 20), .int (iI what)] w (fun z w2 => (∀ o f, ¬ (o = 20 ∧ 10 ≤ f ∧ f ≤ 14) → w2 o f = w o f) ∧ TbC pl (w2 20) ∧ (what = 0 → z = madeX pl u) ∧ (what = 1 → z = max 0 (u 0 0 - madeX pl u)) ∧ (what = 2 → z = max 0 (madeX pl u - u 0 0)) ∧ (what = 3 → PowX pl u z) ∧ (what = 4 → z = max 0 (sumB (runX u) (pl 6) (pl 0 0).toNat - u 0 1)) ∧ (what = 5 → z = liftX u) ∧ (what = 6 → (madeX pl u ≠ u 0 0 → z = -4) ∧ (madeX pl u = u 0 0 → ∃ b p e, FB pl (liftX u) (u 0 0) (u 5 0) (bshl 1 (pl 0 0)) b p ∧ PowX pl u e ∧ z = if b = -4 then -4 else e - p)) ∧ ((what < 0 ∨ 6 < what) → z = -1)) := by
  refine mi_of (lv := [(0, .ref (gAd G 20)), (1, .int (iI what))]) (by decide) (Nat.le_of_ble_eq_true rfl) rfl ?_
  intro p_ e_ s_ m_ b_ h_ c_ X
  have hp0 := hp.1
  have hp7 := hp.2.2
  have t36 := hT.1
  have sT := hS.1
  have sB := hS.2.1
  have sC := hS.2.2.1
  have sD := hS.2.2.2.1
  have sE := hS.2.2.2.2.1
  have sF := hS.2.2.2.2.2.1
  have sG := hS.2.2.2.2.2.2.1
  have sH := hS.2.2.2.2.2.2.2
  have rT := hR.1
  have rB := hR.2.1
  have rL := hR.2.2.1
  have rM := hR.2.2.2
  have uA := hU.1
  have hrun := bt_or (s := u 6 0) (t := u 7 0) (by omega) (by omega) (by omega) (by omega)
  have r00 : w 20 5 0 = u 0 0 := rT 0 (by decide)
  have r01 : w 20 5 1 = u 0 1 := rT 1 (by decide)
  have r02 : w 20 5 2 = u 0 2 := rT 2 (by decide)
  have r03 : w 20 5 3 = u 0 3 := rT 3 (by decide)
  have r04 : w 20 5 4 = u 1 0 := rB.1
  have hall := bt_all (pl 0 0) (by omega) (by omega)
  have hlf0 : 0 ≤ liftX u ∧ liftX u ≤ 45 := by unfold liftX; omega
  have hmr := (made_can (u := u) hp).2 (by omega) (by omega)
  have hfw := pv_flow hp (runX u)
  refine g_iload_n X dX8_now_0 rfl 1 rfl ?_
  refine g_iconst X dX8_now_1 ?_
  refine g_bipush X dX8_now_2 (by decide) ?_
  refine g_callsi (st := []) X (c_X8_in l G what 0 6 w (by exact hr_what) (by first | assumption | omega | (unfold InR; omega)) (by first | assumption | omega | (unfold InR; omega))) cm_X8_in sm_X8_in ml_X8_61 ⟨Nat.le_of_ble_eq_true rfl, Nat.le_of_ble_eq_true rfl⟩ rfl rfl (Nat.le_of_ble_eq_true rfl) dX8_now_4 (fn_i ?_)
  refine g_if_ne (tgt := 12) X dX8_now_7 (by decide) (by exact in01) (fun c_7 => ?_) (fun c_7 => ?_)
  · skip
    refine g_aload_n X dX8_now_12 rfl 0 rfl ?_
    refine g_geta X ck_X8 FM 5 (by decide) fl_X8_19 rfl dX8_now_13 ?_
    refine g_iconst X dX8_now_16 ?_
    refine h_iald (a := 0) (j := 0) X rfl FM (by decide) (show fkX 8 5 = (1, 101) from rfl) (by decide) (by omega) (by omega) dX8_now_17 ?_
    rw [show (w 20 5 0 : Int) = u 0 0 from r00]
    refine g_aload_n X dX8_now_18 rfl 0 rfl ?_
    refine g_calli (st := [.int (iI (u 0 0))]) X (c_X8_made l G pl u B w FM (by first | assumption | omega | (unfold InR; omega)) (by first | assumption | omega | (unfold InR; omega)) (by first | assumption | omega | (unfold InR; omega)) (by first | assumption | omega | (unfold InR; omega)) (by first | assumption | omega | (unfold InR; omega)) (by first | assumption | omega | (unfold InR; omega)) (by first | assumption | omega | (unfold InR; omega))) cm_X8_made im_X8_made se_X8_made ml_X8_147 ck_X8 FM ⟨Nat.le_of_ble_eq_true rfl, Nat.le_of_ble_eq_true rfl⟩ rfl rfl (Nat.le_of_ble_eq_true rfl) dX8_now_19 ?_
    rintro z_19 u_19 ⟨hz, ⟨hfa, hCa, a11, a12⟩, -⟩
    have a4 : u_19 20 4 = w 20 4 := hfa 20 4 (by decide)
    have a5 : u_19 20 5 = w 20 5 := hfa 20 5 (by decide)
    refine g_isub X dX8_now_22 ?_
    refine g_istore_n (lv' := [(2, .int (iI ((u 0 0) - z_19))), (0, .ref (gAd G 20)), (1, .int (iI what))]) X dX8_now_23 rfl (by decide) rfl ?_
    refine g_aload_n X dX8_now_24 rfl 1 rfl ?_
    refine g_aload_n X dX8_now_25 rfl 1 rfl ?_
    refine g_iconst X dX8_now_26 ?_
    refine g_calli (st := [.ref (gAd G 20)]) X (c_X8_standing l G 1 pl u B (runX u) u_19 FM (by rw [a4]; exact hT) (by first | assumption | omega | (unfold InR; omega)) (by rw [a5]; exact hR) (by first | assumption | omega | (unfold InR; omega)) (by first | assumption | omega | (unfold InR; omega)) (by first | assumption | omega | (unfold InR; omega)) (Or.inl ⟨rfl, rfl⟩)) cm_X8_standing im_X8_standing se_X8_standing ml_X8_140 ck_X8 FM ⟨Nat.le_of_ble_eq_true rfl, Nat.le_of_ble_eq_true rfl⟩ rfl rfl (Nat.le_of_ble_eq_true rfl) dX8_now_27 (fn_i ?_)
    refine g_iconst X dX8_now_30 ?_
    refine g_calli (st := []) X (c_X8_sumOf l G (runX u) 5 pl u_19 FM (by rw [a4]; exact hT) (by first | assumption | omega | (unfold InR; omega)) (by exact ⟨hrun.1, hrun.2.1⟩) (by first | assumption | omega | (unfold InR; omega))) cm_X8_sumOf im_X8_sumOf se_X8_sumOf ml_X8_90 ck_X8 FM ⟨Nat.le_of_ble_eq_true rfl, Nat.le_of_ble_eq_true rfl⟩ rfl rfl (Nat.le_of_ble_eq_true rfl) dX8_now_31 (fn_i ?_)
    rw [show (sumB (runX u) (pl ((5 : Int).toNat + 1)) (pl 0 0).toNat : Int) = sumB (runX u) (pl 6) (pl 0 0).toNat from rfl]
    refine g_aload_n X dX8_now_34 rfl 1 rfl ?_
    refine g_geta X ck_X8 FM 5 (by decide) fl_X8_19 rfl dX8_now_35 ?_
    refine g_iconst X dX8_now_38 ?_
    refine h_iald (a := 1) (j := 1) X rfl FM (by decide) (show fkX 8 5 = (1, 101) from rfl) (by decide) (by omega) (by omega) dX8_now_39 ?_
    rw [show (u_19 20 5 1 : Int) = u 0 1 from (by rw [a5]; exact r01)]
    refine g_isub X dX8_now_40 ?_
    refine g_istore_n (lv' := [(3, .int (iI ((sumB (runX u) (pl 6) (pl 0 0).toNat) - (u 0 1)))), (2, .int (iI ((u 0 0) - z_19))), (0, .ref (gAd G 20)), (1, .int (iI what))]) X dX8_now_41 rfl (by decide) rfl ?_
    refine g_iload_n X dX8_now_42 rfl 3 rfl ?_
    have hr_43 : InR what := (by exact hr_what)
    by_cases hs_43 : what < 0 ∨ 5 < what
    · refine g_tableOut (tgt := 126) X dX8_now_43 hr_43 hs_43 (by decide) ?_
      have hw6 := of_one c_7
      refine g_aload_n X dX8_now_126 rfl 2 rfl ?_
      refine g_calli (st := []) X (c_X8_more l G pl u B u_19 FM (by rw [a4]; exact hT) (by first | assumption | omega | (unfold InR; omega)) (by rw [a5]; exact hR) (by first | assumption | omega | (unfold InR; omega)) (by first | assumption | omega | (unfold InR; omega)) (by first | assumption | omega | (unfold InR; omega)) (by exact hCa)) cm_X8_more im_X8_more se_X8_more ml_X8_190 ck_X8 FM ⟨Nat.le_of_ble_eq_true rfl, Nat.le_of_ble_eq_true rfl⟩ rfl rfl (Nat.le_of_ble_eq_true rfl) dX8_now_127 ?_
      rintro z_127 u_127 ⟨hfb_, hCb, hmo⟩
      exact g_iret X rfl rfl dX8_now_130 (by exact ⟨fun o f h => by rw [hfb_ o f h]; exact hfa o f (fun z => h ⟨z.1, by omega, by omega⟩), hCb, (fun h => absurd h (by omega)), (fun h => absurd h (by omega)), (fun h => absurd h (by omega)), (fun h => absurd h (by omega)), (fun h => absurd h (by omega)), (fun h => absurd h (by omega)), (fun _ => hmo), (fun h => absurd h (by omega))⟩)
    by_cases hs_43_0 : what = 0
    · refine g_tableIn (off := 37) (tgt := 80) X dX8_now_43 hr_43 (by omega) (by omega) (by rw [hs_43_0]; rfl) (by decide) ?_
      have hw6 := of_one c_7
      refine g_aload_n X dX8_now_80 rfl 2 rfl ?_
      refine g_calli (st := []) X (c_X8_made l G pl u B u_19 FM (by rw [a4]; exact hT) (by first | assumption | omega | (unfold InR; omega)) (by rw [a5]; exact hR) (by first | assumption | omega | (unfold InR; omega)) (by first | assumption | omega | (unfold InR; omega)) (by first | assumption | omega | (unfold InR; omega)) (by exact hCa)) cm_X8_made im_X8_made se_X8_made ml_X8_147 ck_X8 FM ⟨Nat.le_of_ble_eq_true rfl, Nat.le_of_ble_eq_true rfl⟩ rfl rfl (Nat.le_of_ble_eq_true rfl) dX8_now_81 ?_
      rintro z_81 u_81 ⟨hz2, ⟨hfb_, hCb, b11, b12⟩, -⟩
      exact g_iret X rfl rfl dX8_now_84 (by exact ⟨fun o f h => by rw [hfb_ o f (fun z => h ⟨z.1, by omega, by omega⟩)]; exact hfa o f (fun z => h ⟨z.1, by omega, by omega⟩), hCb, (fun _ => hz2), (fun h => absurd h (by omega)), (fun h => absurd h (by omega)), (fun h => absurd h (by omega)), (fun h => absurd h (by omega)), (fun h => absurd h (by omega)), (fun h => absurd h (by omega)), (fun h => absurd h (by omega))⟩)
    by_cases hs_43_1 : what = 1
    · refine g_tableIn (off := 42) (tgt := 85) X dX8_now_43 hr_43 (by omega) (by omega) (by rw [hs_43_1]; rfl) (by decide) ?_
      have hw6 := of_one c_7
      refine g_iload_n X dX8_now_85 rfl 1 rfl ?_
      refine g_if_le (tgt := 93) X dX8_now_86 (by decide) (by rw [hz]; unfold InR; omega) (fun c_86 => ?_) (fun c_86 => ?_)
      · skip
        refine g_iconst X dX8_now_93 ?_
        exact g_iret X rfl rfl dX8_now_94 (by exact ⟨fun o f h => hfa o f (fun z => h ⟨z.1, by omega, by omega⟩), hCa, (fun h => absurd h (by omega)), (fun _ => by omega), (fun h => absurd h (by omega)), (fun h => absurd h (by omega)), (fun h => absurd h (by omega)), (fun h => absurd h (by omega)), (fun h => absurd h (by omega)), (fun h => absurd h (by omega))⟩)
      · skip
        refine g_iload_n X dX8_now_89 rfl 1 rfl ?_
        refine g_goto (tgt := 94) X dX8_now_90 (by decide) ?_
        exact g_iret X rfl rfl dX8_now_94 (by exact ⟨fun o f h => hfa o f (fun z => h ⟨z.1, by omega, by omega⟩), hCa, (fun h => absurd h (by omega)), (fun _ => by omega), (fun h => absurd h (by omega)), (fun h => absurd h (by omega)), (fun h => absurd h (by omega)), (fun h => absurd h (by omega)), (fun h => absurd h (by omega)), (fun h => absurd h (by omega))⟩)
    by_cases hs_43_2 : what = 2
    · refine g_tableIn (off := 52) (tgt := 95) X dX8_now_43 hr_43 (by omega) (by omega) (by rw [hs_43_2]; rfl) (by decide) ?_
      have hw6 := of_one c_7
      refine g_iload_n X dX8_now_95 rfl 1 rfl ?_
      refine g_if_ge (tgt := 104) X dX8_now_96 (by decide) (by rw [hz]; unfold InR; omega) (fun c_96 => ?_) (fun c_96 => ?_)
      · skip
        refine g_iconst X dX8_now_104 ?_
        exact g_iret X rfl rfl dX8_now_105 (by exact ⟨fun o f h => hfa o f (fun z => h ⟨z.1, by omega, by omega⟩), hCa, (fun h => absurd h (by omega)), (fun h => absurd h (by omega)), (fun _ => by omega), (fun h => absurd h (by omega)), (fun h => absurd h (by omega)), (fun h => absurd h (by omega)), (fun h => absurd h (by omega)), (fun h => absurd h (by omega))⟩)
      · skip
        refine g_iload_n X dX8_now_99 rfl 1 rfl ?_
        refine g_ineg X dX8_now_100 ?_
        refine g_goto (tgt := 105) X dX8_now_101 (by decide) ?_
        exact g_iret X rfl rfl dX8_now_105 (by exact ⟨fun o f h => hfa o f (fun z => h ⟨z.1, by omega, by omega⟩), hCa, (fun h => absurd h (by omega)), (fun h => absurd h (by omega)), (fun _ => by omega), (fun h => absurd h (by omega)), (fun h => absurd h (by omega)), (fun h => absurd h (by omega)), (fun h => absurd h (by omega)), (fun h => absurd h (by omega))⟩)
    by_cases hs_43_3 : what = 3
    · refine g_tableIn (off := 63) (tgt := 106) X dX8_now_43 hr_43 (by omega) (by omega) (by rw [hs_43_3]; rfl) (by decide) ?_
      have hw6 := of_one c_7
      refine g_aload_n X dX8_now_106 rfl 2 rfl ?_
      refine g_calli (st := []) X (c_X8_powerNow l G pl u B u_19 FM (by rw [a4]; exact hT) (by first | assumption | omega | (unfold InR; omega)) (by rw [a5]; exact hR) (by first | assumption | omega | (unfold InR; omega)) (by first | assumption | omega | (unfold InR; omega)) (by first | assumption | omega | (unfold InR; omega)) (by exact hCa)) cm_X8_powerNow im_X8_powerNow se_X8_powerNow ml_X8_156 ck_X8 FM ⟨Nat.le_of_ble_eq_true rfl, Nat.le_of_ble_eq_true rfl⟩ rfl rfl (Nat.le_of_ble_eq_true rfl) dX8_now_107 ?_
      rintro z_107 u_107 ⟨hpw, hfb_, hCb, b11, b12⟩
      exact g_iret X rfl rfl dX8_now_110 (by exact ⟨fun o f h => by rw [hfb_ o f (fun z => h ⟨z.1, by omega, by omega⟩)]; exact hfa o f (fun z => h ⟨z.1, by omega, by omega⟩), hCb, (fun h => absurd h (by omega)), (fun h => absurd h (by omega)), (fun h => absurd h (by omega)), (fun _ => hpw), (fun h => absurd h (by omega)), (fun h => absurd h (by omega)), (fun h => absurd h (by omega)), (fun h => absurd h (by omega))⟩)
    by_cases hs_43_4 : what = 4
    · refine g_tableIn (off := 68) (tgt := 111) X dX8_now_43 hr_43 (by omega) (by omega) (by rw [hs_43_4]; rfl) (by decide) ?_
      have hw6 := of_one c_7
      refine g_iload_n X dX8_now_111 rfl 0 rfl ?_
      refine g_if_le (tgt := 119) X dX8_now_112 (by decide) (by unfold InR; omega) (fun c_112 => ?_) (fun c_112 => ?_)
      · skip
        refine g_iconst X dX8_now_119 ?_
        exact g_iret X rfl rfl dX8_now_120 (by exact ⟨fun o f h => hfa o f (fun z => h ⟨z.1, by omega, by omega⟩), hCa, (fun h => absurd h (by omega)), (fun h => absurd h (by omega)), (fun h => absurd h (by omega)), (fun h => absurd h (by omega)), (fun _ => by omega), (fun h => absurd h (by omega)), (fun h => absurd h (by omega)), (fun h => absurd h (by omega))⟩)
      · skip
        refine g_iload_n X dX8_now_115 rfl 0 rfl ?_
        refine g_goto (tgt := 120) X dX8_now_116 (by decide) ?_
        exact g_iret X rfl rfl dX8_now_120 (by exact ⟨fun o f h => hfa o f (fun z => h ⟨z.1, by omega, by omega⟩), hCa, (fun h => absurd h (by omega)), (fun h => absurd h (by omega)), (fun h => absurd h (by omega)), (fun h => absurd h (by omega)), (fun _ => by omega), (fun h => absurd h (by omega)), (fun h => absurd h (by omega)), (fun h => absurd h (by omega))⟩)
    by_cases hs_43_5 : what = 5
    · refine g_tableIn (off := 78) (tgt := 121) X dX8_now_43 hr_43 (by omega) (by omega) (by rw [hs_43_5]; rfl) (by decide) ?_
      have hw6 := of_one c_7
      refine g_aload_n X dX8_now_121 rfl 2 rfl ?_
      refine g_calli (st := []) X (c_X8_lift l G  u_19 FM (by rw [a5]; omega) (by rw [a5]; omega)) cm_X8_lift im_X8_lift se_X8_lift ml_X8_106 ck_X8 FM ⟨Nat.le_of_ble_eq_true rfl, Nat.le_of_ble_eq_true rfl⟩ rfl rfl (Nat.le_of_ble_eq_true rfl) dX8_now_122 (fn_i ?_)
      exact g_iret X rfl rfl dX8_now_125 (by exact ⟨fun o f h => hfa o f (fun z => h ⟨z.1, by omega, by omega⟩), hCa, (fun h => absurd h (by omega)), (fun h => absurd h (by omega)), (fun h => absurd h (by omega)), (fun h => absurd h (by omega)), (fun h => absurd h (by omega)), (fun _ => by rw [a5, r02, r03]), (fun h => absurd h (by omega)), (fun h => absurd h (by omega))⟩)
    exact absurd trivial (by omega)
  · skip
    refine g_iconst X dX8_now_10 ?_
    exact g_iret X rfl rfl dX8_now_11 (by
        have hw := of_zero (Classical.not_not.mp c_7)
        exact ⟨fun _ _ _ => rfl, hC, (fun h => absurd h (by omega)), (fun h => absurd h (by omega)), (fun h => absurd h (by omega)), (fun h => absurd h (by omega)), (fun h => absurd h (by omega)), (fun h => absurd h (by omega)), (fun h => absurd h (by omega)), (fun _ => rfl)⟩)
