theorem on_in {pl : Nat → Nat → Int} (hp : PV pl) {s : Int} (h0 : 0 ≤ s) (h1 : s < 64) (hz : ∀ k : Nat, pl 0 0 ≤ (k : Int) → k < 6 → tb s k = 0) : 0 ≤ s ∧ s < bshl 1 (pl 0 0) := by
  have h : ∀ a : Fin 64, ∀ n : Fin 7, (∀ k, n.val ≤ k → k < 6 → tb (a.val : Int) k = 0) → (a.val : Int) < bshl 1 (n.val : Int) := by
    have : ∀ a : Fin 64, ∀ n : Fin 7, (∀ k : Fin 6, n.val ≤ k.val → tb (a.val : Int) k.val = 0) → (a.val : Int) < bshl 1 (n.val : Int) := by decide +kernel
    exact fun a n q => this a n (fun k hk => q k.val hk k.isLt)
  have hp0 := hp.1
  have q := h ⟨s.toNat, by omega⟩ ⟨(pl 0 0).toNat, by omega⟩ (fun k a b => by
    show tb ((s.toNat : Nat) : Int) k = 0
    rw [show ((s.toNat : Nat) : Int) = s by omega]
    exact hz k (by have a2 : (pl 0 0).toNat ≤ k := a; omega) b)
  have q2 : ((s.toNat : Nat) : Int) < bshl 1 (((pl 0 0).toNat : Nat) : Int) := q
  rw [show ((s.toNat : Nat) : Int) = s by omega, show (((pl 0 0).toNat : Nat) : Int) = pl 0 0 by omega] at q2
  exact ⟨h0, q2⟩
theorem best_pk {pl : Nat → Nat → Int} (hp : PV pl) {lift s t : Int} (hl : 0 ≤ lift ∧ lift ≤ 45) (hc : CanX pl s t) : ∃ v, BestC pl (pkX pl lift) s (pl 0 0).toNat t v := by
  refine best_ex (fun x hx => ?_) (can_fea _ _ (pv_lm hp) hc.1 hc.2)
  rw [pk_split]
  have a := pw_sum hp hl hx
  have b := code_lt (s := s) (x := x) (j := 0) (fun k hk => absurd hk (Nat.not_lt_zero _)) (pl 0 0).toNat (by omega) (by have := hp.1; omega) (fea_127 hp hx)
  omega
theorem sN_eq {a b : Nat → Int} : ∀ n, (∀ m, m < n → a m ≤ b m) → sumN a n = sumN b n → ∀ m, m < n → a m = b m
  | 0, _, _, m, h => absurd h (Nat.not_lt_zero _)
  | n + 1, hle, hs, m, hm => by
    have hs2 : sumN a n + a n = sumN b n + b n := hs
    have h1 := hle n (by omega)
    have h2 : sumN a n ≤ sumN b n := by
      clear hs hs2 h1 hm
      induction n with
      | zero => exact Int.le_refl _
      | succ k ih =>
        have h3 := ih (fun m hm => hle m (by omega))
        have h4 := hle k (by omega)
        show sumN a k + a k ≤ sumN b k + b k
        omega
    by_cases e : m = n
    · rw [e]; omega
    · exact sN_eq n (fun m hm => hle m (by omega)) (by omega) m (by omega)
theorem sB_if (s : Int) (f : Nat → Int) : ∀ n, sumB s f n = sumN (fun m => if tb s m = 1 then f m else 0) n
  | 0 => rfl
  | n + 1 => by
    show sumB s f n + _ = sumN _ n + _
    rw [sB_if s f n]
theorem att_of {pl : Nat → Nat → Int} {lift s t v : Int} {x : Nat → Int} (hv : BestC pl (pkX pl lift) s (pl 0 0).toNat t v) (h : ∀ y, fea pl s y (pl 0 0).toNat → sumN y (pl 0 0).toNat = t → ∀ m, m < (pl 0 0).toNat → x m = y m) : Att pl lift s t v x := by
  obtain ⟨⟨y, a, b, c⟩, -⟩ := hv
  have e := h y a b
  refine ⟨fun m hm => by rw [e m hm]; exact a m hm, by rw [sumN_congr _ e]; exact b, ?_⟩
  rw [← c]
  exact sumB_congr _ (fun _ _ => rfl) (fun m hm _ => by rw [e m hm])
theorem att_lo {pl : Nat → Nat → Int} (hp : PV pl) {lift s t v : Int} {x : Nat → Int} (hv : BestC pl (pkX pl lift) s (pl 0 0).toNat t v) (ht : t = sumB s (pl 1) (pl 0 0).toNat) (hx : ∀ m, m < (pl 0 0).toNat → x m = if tb s m = 1 then pl 1 m else 0) : Att pl lift s t v x := by
  refine att_of hv (fun y hy hs m hm => ?_)
  rw [hx m hm]
  refine sN_eq (a := fun m => if tb s m = 1 then pl 1 m else 0) (b := y) _ (fun k hk => ?_) (by rw [← sB_if, hs, ht]) m hm
  have := hy k hk
  show (if tb s k = 1 then pl 1 k else 0) ≤ y k
  rcases tb01 s k with q | q
  · rw [if_neg (by omega), this.2 q]; exact Int.le_refl _
  · rw [if_pos q]; exact (this.1 q).1
theorem att_hi {pl : Nat → Nat → Int} (hp : PV pl) {lift s t v : Int} {x : Nat → Int} (hv : BestC pl (pkX pl lift) s (pl 0 0).toNat t v) (ht : t = sumB s (pl 2) (pl 0 0).toNat) (hx : ∀ m, m < (pl 0 0).toNat → x m = if tb s m = 1 then pl 2 m else 0) : Att pl lift s t v x := by
  refine att_of hv (fun y hy hs m hm => ?_)
  rw [hx m hm]
  refine (sN_eq (a := y) (b := fun m => if tb s m = 1 then pl 2 m else 0) _ (fun k hk => ?_) (by rw [← sB_if, hs, ht]) m hm).symm
  have := hy k hk
  show y k ≤ (if tb s k = 1 then pl 2 k else 0)
  rcases tb01 s k with q | q
  · rw [if_neg (by omega), this.2 q]; exact Int.le_refl _
  · rw [if_pos q]; exact (this.1 q).2
set_option maxHeartbeats 4000000 in
set_option maxRecDepth 100000 in
theorem c_X8_made (l : Launch) (G : Ly) (pl : Nat → Nat → Int) (u : Nat → Nat → Int) (B : Int) (w : Wd) (FM : gOb G 20 = some 8) (hT : PlR pl (w 20 4)) (hp : PV pl) (hR : RS u (w 20 5)) (hS : SV B (pl 0 0) u) (hU : SU (pl 0 0) u) (hB : B ≤ 99000) (hC : TbC pl (w 20)) : Mi l yX8_made cX8_made 5 (some .int) 4 101 G [.ref (gAd G 20)] w (fun z w2 => z = madeX pl u ∧ ((∀ o f, ¬ (o = 20 ∧ 10 ≤ f ∧ f ≤ 13) → w2 o f = w o f) ∧ TbC pl (w2 20) ∧ w2 20 11 0 = 1 ∧ w2 20 12 0 = liftX u) ∧ ∃ v, BestC pl (pkX pl (liftX u)) (u 7 0) (pl 0 0).toNat (madeX pl u) v ∧ Att pl (liftX u) (u 7 0) (madeX pl u) v (w2 20 13)) := by
  refine mi_of (lv := [(0, .ref (gAd G 20))]) (by decide) (Nat.le_of_ble_eq_true rfl) rfl ?_
  intro p_ e_ s_ m_ b_ h_ c_ X
  have hp0 := hp.1
  have hp7 := hp.2.2
  have t36 := hT.1
  have sT := hS.1
  have sB := hS.2.1
  have sC := hS.2.2.1
  have sD := hS.2.2.2.1
  have sE := hS.2.2.2.2.1
  have sF := hS.2.2.2.2.2.1
  have sG := hS.2.2.2.2.2.2.1
  have sH := hS.2.2.2.2.2.2.2
  have rT := hR.1
  have rB := hR.2.1
  have rL := hR.2.2.1
  have rM := hR.2.2.2
  have uA := hU.1
  have hrun := bt_or (s := u 6 0) (t := u 7 0) (by omega) (by omega) (by omega) (by omega)
  have r00 : w 20 5 0 = u 0 0 := rT 0 (by decide)
  have r01 : w 20 5 1 = u 0 1 := rT 1 (by decide)
  have r02 : w 20 5 2 = u 0 2 := rT 2 (by decide)
  have r03 : w 20 5 3 = u 0 3 := rT 3 (by decide)
  have r04 : w 20 5 4 = u 1 0 := rB.1
  have hall := bt_all (pl 0 0) (by omega) (by omega)
  have hlf0 : 0 ≤ liftX u ∧ liftX u ≤ 45 := by unfold liftX; omega
  have hmc := made_can (u := u) hp
  have hmr := hmc.2 (by omega) (by omega)
  have h7n := on_in hp (by omega) (by omega) (fun k a b => (sH k a b).2)
  obtain ⟨v, hv⟩ := best_pk hp (lift := liftX u) (s := u 7 0) hlf0 hmc.1
  have pL := pv_least hp (u 7 0)
  have pM := pv_most hp (u 7 0)
  have pLM := sumB_lt (s := u 7 0) (f := pl 1) (g := pl 2) _ (pv_lm hp)
  refine g_aload_n X dX8_made_0 rfl 0 rfl ?_
  refine g_iconst X dX8_made_1 ?_
  refine g_calli (st := []) X (c_X8_standing l G 2 pl u B (u 7 0) w FM (by first | assumption | omega | (unfold InR; omega)) (by first | assumption | omega | (unfold InR; omega)) (by first | assumption | omega | (unfold InR; omega)) (by first | assumption | omega | (unfold InR; omega)) (by first | assumption | omega | (unfold InR; omega)) (by first | assumption | omega | (unfold InR; omega)) (Or.inr ⟨rfl, rfl⟩)) cm_X8_standing im_X8_standing se_X8_standing ml_X8_140 ck_X8 FM ⟨Nat.le_of_ble_eq_true rfl, Nat.le_of_ble_eq_true rfl⟩ rfl rfl (Nat.le_of_ble_eq_true rfl) dX8_made_2 (fn_i ?_)
  refine g_istore_n (lv' := [(1, .int (iI (u 7 0))), (0, .ref (gAd G 20))]) X dX8_made_5 rfl (by decide) rfl ?_
  refine g_aload_n X dX8_made_6 rfl 1 rfl ?_
  refine g_geta X ck_X8 FM 5 (by decide) fl_X8_19 rfl dX8_made_7 ?_
  refine g_iconst X dX8_made_10 ?_
  refine h_iald (a := 0) (j := 0) X rfl FM (by decide) (show fkX 8 5 = (1, 101) from rfl) (by decide) (by omega) (by omega) dX8_made_11 ?_
  rw [show (w 20 5 0 : Int) = u 0 0 from r00]
  refine g_istore_n (lv' := [(2, .int (iI (u 0 0))), (1, .int (iI (u 7 0))), (0, .ref (gAd G 20))]) X dX8_made_12 rfl (by decide) rfl ?_
  refine g_aload_n X dX8_made_13 rfl 2 rfl ?_
  refine g_callv (st := []) X (c_X8_layTable l G pl w FM (by first | assumption | omega | (unfold InR; omega)) (by first | assumption | omega | (unfold InR; omega)) (by omega) (by omega) (by first | assumption | omega | (unfold InR; omega))) cm_X8_layTable im_X8_layTable se_X8_layTable ml_X8_125 ck_X8 FM ⟨Nat.le_of_ble_eq_true rfl, Nat.le_of_ble_eq_true rfl⟩ rfl rfl (Nat.le_of_ble_eq_true rfl) dX8_made_14 ?_
  rintro u_14 ⟨lfr, lC, l11, l12⟩
  have s4 : u_14 20 4 = w 20 4 := lfr 20 4 (by decide)
  have l12b : u_14 20 12 0 = liftX u := by rw [l12, r02, r03]
  have hv2 : BestC pl (pkX pl (u_14 20 12 0)) (u 7 0) (pl 0 0).toNat (madeX pl u) v := by rw [l12b]; exact hv
  refine g_aload_n X dX8_made_17 rfl 2 rfl ?_
  refine g_iload_n X dX8_made_18 rfl 1 rfl ?_
  refine g_iload_n X dX8_made_19 rfl 0 rfl ?_
  refine g_calli (st := []) X (c_X8_can l G (u 7 0) (u 0 0) pl u_14 FM (by rw [s4]; exact hT) (by first | assumption | omega | (unfold InR; omega)) (by omega) (by unfold InR; omega)) cm_X8_can im_X8_can se_X8_can ml_X8_134 ck_X8 FM ⟨Nat.le_of_ble_eq_true rfl, Nat.le_of_ble_eq_true rfl⟩ rfl rfl (Nat.le_of_ble_eq_true rfl) dX8_made_20 (fn_i ?_)
  refine g_if_eq (tgt := 34) X dX8_made_23 (by decide) (by exact in01) (fun c_23 => ?_) (fun c_23 => ?_)
  · skip
    refine g_iload_n X dX8_made_34 rfl 0 rfl ?_
    refine g_cut1 (pc' := 49) (fun (less : Int) => [(0, .ref (gAd G 20)), (1, .int (iI (u 7 0))), (2, .int (iI (u 0 0)))]) (fun (less : Int) => [.int (iI less)]) (fun (less : Int) => u_14) (fun (less : Int) => ((less = 1 ∧ u 0 0 < sumB (u 7 0) (pl 1) (pl 0 0).toNat) ∨ (less = 0 ∧ ¬ u 0 0 < sumB (u 7 0) (pl 1) (pl 0 0).toNat))) ?_ ?_
    · intro less hI_49
      have hls := hI_49
      try dsimp only at hls ⊢
      refine g_istore_n (lv' := [(3, .int (iI less)), (0, .ref (gAd G 20)), (1, .int (iI (u 7 0))), (2, .int (iI (u 0 0)))]) X dX8_made_49 rfl (by decide) rfl ?_
      refine g_iconst X dX8_made_50 ?_
      refine g_istore (lv' := [(4, .int (iI 0)), (3, .int (iI less)), (0, .ref (gAd G 20)), (1, .int (iI (u 7 0))), (2, .int (iI (u 0 0)))]) X dX8_made_51 (by decide) rfl ?_
      refine g_lv (lv' := [(0, .ref (gAd G 20)), (1, .int (iI (u 7 0))), (2, .int (iI (u 0 0))), (3, .int (iI less)), (4, .int (iI 0))]) [2, 3, 4, 1, 0] rfl ?_
      refine g_loop2 (fun (k : Int) (w1 : Wd) => [(0, .ref (gAd G 20)), (1, .int (iI (u 7 0))), (2, .int (iI (u 0 0))), (3, .int (iI less)), (4, .int (iI k))]) (fun (k : Int) (w1 : Wd) => w1) (fun (k : Int) (w1 : Wd) => (0 ≤ k) ∧ (k ≤ pl 0 0) ∧ (∀ o f, ¬ (o = 20 ∧ f = 13) → w1 o f = u_14 o f) ∧ (∀ j : Nat, (j : Int) < k → w1 20 13 j = if tb (u 7 0) j = 1 then (if less = 1 then pl 1 j else pl 2 j) else 0)) (fun (k : Int) (w1 : Wd) => (pl 0 0 - k).toNat) 0 u_14 ⟨(by first | omega | rfl | assumption), (by first | omega | rfl | assumption), (by intro _ _ _; rfl), (by intro j hj; omega)⟩ ?_
      intro k w1 hI_53 ih_53
      obtain ⟨h0, h1, hfr, hmk⟩ := hI_53
      try dsimp only at ih_53 ⊢
      have q4 : w1 20 4 = w 20 4 := by rw [hfr 20 4 (by decide)]; exact lfr 20 4 (by decide)
      have q36 : w1 20 4 36 = pl 0 0 := by rw [q4]; exact t36
      refine g_iload X dX8_made_53 4 rfl ?_
      refine g_aload_n X dX8_made_55 rfl 0 rfl ?_
      refine g_geta X ck_X8 FM 4 (by decide) fl_X8_16 rfl dX8_made_56 ?_
      refine g_bipush X dX8_made_59 (by decide) ?_
      refine h_iald (a := 36) (j := 36) X rfl FM (by decide) (show fkX 8 4 = (1, 44) from rfl) (by decide) (by omega) (by omega) dX8_made_61 ?_
      refine g_icmp_ge (tgt := 110) X dX8_made_62 (by decide) (by unfold InR; omega) (by unfold InR; omega) (fun c_62 => ?_) (fun c_62 => ?_)
      · skip
        refine g_aload_n X dX8_made_110 rfl 0 rfl ?_
        refine g_iload_n X dX8_made_111 rfl 1 rfl ?_
        refine g_iload_n X dX8_made_112 rfl 3 rfl ?_
        refine g_if_eq (tgt := 120) X dX8_made_113 (by decide) (by rcases hls with q | q <;> (unfold InR; omega)) (fun c_113 => ?_) (fun c_113 => ?_)
        · skip
          refine g_iconst X dX8_made_120 ?_
          refine g_calli (st := []) X (c_X8_sumOf l G (u 7 0) 1 pl w1 FM (by rw [q4]; exact hT) (by first | assumption | omega | (unfold InR; omega)) (by omega) (by first | decide | omega)) cm_X8_sumOf im_X8_sumOf se_X8_sumOf ml_X8_90 ck_X8 FM ⟨Nat.le_of_ble_eq_true rfl, Nat.le_of_ble_eq_true rfl⟩ rfl rfl (Nat.le_of_ble_eq_true rfl) dX8_made_121 (fn_i ?_)
          exact g_iret X rfl rfl dX8_made_124 (by
              have hkn : k = pl 0 0 := by omega
              rw [hkn] at hmk
              have hnc := of_zero c_23
              have hcase : (less = 1 ∧ madeX pl u = sumB (u 7 0) (pl 1) (pl 0 0).toNat) ∨ (less = 0 ∧ madeX pl u = sumB (u 7 0) (pl 2) (pl 0 0).toNat) := by
                unfold madeX
                rcases hls with q | q
                · exact Or.inl ⟨q.1, by omega⟩
                · exact Or.inr ⟨q.1, by omega⟩
              refine ⟨?_, ⟨fun o f h => ?_, ?_, ?_, ?_⟩, v, hv, ?_⟩
              · rcases hcase with q | q
                · first
                  | exact q.2.symm
                  | omega
                · first
                  | exact q.2.symm
                  | omega
              · rw [hfr o f (fun z => h ⟨z.1, by omega, by omega⟩)]; exact lfr o f (fun z => h ⟨z.1, by omega, by omega⟩)
              · unfold TbC; rw [hfr 20 11 (by decide), hfr 20 12 (by decide), hfr 20 10 (by decide)]; exact lC
              · rw [hfr 20 11 (by decide)]; exact l11
              · rw [hfr 20 12 (by decide)]; exact l12b
              · rcases hcase with q | q
                · exact att_lo hp hv q.2 (fun j hj => by rw [hmk j (by omega), show (if less = 1 then pl 1 j else pl 2 j) = pl 1 j from if_pos q.1])
                · exact att_hi hp hv q.2 (fun j hj => by rw [hmk j (by omega), show (if less = 1 then pl 1 j else pl 2 j) = pl 2 j from if_neg (by omega)]))
        · skip
          refine g_iconst X dX8_made_116 ?_
          refine g_goto (tgt := 121) X dX8_made_117 (by decide) ?_
          refine g_calli (st := []) X (c_X8_sumOf l G (u 7 0) 0 pl w1 FM (by rw [q4]; exact hT) (by first | assumption | omega | (unfold InR; omega)) (by omega) (by first | decide | omega)) cm_X8_sumOf im_X8_sumOf se_X8_sumOf ml_X8_90 ck_X8 FM ⟨Nat.le_of_ble_eq_true rfl, Nat.le_of_ble_eq_true rfl⟩ rfl rfl (Nat.le_of_ble_eq_true rfl) dX8_made_121 (fn_i ?_)
          exact g_iret X rfl rfl dX8_made_124 (by
              have hkn : k = pl 0 0 := by omega
              rw [hkn] at hmk
              have hnc := of_zero c_23
              have hcase : (less = 1 ∧ madeX pl u = sumB (u 7 0) (pl 1) (pl 0 0).toNat) ∨ (less = 0 ∧ madeX pl u = sumB (u 7 0) (pl 2) (pl 0 0).toNat) := by
                unfold madeX
                rcases hls with q | q
                · exact Or.inl ⟨q.1, by omega⟩
                · exact Or.inr ⟨q.1, by omega⟩
              refine ⟨?_, ⟨fun o f h => ?_, ?_, ?_, ?_⟩, v, hv, ?_⟩
              · rcases hcase with q | q
                · first
                  | exact q.2.symm
                  | omega
                · first
                  | exact q.2.symm
                  | omega
              · rw [hfr o f (fun z => h ⟨z.1, by omega, by omega⟩)]; exact lfr o f (fun z => h ⟨z.1, by omega, by omega⟩)
              · unfold TbC; rw [hfr 20 11 (by decide), hfr 20 12 (by decide), hfr 20 10 (by decide)]; exact lC
              · rw [hfr 20 11 (by decide)]; exact l11
              · rw [hfr 20 12 (by decide)]; exact l12b
              · rcases hcase with q | q
                · exact att_lo hp hv q.2 (fun j hj => by rw [hmk j (by omega), show (if less = 1 then pl 1 j else pl 2 j) = pl 1 j from if_pos q.1])
                · exact att_hi hp hv q.2 (fun j hj => by rw [hmk j (by omega), show (if less = 1 then pl 1 j else pl 2 j) = pl 2 j from if_neg (by omega)]))
      · skip
        have ht01 := tb01 (u 7 0) k.toNat
        have hless : less = 0 ∨ less = 1 := by rcases hls with q | q <;> omega
        refine g_aload_n X dX8_made_65 rfl 0 rfl ?_
        refine g_cut1 (pc' := 103) (fun (x : Int) => [(0, .ref (gAd G 20)), (1, .int (iI (u 7 0))), (2, .int (iI (u 0 0))), (3, .int (iI less)), (4, .int (iI k))]) (fun (x : Int) => [.int (iI x), .int (iI k), .ref (gAr G 20 13)]) (fun (x : Int) => w1) (fun (x : Int) => (x = if tb (u 7 0) k.toNat = 1 then (if less = 1 then pl 1 k.toNat else pl 2 k.toNat) else 0)) ?_ ?_
        · intro x hI_103
          have hx := hI_103
          try dsimp only at hx ⊢
          refine h_iast (a := k) (j := (k).toNat) X rfl FM (by decide) (show fkX 8 13 = (1, 6) from rfl) (by decide) (by omega) (by omega) dX8_made_103 ?_
          obtain ⟨w_1, ew_1⟩ : ∃ q_ : Wd, q_ = up w1 20 13 (k).toNat x := ⟨_, rfl⟩
          refine g_w (w' := w_1) ew_1 ?_
          refine g_iinc (j := 4) (lv' := [(4, .int (iI (k + 1))), (0, .ref (gAd G 20)), (1, .int (iI (u 7 0))), (2, .int (iI (u 0 0))), (3, .int (iI less))]) X dX8_made_104 rfl (by decide) rfl ?_
          refine g_goto (tgt := 53) X dX8_made_107 (by decide) ?_
          refine g_lv (lv' := [(0, .ref (gAd G 20)), (1, .int (iI (u 7 0))), (2, .int (iI (u 0 0))), (3, .int (iI less)), (4, .int (iI (k + 1)))]) [1, 2, 3, 4, 0] rfl ?_
          exact ih_53 (k + 1) w_1 ⟨(by first | omega | rfl | assumption), (by first | omega | rfl | assumption), (by intro o f h; rw [ew_1, up_fn h]; exact hfr o f h), (by intro j hj; rw [ew_1]; rcases Int.lt_or_le (j : Int) k with e | e; (rw [up_ne (by omega)]; exact hmk j e); (have e2 : j = k.toNat := (by omega)); subst e2; rw [up_at]; exact hx)⟩ (by omega)
        · intro J_103
          try dsimp only at J_103
          refine g_geta X ck_X8 FM 13 (by decide) fl_X8_34 rfl dX8_made_66 ?_
          refine g_iload X dX8_made_69 4 rfl ?_
          refine g_iload_n X dX8_made_71 rfl 1 rfl ?_
          refine g_iload X dX8_made_72 4 rfl ?_
          refine g_callsi (st := [.int (iI k), .ref (gAr G 20 13)]) X (c_X8_has l G (u 7 0) k w1 (by omega) (by first | assumption | omega | (unfold InR; omega))) cm_X8_has sm_X8_has ml_X8_86 ⟨Nat.le_of_ble_eq_true rfl, Nat.le_of_ble_eq_true rfl⟩ rfl rfl (Nat.le_of_ble_eq_true rfl) dX8_made_74 (fn_i ?_)
          refine g_if_ne (tgt := 84) X dX8_made_77 (by decide) (by unfold InR; omega) (fun c_77 => ?_) (fun c_77 => ?_)
          · skip
            refine g_iload_n X dX8_made_84 rfl 3 rfl ?_
            refine g_if_eq (tgt := 97) X dX8_made_85 (by decide) (by unfold InR; omega) (fun c_85 => ?_) (fun c_85 => ?_)
            · skip
              refine g_aload_n X dX8_made_97 rfl 0 rfl ?_
              refine g_iload X dX8_made_98 4 rfl ?_
              refine g_calli (st := [.int (iI k), .ref (gAr G 20 13)]) X (c_X8_mostOf l G k pl w1 FM (by rw [q4]; exact hT) (by first | assumption | omega | (unfold InR; omega)) (by omega)) cm_X8_mostOf im_X8_mostOf se_X8_mostOf ml_X8_99 ck_X8 FM ⟨Nat.le_of_ble_eq_true rfl, Nat.le_of_ble_eq_true rfl⟩ rfl rfl (Nat.le_of_ble_eq_true rfl) dX8_made_100 (fn_i ?_)
              refine g_lv (lv' := [(0, .ref (gAd G 20)), (1, .int (iI (u 7 0))), (2, .int (iI (u 0 0))), (3, .int (iI less)), (4, .int (iI k))]) [0, 1, 2, 3, 4] rfl ?_
              exact J_103 (pl 2 k.toNat) (by
                  first
                  | rw [if_neg (by omega)]
                  | rw [if_pos (by omega), if_pos (by omega)]
                  | rw [if_pos (by omega), if_neg (by omega)])
            · skip
              refine g_aload_n X dX8_made_88 rfl 0 rfl ?_
              refine g_iload X dX8_made_89 4 rfl ?_
              refine g_calli (st := [.int (iI k), .ref (gAr G 20 13)]) X (c_X8_leastOf l G k pl w1 FM (by rw [q4]; exact hT) (by first | assumption | omega | (unfold InR; omega)) (by omega)) cm_X8_leastOf im_X8_leastOf se_X8_leastOf ml_X8_95 ck_X8 FM ⟨Nat.le_of_ble_eq_true rfl, Nat.le_of_ble_eq_true rfl⟩ rfl rfl (Nat.le_of_ble_eq_true rfl) dX8_made_91 (fn_i ?_)
              refine g_goto (tgt := 103) X dX8_made_94 (by decide) ?_
              refine g_lv (lv' := [(0, .ref (gAd G 20)), (1, .int (iI (u 7 0))), (2, .int (iI (u 0 0))), (3, .int (iI less)), (4, .int (iI k))]) [0, 1, 2, 3, 4] rfl ?_
              exact J_103 (pl 1 k.toNat) (by
                  first
                  | rw [if_neg (by omega)]
                  | rw [if_pos (by omega), if_pos (by omega)]
                  | rw [if_pos (by omega), if_neg (by omega)])
          · skip
            refine g_iconst X dX8_made_80 ?_
            refine g_goto (tgt := 103) X dX8_made_81 (by decide) ?_
            refine g_lv (lv' := [(0, .ref (gAd G 20)), (1, .int (iI (u 7 0))), (2, .int (iI (u 0 0))), (3, .int (iI less)), (4, .int (iI k))]) [0, 1, 2, 3, 4] rfl ?_
            exact J_103 0 (by
                first
                | rw [if_neg (by omega)]
                | rw [if_pos (by omega), if_pos (by omega)]
                | rw [if_pos (by omega), if_neg (by omega)])
    · intro J_49
      try dsimp only at J_49
      refine g_aload_n X dX8_made_35 rfl 2 rfl ?_
      refine g_iload_n X dX8_made_36 rfl 1 rfl ?_
      refine g_iconst X dX8_made_37 ?_
      refine g_calli (st := [.int (iI (u 0 0))]) X (c_X8_sumOf l G (u 7 0) 0 pl u_14 FM (by rw [s4]; exact hT) (by first | assumption | omega | (unfold InR; omega)) (by omega) (by first | assumption | omega | (unfold InR; omega))) cm_X8_sumOf im_X8_sumOf se_X8_sumOf ml_X8_90 ck_X8 FM ⟨Nat.le_of_ble_eq_true rfl, Nat.le_of_ble_eq_true rfl⟩ rfl rfl (Nat.le_of_ble_eq_true rfl) dX8_made_38 (fn_i ?_)
      rw [show (sumB (u 7 0) (pl ((0 : Int).toNat + 1)) (pl 0 0).toNat : Int) = sumB (u 7 0) (pl 1) (pl 0 0).toNat from rfl]
      refine g_icmp_ge (tgt := 48) X dX8_made_41 (by decide) (by unfold InR; omega) (by unfold InR; omega) (fun c_41 => ?_) (fun c_41 => ?_)
      · skip
        refine g_iconst X dX8_made_48 ?_
        refine g_lv (lv' := [(0, .ref (gAd G 20)), (1, .int (iI (u 7 0))), (2, .int (iI (u 0 0)))]) [2, 1, 0] rfl ?_
        exact J_49 0 (by first | exact Or.inl ⟨rfl, by omega⟩ | exact Or.inr ⟨rfl, by omega⟩)
      · skip
        refine g_iconst X dX8_made_44 ?_
        refine g_goto (tgt := 49) X dX8_made_45 (by decide) ?_
        refine g_lv (lv' := [(0, .ref (gAd G 20)), (1, .int (iI (u 7 0))), (2, .int (iI (u 0 0)))]) [2, 1, 0] rfl ?_
        exact J_49 1 (by first | exact Or.inl ⟨rfl, by omega⟩ | exact Or.inr ⟨rfl, by omega⟩)
  · skip
    refine g_aload_n X dX8_made_26 rfl 2 rfl ?_
    refine g_iload_n X dX8_made_27 rfl 1 rfl ?_
    refine g_iload_n X dX8_made_28 rfl 0 rfl ?_
    refine g_callv (st := []) X (c_X8_layShare l G (u 7 0) (u 0 0) pl v u_14 FM (by rw [s4]; exact hT) (by first | assumption | omega | (unfold InR; omega)) (by exact lC) (by exact l11) (by exact h7n) (by omega) (by have hc := of_one c_23; rw [show u 0 0 = madeX pl u by unfold madeX; omega]; exact hv2)) cm_X8_layShare im_X8_layShare se_X8_layShare ml_X8_143 ck_X8 FM ⟨Nat.le_of_ble_eq_true rfl, Nat.le_of_ble_eq_true rfl⟩ rfl rfl (Nat.le_of_ble_eq_true rfl) dX8_made_29 ?_
    rintro u_29 ⟨sfr, satt⟩
    refine g_iload_n X dX8_made_32 rfl 0 rfl ?_
    exact g_iret X rfl rfl dX8_made_33 (by
        have hc := of_one c_23
        have hme : u 0 0 = madeX pl u := by unfold madeX; omega
        refine ⟨hme, ⟨fun o f h => ?_, ?_, ?_, ?_⟩, v, hv, ?_⟩
        · rw [sfr o f (fun z => h ⟨z.1, by omega, by omega⟩)]; exact lfr o f (fun z => h ⟨z.1, by omega, by omega⟩)
        · unfold TbC; rw [sfr 20 11 (by decide), sfr 20 12 (by decide), sfr 20 10 (by decide)]; exact lC
        · rw [sfr 20 11 (by decide)]; exact l11
        · rw [sfr 20 12 (by decide)]; exact l12b
        · rw [l12b, hme] at satt; exact satt)
set_option maxHeartbeats 4000000 in
set_option maxRecDepth 100000 in
theorem c_X8_powerNow (l : Launch) (G : Ly) (pl : Nat → Nat → Int) (u : Nat → Nat → Int) (B : Int) (w : Wd) (FM : gOb G 20 = some 8) (hT : PlR pl (w 20 4)) (hp : PV pl) (hR : RS u (w 20 5)) (hS : SV B (pl 0 0) u) (hU : SU (pl 0 0) u) (hB : B ≤ 99000) (hC : TbC pl (w 20)) : Mi l yX8_powerNow cX8_powerNow 3 (some .int) 5 125 G [.ref (gAd G 20)] w (fun z w2 => PowX pl u z ∧ (∀ o f, ¬ (o = 20 ∧ 10 ≤ f ∧ f ≤ 13) → w2 o f = w o f) ∧ TbC pl (w2 20) ∧ w2 20 11 0 = 1 ∧ w2 20 12 0 = liftX u) := by
  refine mi_of (lv := [(0, .ref (gAd G 20))]) (by decide) (Nat.le_of_ble_eq_true rfl) rfl ?_
  intro p_ e_ s_ m_ b_ h_ c_ X
  have hp0 := hp.1
  have hp7 := hp.2.2
  have t36 := hT.1
  have sT := hS.1
  have sB := hS.2.1
  have sC := hS.2.2.1
  have sD := hS.2.2.2.1
  have sE := hS.2.2.2.2.1
  have sF := hS.2.2.2.2.2.1
  have sG := hS.2.2.2.2.2.2.1
  have sH := hS.2.2.2.2.2.2.2
  have rT := hR.1
  have rB := hR.2.1
  have rL := hR.2.2.1
  have rM := hR.2.2.2
  have uA := hU.1
  have hrun := bt_or (s := u 6 0) (t := u 7 0) (by omega) (by omega) (by omega) (by omega)
  have r00 : w 20 5 0 = u 0 0 := rT 0 (by decide)
  have r01 : w 20 5 1 = u 0 1 := rT 1 (by decide)
  have r02 : w 20 5 2 = u 0 2 := rT 2 (by decide)
  have r03 : w 20 5 3 = u 0 3 := rT 3 (by decide)
  have r04 : w 20 5 4 = u 1 0 := rB.1
  have hall := bt_all (pl 0 0) (by omega) (by omega)
  have hlf0 : 0 ≤ liftX u ∧ liftX u ≤ 45 := by unfold liftX; omega
  refine g_aload_n X dX8_powerNow_0 rfl 0 rfl ?_
  refine g_calli (st := []) X (c_X8_made l G pl u B w FM (by first | assumption | omega | (unfold InR; omega)) (by first | assumption | omega | (unfold InR; omega)) (by first | assumption | omega | (unfold InR; omega)) (by first | assumption | omega | (unfold InR; omega)) (by first | assumption | omega | (unfold InR; omega)) (by first | assumption | omega | (unfold InR; omega)) (by first | assumption | omega | (unfold InR; omega))) cm_X8_made im_X8_made se_X8_made ml_X8_147 ck_X8 FM ⟨Nat.le_of_ble_eq_true rfl, Nat.le_of_ble_eq_true rfl⟩ rfl rfl (Nat.le_of_ble_eq_true rfl) dX8_powerNow_1 ?_
  rintro z_1 u_1 ⟨hz, ⟨hfr, hC2, h11, h12⟩, v, hv, hat⟩
  have q4 : u_1 20 4 = w 20 4 := hfr 20 4 (by decide)
  have q36 : u_1 20 4 36 = pl 0 0 := by rw [q4]; exact t36
  have q5 : u_1 20 5 = w 20 5 := hfr 20 5 (by decide)
  refine g_pop X dX8_powerNow_4 rfl ?_
  refine g_iconst X dX8_powerNow_5 ?_
  refine g_istore_n (lv' := [(1, .int (iI 0)), (0, .ref (gAd G 20))]) X dX8_powerNow_6 rfl (by decide) rfl ?_
  refine g_iconst X dX8_powerNow_7 ?_
  refine g_istore_n (lv' := [(2, .int (iI 0)), (1, .int (iI 0)), (0, .ref (gAd G 20))]) X dX8_powerNow_8 rfl (by decide) rfl ?_
  refine g_lv (lv' := [(0, .ref (gAd G 20)), (1, .int (iI 0)), (2, .int (iI 0))]) [2, 1, 0] rfl ?_
  refine g_loop2 (fun (sum : Int) (k : Int) => [(0, .ref (gAd G 20)), (1, .int (iI sum)), (2, .int (iI k))]) (fun (sum : Int) (k : Int) => u_1) (fun (sum : Int) (k : Int) => (0 ≤ k) ∧ (k ≤ pl 0 0) ∧ (sum = sumB (u 7 0) (fun m => pwX pl (liftX u) m (u_1 20 13 m)) k.toNat)) (fun (sum : Int) (k : Int) => (pl 0 0 - k).toNat) 0 0 ⟨(by first | omega | rfl | assumption), (by first | omega | rfl | assumption), (by rfl)⟩ ?_
  intro sum k hI_9 ih_9
  obtain ⟨h0, h1, hs⟩ := hI_9
  try dsimp only at ih_9 ⊢
  refine g_iload_n X dX8_powerNow_9 rfl 2 rfl ?_
  refine g_aload_n X dX8_powerNow_10 rfl 0 rfl ?_
  refine g_geta X ck_X8 FM 4 (by decide) fl_X8_16 rfl dX8_powerNow_11 ?_
  refine g_bipush X dX8_powerNow_14 (by decide) ?_
  refine h_iald (a := 36) (j := 36) X rfl FM (by decide) (show fkX 8 4 = (1, 44) from rfl) (by decide) (by omega) (by omega) dX8_powerNow_16 ?_
  refine g_icmp_ge (tgt := 58) X dX8_powerNow_17 (by decide) (by unfold InR; omega) (by unfold InR; omega) (fun c_17 => ?_) (fun c_17 => ?_)
  · skip
    refine g_iload_n X dX8_powerNow_58 rfl 1 rfl ?_
    exact g_iret X rfl rfl dX8_powerNow_59 (by
        have hkn : k = pl 0 0 := by omega
        refine ⟨⟨v, hv, ?_⟩, hfr, hC2, h11, h12⟩
        rw [hs, hkn]
        exact (att_dig hp hlf0 hat).1.symm)
  · skip
    have ht6 := tb01 (u 6 0) k.toNat
    have ht7 := tb01 (u 7 0) k.toNat
    have ua := uA k.toNat (by omega)
    have ho := (rM k.toNat (by omega)).1
    have hfe := hat.1 k.toNat (by omega)
    have hkb := hp.2.1 k.toNat (by omega)
    refine g_iload_n X dX8_powerNow_20 rfl 1 rfl ?_
    refine g_cut1 (pc' := 50) (fun (x : Int) => [(0, .ref (gAd G 20)), (1, .int (iI sum)), (2, .int (iI k))]) (fun (x : Int) => [.int (iI x), .int (iI sum)]) (fun (x : Int) => u_1) (fun (x : Int) => (x = if tb (u 7 0) k.toNat = 1 then pwX pl (liftX u) k.toNat (u_1 20 13 k.toNat) else 0)) ?_ ?_
    · intro x hI_50
      have hx := hI_50
      try dsimp only at hx ⊢
      refine g_iadd X dX8_powerNow_50 ?_
      refine g_istore_n (lv' := [(1, .int (iI (sum + x))), (0, .ref (gAd G 20)), (2, .int (iI k))]) X dX8_powerNow_51 rfl (by decide) rfl ?_
      refine g_iinc (j := 2) (lv' := [(2, .int (iI (k + 1))), (1, .int (iI (sum + x))), (0, .ref (gAd G 20))]) X dX8_powerNow_52 rfl (by decide) rfl ?_
      refine g_goto (tgt := 9) X dX8_powerNow_55 (by decide) ?_
      refine g_lv (lv' := [(0, .ref (gAd G 20)), (1, .int (iI (sum + x))), (2, .int (iI (k + 1)))]) [2, 1, 0] rfl ?_
      exact ih_9 (sum + x) (k + 1) ⟨(by first | omega | rfl | assumption), (by first | omega | rfl | assumption), (by rw [sumB_suc h0, hs, hx])⟩ (by omega)
    · intro J_50
      try dsimp only at J_50
      refine g_aload_n X dX8_powerNow_21 rfl 0 rfl ?_
      refine g_iload_n X dX8_powerNow_22 rfl 2 rfl ?_
      refine g_iconst X dX8_powerNow_23 ?_
      refine g_calli (st := [.int (iI sum)]) X (c_X8_own l G k 0 u_1 FM (by first | assumption | omega | (unfold InR; omega)) (by first | assumption | omega | (unfold InR; omega))) cm_X8_own im_X8_own se_X8_own ml_X8_122 ck_X8 FM ⟨Nat.le_of_ble_eq_true rfl, Nat.le_of_ble_eq_true rfl⟩ rfl rfl (Nat.le_of_ble_eq_true rfl) dX8_powerNow_24 (fn_i ?_)
      rw [show (u_1 20 5 (17 + 14 * k + 0).toNat : Int) = tb (u 6 0) k.toNat + 2 * tb (u 7 0) k.toNat from (by rw [q5, show (17 + 14 * k + 0).toNat = 17 + 14 * k.toNat by omega]; exact ho)]
      refine g_iconst X dX8_powerNow_27 ?_
      refine g_icmp_ne (tgt := 49) X dX8_powerNow_28 (by decide) (by unfold InR; omega) ⟨by decide, by decide⟩ (fun c_28 => ?_) (fun c_28 => ?_)
      · skip
        refine g_iconst X dX8_powerNow_49 ?_
        refine g_lv (lv' := [(0, .ref (gAd G 20)), (1, .int (iI sum)), (2, .int (iI k))]) [0, 1, 2] rfl ?_
        exact J_50 0 (by first | rw [if_neg (by omega)] | rw [if_pos (by omega)])
      · skip
        refine g_aload_n X dX8_powerNow_31 rfl 0 rfl ?_
        refine g_iload_n X dX8_powerNow_32 rfl 2 rfl ?_
        refine g_aload_n X dX8_powerNow_33 rfl 0 rfl ?_
        refine g_geta X ck_X8 FM 13 (by decide) fl_X8_34 rfl dX8_powerNow_34 ?_
        refine g_iload_n X dX8_powerNow_37 rfl 2 rfl ?_
        refine h_iald (a := k) (j := (k).toNat) X rfl FM (by decide) (show fkX 8 13 = (1, 6) from rfl) (by decide) (by omega) (by omega) dX8_powerNow_38 ?_
        refine g_aload_n X dX8_powerNow_39 rfl 0 rfl ?_
        refine g_calli (st := [.int (iI (u_1 20 13 (k).toNat)), .int (iI k), .ref (gAd G 20), .int (iI sum)]) X (c_X8_lift l G  u_1 FM (by rw [q5]; omega) (by rw [q5]; omega)) cm_X8_lift im_X8_lift se_X8_lift ml_X8_106 ck_X8 FM ⟨Nat.le_of_ble_eq_true rfl, Nat.le_of_ble_eq_true rfl⟩ rfl rfl (Nat.le_of_ble_eq_true rfl) dX8_powerNow_40 (fn_i ?_)
        rw [show (max 0 (u_1 20 5 2 - u_1 20 5 3) : Int) = liftX u from (by rw [q5, r02, r03])]
        refine g_calli (st := [.int (iI sum)]) X (c_X8_powerOf l G k (u_1 20 13 (k).toNat) (liftX u) pl u_1 FM (by rw [q4]; exact hT) (by first | assumption | omega | (unfold InR; omega)) (by omega) (by have := hfe.1 (by omega); omega) (by exact hlf0)) cm_X8_powerOf im_X8_powerOf se_X8_powerOf ml_X8_102 ck_X8 FM ⟨Nat.le_of_ble_eq_true rfl, Nat.le_of_ble_eq_true rfl⟩ rfl rfl (Nat.le_of_ble_eq_true rfl) dX8_powerNow_43 (fn_i ?_)
        refine g_goto (tgt := 50) X dX8_powerNow_46 (by decide) ?_
        refine g_lv (lv' := [(0, .ref (gAd G 20)), (1, .int (iI sum)), (2, .int (iI k))]) [0, 1, 2] rfl ?_
        exact J_50 (pwX pl (liftX u) k.toNat (u_1 20 13 (k).toNat)) (by first | rw [if_neg (by omega)] | rw [if_pos (by omega)])
