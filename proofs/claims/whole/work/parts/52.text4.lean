set_option maxHeartbeats 4000000 in
set_option maxRecDepth 100000 in
theorem c_X8_readMachine (l : Launch) (G : Ly) (t : Nat → Int) (pl : Nat → Nat → Int) (p : Int) (w : Wd) (FM : gOb G 20 = some 8) (ht : ∀ j : Nat, (j : Int) < w 20 1 0 → w 20 0 j = t j) (hL : 0 ≤ w 20 1 0 ∧ w 20 1 0 ≤ 200) (htr : ∀ j : Nat, j < 200 → 0 ≤ t j ∧ t j ≤ 126) (hp0 : 0 ≤ p ∧ p < w 20 1 0) (hat1 : w 20 2 0 = p + 1) (hT : PlR pl (w 20 3)) (hn : 0 ≤ pl 0 0 ∧ pl 0 0 ≤ 6) (h9 : ∀ j : Nat, j < 6 → 0 ≤ w 20 9 j ∧ w 20 9 j ≤ 99) (hc : ltX t (w 20 1 0) p = 99) : Mi l yX8_readMachine cX8_readMachine 1 (some .boolean) 3 66 G [.ref (gAd G 20)] w (fun z w2 => (∀ o f, ¬ (o = 20 ∧ (f = 2 ∨ f = 3 ∨ f = 9)) → w2 o f = w o f) ∧ (0 ≤ w2 20 2 0 ∧ w2 20 2 0 ≤ w 20 1 0) ∧ (∀ j : Nat, j < 6 → 0 ≤ w2 20 9 j ∧ w2 20 9 j ≤ 99) ∧ ((z = 1 ∧ pl 0 0 < 6 ∧ itX t (w 20 1 0) p ≠ -4 ∧ w2 20 2 0 = itX t (w 20 1 0) p ∧ PlR (tmX pl (ivX t (w 20 1 0) p)) (w2 20 3)) ∨ (z = 0 ∧ (pl 0 0 = 6 ∨ itX t (w 20 1 0) p = -4)))) := by
  refine mi_of (lv := [(0, .ref (gAd G 20))]) (by decide) (Nat.le_of_ble_eq_true rfl) rfl ?_
  intro p_ e_ s_ m_ b_ h_ c_ X
  have t36 := hT.1
  have hat : 0 ≤ w 20 2 0 ∧ w 20 2 0 ≤ w 20 1 0 := by omega
  refine g_aload_n X dX8_readMachine_0 rfl 0 rfl ?_
  refine g_geta X ck_X8 FM 3 (by decide) fl_X8_13 rfl dX8_readMachine_1 ?_
  refine g_bipush X dX8_readMachine_4 (by decide) ?_
  refine h_iald (a := 36) (j := 36) X rfl FM (by decide) (show fkX 8 3 = (1, 44) from rfl) (by decide) (by omega) (by omega) dX8_readMachine_6 ?_
  refine g_bipush X dX8_readMachine_7 (by decide) ?_
  refine g_icmp_eq (tgt := 59) X dX8_readMachine_9 (by decide) (by unfold InR; omega) ⟨by decide, by decide⟩ (fun c_9 => ?_) (fun c_9 => ?_)
  · skip
    refine g_iconst X dX8_readMachine_59 ?_
    exact g_iret X rfl (by decide) dX8_readMachine_60 (by
        first
        | exact ⟨fun _ _ _ => rfl, hat, h9, Or.inr ⟨rfl, Or.inl (by omega)⟩⟩
        | (refine ⟨fun o f h => rfr o f (fun z => h ⟨z.1, by omega⟩), rat, r9, Or.inr ⟨rfl, Or.inr ?_⟩⟩
           refine Classical.byContradiction (fun hne => ?_)
           obtain ⟨g0, g1, g2, g3⟩ := hic.1.mp hne
           rcases hz with q | q
           · have n0 := q.2.2.2 0 (by decide)
             have n1 := q.2.2.2 1 (by decide)
             have n5 := q.2.2.2 5 (by decide)
             first
             | exact absurd (q.1.symm.trans c_18) (by decide)
             | exact of_zero c_29 (by rw [show u_15 20 9 (0 : Int).toNat = _ from n0]; exact g1)
             | exact of_zero c_45 (by rw [show u_15 20 9 (1 : Int).toNat = _ from n1, show u_15 20 9 0 = _ from n0]; exact g2)
             | exact of_zero (Classical.not_not.mp c_56) (by rw [show u_15 20 9 (5 : Int).toNat = _ from n5]; exact g3)
           · exact g0 q.2))
  · skip
    refine g_aload_n X dX8_readMachine_12 rfl 0 rfl ?_
    refine g_bipush X dX8_readMachine_13 (by decide) ?_
    refine g_calli (st := []) X (c_X8_readNumbers l G 6 t w FM (by first | assumption | omega | (unfold InR; omega)) (by first | assumption | omega | (unfold InR; omega)) (by first | assumption | omega | (unfold InR; omega)) (by first | assumption | omega | (unfold InR; omega)) (by decide) (by first | assumption | omega | (unfold InR; omega))) cm_X8_readNumbers im_X8_readNumbers se_X8_readNumbers ml_X8_69 ck_X8 FM ⟨Nat.le_of_ble_eq_true rfl, Nat.le_of_ble_eq_true rfl⟩ rfl rfl (Nat.le_of_ble_eq_true rfl) dX8_readMachine_15 ?_
    rintro z_15 u_15 ⟨rfr, rat, r9, hz⟩
    have rT : PlR pl (u_15 20 3) := by rw [rfr 20 3 (by decide)]; exact hT
    have hic := it_c (t := t) (L := w 20 1 0) (p := p) hp0.1 hc
    rw [hat1] at hz
    refine g_if_eq (tgt := 59) X dX8_readMachine_18 (by decide) (by rcases hz with q | q <;> (rw [q.1]; exact ⟨by decide, by decide⟩)) (fun c_18 => ?_) (fun c_18 => ?_)
    · skip
      refine g_iconst X dX8_readMachine_59 ?_
      exact g_iret X rfl (by decide) dX8_readMachine_60 (by
          first
          | exact ⟨fun _ _ _ => rfl, hat, h9, Or.inr ⟨rfl, Or.inl (by omega)⟩⟩
          | (refine ⟨fun o f h => rfr o f (fun z => h ⟨z.1, by omega⟩), rat, r9, Or.inr ⟨rfl, Or.inr ?_⟩⟩
             refine Classical.byContradiction (fun hne => ?_)
             obtain ⟨g0, g1, g2, g3⟩ := hic.1.mp hne
             rcases hz with q | q
             · have n0 := q.2.2.2 0 (by decide)
               have n1 := q.2.2.2 1 (by decide)
               have n5 := q.2.2.2 5 (by decide)
               first
               | exact absurd (q.1.symm.trans c_18) (by decide)
               | exact of_zero c_29 (by rw [show u_15 20 9 (0 : Int).toNat = _ from n0]; exact g1)
               | exact of_zero c_45 (by rw [show u_15 20 9 (1 : Int).toNat = _ from n1, show u_15 20 9 0 = _ from n0]; exact g2)
               | exact of_zero (Classical.not_not.mp c_56) (by rw [show u_15 20 9 (5 : Int).toNat = _ from n5]; exact g3)
             · exact g0 q.2))
    · skip
      refine g_aload_n X dX8_readMachine_21 rfl 0 rfl ?_
      refine g_iconst X dX8_readMachine_22 ?_
      refine g_iconst X dX8_readMachine_23 ?_
      refine g_bipush X dX8_readMachine_24 (by decide) ?_
      refine g_calli (st := []) X (c_X8_isNumber l G 0 1 40 u_15 FM (by first | assumption | omega | (unfold InR; omega)) (by exact r9 0 (by decide)) (by first | assumption | omega | (unfold InR; omega)) (by first | assumption | omega | (unfold InR; omega))) cm_X8_isNumber im_X8_isNumber se_X8_isNumber ml_X8_73 ck_X8 FM ⟨Nat.le_of_ble_eq_true rfl, Nat.le_of_ble_eq_true rfl⟩ rfl rfl (Nat.le_of_ble_eq_true rfl) dX8_readMachine_26 (fn_i ?_)
      refine g_if_eq (tgt := 59) X dX8_readMachine_29 (by decide) (by exact in01) (fun c_29 => ?_) (fun c_29 => ?_)
      · skip
        refine g_iconst X dX8_readMachine_59 ?_
        exact g_iret X rfl (by decide) dX8_readMachine_60 (by
            first
            | exact ⟨fun _ _ _ => rfl, hat, h9, Or.inr ⟨rfl, Or.inl (by omega)⟩⟩
            | (refine ⟨fun o f h => rfr o f (fun z => h ⟨z.1, by omega⟩), rat, r9, Or.inr ⟨rfl, Or.inr ?_⟩⟩
               refine Classical.byContradiction (fun hne => ?_)
               obtain ⟨g0, g1, g2, g3⟩ := hic.1.mp hne
               rcases hz with q | q
               · have n0 := q.2.2.2 0 (by decide)
                 have n1 := q.2.2.2 1 (by decide)
                 have n5 := q.2.2.2 5 (by decide)
                 first
                 | exact absurd (q.1.symm.trans c_18) (by decide)
                 | exact of_zero c_29 (by rw [show u_15 20 9 (0 : Int).toNat = _ from n0]; exact g1)
                 | exact of_zero c_45 (by rw [show u_15 20 9 (1 : Int).toNat = _ from n1, show u_15 20 9 0 = _ from n0]; exact g2)
                 | exact of_zero (Classical.not_not.mp c_56) (by rw [show u_15 20 9 (5 : Int).toNat = _ from n5]; exact g3)
               · exact g0 q.2))
      · skip
        refine g_aload_n X dX8_readMachine_32 rfl 0 rfl ?_
        refine g_iconst X dX8_readMachine_33 ?_
        refine g_aload_n X dX8_readMachine_34 rfl 0 rfl ?_
        refine g_geta X ck_X8 FM 9 (by decide) fl_X8_28 rfl dX8_readMachine_35 ?_
        refine g_iconst X dX8_readMachine_38 ?_
        refine h_iald (a := 0) (j := 0) X rfl FM (by decide) (show fkX 8 9 = (1, 6) from rfl) (by decide) (by omega) (by omega) dX8_readMachine_39 ?_
        refine g_bipush X dX8_readMachine_40 (by decide) ?_
        refine g_calli (st := []) X (c_X8_isNumber l G 1 (u_15 20 9 0) 80 u_15 FM (by first | assumption | omega | (unfold InR; omega)) (by exact r9 1 (by decide)) (by have := r9 0 (by decide); unfold InR; omega) (by first | assumption | omega | (unfold InR; omega))) cm_X8_isNumber im_X8_isNumber se_X8_isNumber ml_X8_73 ck_X8 FM ⟨Nat.le_of_ble_eq_true rfl, Nat.le_of_ble_eq_true rfl⟩ rfl rfl (Nat.le_of_ble_eq_true rfl) dX8_readMachine_42 (fn_i ?_)
        refine g_if_eq (tgt := 59) X dX8_readMachine_45 (by decide) (by exact in01) (fun c_45 => ?_) (fun c_45 => ?_)
        · skip
          refine g_iconst X dX8_readMachine_59 ?_
          exact g_iret X rfl (by decide) dX8_readMachine_60 (by
              first
              | exact ⟨fun _ _ _ => rfl, hat, h9, Or.inr ⟨rfl, Or.inl (by omega)⟩⟩
              | (refine ⟨fun o f h => rfr o f (fun z => h ⟨z.1, by omega⟩), rat, r9, Or.inr ⟨rfl, Or.inr ?_⟩⟩
                 refine Classical.byContradiction (fun hne => ?_)
                 obtain ⟨g0, g1, g2, g3⟩ := hic.1.mp hne
                 rcases hz with q | q
                 · have n0 := q.2.2.2 0 (by decide)
                   have n1 := q.2.2.2 1 (by decide)
                   have n5 := q.2.2.2 5 (by decide)
                   first
                   | exact absurd (q.1.symm.trans c_18) (by decide)
                   | exact of_zero c_29 (by rw [show u_15 20 9 (0 : Int).toNat = _ from n0]; exact g1)
                   | exact of_zero c_45 (by rw [show u_15 20 9 (1 : Int).toNat = _ from n1, show u_15 20 9 0 = _ from n0]; exact g2)
                   | exact of_zero (Classical.not_not.mp c_56) (by rw [show u_15 20 9 (5 : Int).toNat = _ from n5]; exact g3)
                 · exact g0 q.2))
        · skip
          refine g_aload_n X dX8_readMachine_48 rfl 0 rfl ?_
          refine g_iconst X dX8_readMachine_49 ?_
          refine g_iconst X dX8_readMachine_50 ?_
          refine g_bipush X dX8_readMachine_51 (by decide) ?_
          refine g_calli (st := []) X (c_X8_isNumber l G 5 1 40 u_15 FM (by first | assumption | omega | (unfold InR; omega)) (by exact r9 5 (by decide)) (by first | assumption | omega | (unfold InR; omega)) (by first | assumption | omega | (unfold InR; omega))) cm_X8_isNumber im_X8_isNumber se_X8_isNumber ml_X8_73 ck_X8 FM ⟨Nat.le_of_ble_eq_true rfl, Nat.le_of_ble_eq_true rfl⟩ rfl rfl (Nat.le_of_ble_eq_true rfl) dX8_readMachine_53 (fn_i ?_)
          refine g_if_ne (tgt := 61) X dX8_readMachine_56 (by decide) (by exact in01) (fun c_56 => ?_) (fun c_56 => ?_)
          · skip
            refine g_aload_n X dX8_readMachine_61 rfl 0 rfl ?_
            refine g_aload_n X dX8_readMachine_62 rfl 0 rfl ?_
            refine g_geta X ck_X8 FM 9 (by decide) fl_X8_28 rfl dX8_readMachine_63 ?_
            refine g_iconst X dX8_readMachine_66 ?_
            refine h_iald (a := 0) (j := 0) X rfl FM (by decide) (show fkX 8 9 = (1, 6) from rfl) (by decide) (by omega) (by omega) dX8_readMachine_67 ?_
            refine g_aload_n X dX8_readMachine_68 rfl 0 rfl ?_
            refine g_geta X ck_X8 FM 9 (by decide) fl_X8_28 rfl dX8_readMachine_69 ?_
            refine g_iconst X dX8_readMachine_72 ?_
            refine h_iald (a := 1) (j := 1) X rfl FM (by decide) (show fkX 8 9 = (1, 6) from rfl) (by decide) (by omega) (by omega) dX8_readMachine_73 ?_
            refine g_aload_n X dX8_readMachine_74 rfl 0 rfl ?_
            refine g_geta X ck_X8 FM 9 (by decide) fl_X8_28 rfl dX8_readMachine_75 ?_
            refine g_iconst X dX8_readMachine_78 ?_
            refine h_iald (a := 2) (j := 2) X rfl FM (by decide) (show fkX 8 9 = (1, 6) from rfl) (by decide) (by omega) (by omega) dX8_readMachine_79 ?_
            refine g_aload_n X dX8_readMachine_80 rfl 0 rfl ?_
            refine g_geta X ck_X8 FM 9 (by decide) fl_X8_28 rfl dX8_readMachine_81 ?_
            refine g_iconst X dX8_readMachine_84 ?_
            refine h_iald (a := 3) (j := 3) X rfl FM (by decide) (show fkX 8 9 = (1, 6) from rfl) (by decide) (by omega) (by omega) dX8_readMachine_85 ?_
            refine g_aload_n X dX8_readMachine_86 rfl 0 rfl ?_
            refine g_geta X ck_X8 FM 9 (by decide) fl_X8_28 rfl dX8_readMachine_87 ?_
            refine g_iconst X dX8_readMachine_90 ?_
            refine h_iald (a := 4) (j := 4) X rfl FM (by decide) (show fkX 8 9 = (1, 6) from rfl) (by decide) (by omega) (by omega) dX8_readMachine_91 ?_
            refine g_aload_n X dX8_readMachine_92 rfl 0 rfl ?_
            refine g_geta X ck_X8 FM 9 (by decide) fl_X8_28 rfl dX8_readMachine_93 ?_
            refine g_iconst X dX8_readMachine_96 ?_
            refine h_iald (a := 5) (j := 5) X rfl FM (by decide) (show fkX 8 9 = (1, 6) from rfl) (by decide) (by omega) (by omega) dX8_readMachine_97 ?_
            refine g_callv (st := []) X (c_X8_putMachine l G (u_15 20 9 0) (u_15 20 9 1) (u_15 20 9 2) (u_15 20 9 3) (u_15 20 9 4) (u_15 20 9 5) pl u_15 FM (by exact rT) (by omega)) cm_X8_putMachine im_X8_putMachine se_X8_putMachine ml_X8_40 ck_X8 FM ⟨Nat.le_of_ble_eq_true rfl, Nat.le_of_ble_eq_true rfl⟩ rfl rfl (Nat.le_of_ble_eq_true rfl) dX8_readMachine_98 ?_
            rintro u_98 ⟨pfr, padd⟩
            refine g_iconst X dX8_readMachine_101 ?_
            exact g_iret X rfl (by decide) dX8_readMachine_102 (by
                rcases hz with q | q
                · have n0 := q.2.2.2 0 (by decide)
                  have n1 := q.2.2.2 1 (by decide)
                  have n5 := q.2.2.2 5 (by decide)
                  have k0 := of_one c_29
                  have k1 := of_one c_45
                  have k5 := of_one c_56
                  rw [show u_15 20 9 (0 : Int).toNat = _ from n0] at k0
                  rw [show u_15 20 9 (1 : Int).toNat = _ from n1, show u_15 20 9 0 = _ from n0] at k1
                  rw [show u_15 20 9 (5 : Int).toNat = _ from n5] at k5
                  have hne := hic.1.mpr ⟨q.2.1, k0, k1, k5⟩
                  have hv := hic.2 hne
                  have e := fun k (hk : k < 6) => (hv.2 k hk).trans (q.2.2.2 k (by omega)).symm
                  refine ⟨fun o f h => by rw [pfr o f (fun z => h ⟨z.1, by omega⟩)]; exact rfr o f (fun z => h ⟨z.1, by omega⟩), by rw [pfr 20 2 (by decide)]; exact rat, by rw [pfr 20 9 (by decide)]; exact r9, Or.inl ⟨rfl, by omega, hne, ?_, padd _ (e 0 (by decide)) (e 1 (by decide)) (e 2 (by decide)) (e 3 (by decide)) (e 4 (by decide)) (e 5 (by decide))⟩⟩
                  rw [pfr 20 2 (by decide), hv.1]
                  exact q.2.2.1
                · exact absurd q.1 c_18)
          · skip
            refine g_iconst X dX8_readMachine_59 ?_
            exact g_iret X rfl (by decide) dX8_readMachine_60 (by
                first
                | exact ⟨fun _ _ _ => rfl, hat, h9, Or.inr ⟨rfl, Or.inl (by omega)⟩⟩
                | (refine ⟨fun o f h => rfr o f (fun z => h ⟨z.1, by omega⟩), rat, r9, Or.inr ⟨rfl, Or.inr ?_⟩⟩
                   refine Classical.byContradiction (fun hne => ?_)
                   obtain ⟨g0, g1, g2, g3⟩ := hic.1.mp hne
                   rcases hz with q | q
                   · have n0 := q.2.2.2 0 (by decide)
                     have n1 := q.2.2.2 1 (by decide)
                     have n5 := q.2.2.2 5 (by decide)
                     first
                     | exact absurd (q.1.symm.trans c_18) (by decide)
                     | exact of_zero c_29 (by rw [show u_15 20 9 (0 : Int).toNat = _ from n0]; exact g1)
                     | exact of_zero c_45 (by rw [show u_15 20 9 (1 : Int).toNat = _ from n1, show u_15 20 9 0 = _ from n0]; exact g2)
                     | exact of_zero (Classical.not_not.mp c_56) (by rw [show u_15 20 9 (5 : Int).toNat = _ from n5]; exact g3)
                   · exact g0 q.2))
