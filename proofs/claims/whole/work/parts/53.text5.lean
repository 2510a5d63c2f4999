theorem plr_oth {pl : Nat → Nat → Int} {T T2 N v : Nat → Int} {c to n : Int} (h : PlR pl T) (hton : (c = 114 ∧ to = 37 ∧ n = 4) ∨ (c ≠ 114 ∧ to = 41 ∧ n = 3)) (hc : c = 114 ∨ c = 104) (hN : ∀ j : Nat, (j : Int) < n → N j = v j) (hT : ∀ j : Nat, T2 j = if to ≤ j ∧ (j : Int) < to + n then N (j - to.toNat) else T j) (hpl : 0 ≤ pl 0 0 ∧ pl 0 0 ≤ 6) : PlR (taX pl c v) T2 := by
  rcases hton with ⟨c1, c2, c3⟩ | ⟨c1, c2, c3⟩
  · subst c1 c2 c3
    have e : taX pl 114 v = fu (fu (fu (fu pl 7 0 (v 0)) 8 0 (v 1)) 9 0 (v 2)) 10 0 (v 3) := rfl
    rw [e]
    have e0 : fu (fu (fu (fu pl 7 0 (v 0)) 8 0 (v 1)) 9 0 (v 2)) 10 0 (v 3) 0 0 = pl 0 0 := by simp [fu]
    refine ⟨by rw [hT, if_neg (by omega), e0]; exact h.1, fun m f hm hf => ?_, fun f h1 h2 => ?_⟩
    · rw [e0] at hm
      rw [hT, if_neg (by omega), h.2.1 m f hm hf, fu_ne (by omega), fu_ne (by omega), fu_ne (by omega), fu_ne (by omega)]
    · rw [hT]
      have n0 := hN 0 (by decide)
      have n1 := hN 1 (by decide)
      have n2 := hN 2 (by decide)
      have n3 := hN 3 (by decide)
      have p11 := h.2.2 11 (by decide) (by decide)
      have p12 := h.2.2 12 (by decide) (by decide)
      have p13 := h.2.2 13 (by decide) (by decide)
      rcases (show f = 7 ∨ f = 8 ∨ f = 9 ∨ f = 10 ∨ f = 11 ∨ f = 12 ∨ f = 13 by omega) with rfl | rfl | rfl | rfl | rfl | rfl | rfl
      · rw [if_pos (by omega)]; simp [fu]; exact n0
      · rw [if_pos (by omega)]; simp [fu]; exact n1
      · rw [if_pos (by omega)]; simp [fu]; exact n2
      · rw [if_pos (by omega)]; simp [fu]; exact n3
      · rw [if_neg (by omega)]; simp [fu]; exact p11
      · rw [if_neg (by omega)]; simp [fu]; exact p12
      · rw [if_neg (by omega)]; simp [fu]; exact p13
  · have c4 : c = 104 := by omega
    subst c4 c2 c3
    have e : taX pl 104 v = fu (fu (fu pl 11 0 (v 0)) 12 0 (v 1)) 13 0 (v 2) := rfl
    rw [e]
    have e0 : fu (fu (fu pl 11 0 (v 0)) 12 0 (v 1)) 13 0 (v 2) 0 0 = pl 0 0 := by simp [fu]
    refine ⟨by rw [hT, if_neg (by omega), e0]; exact h.1, fun m f hm hf => ?_, fun f h1 h2 => ?_⟩
    · rw [e0] at hm
      rw [hT, if_neg (by omega), h.2.1 m f hm hf, fu_ne (by omega), fu_ne (by omega), fu_ne (by omega)]
    · rw [hT]
      have n0 := hN 0 (by decide)
      have n1 := hN 1 (by decide)
      have n2 := hN 2 (by decide)
      have p7 := h.2.2 7 (by decide) (by decide)
      have p8 := h.2.2 8 (by decide) (by decide)
      have p9 := h.2.2 9 (by decide) (by decide)
      have p10 := h.2.2 10 (by decide) (by decide)
      rcases (show f = 7 ∨ f = 8 ∨ f = 9 ∨ f = 10 ∨ f = 11 ∨ f = 12 ∨ f = 13 by omega) with rfl | rfl | rfl | rfl | rfl | rfl | rfl
      · rw [if_neg (by omega)]; simp [fu]; exact p7
      · rw [if_neg (by omega)]; simp [fu]; exact p8
      · rw [if_neg (by omega)]; simp [fu]; exact p9
      · rw [if_neg (by omega)]; simp [fu]; exact p10
      · rw [if_pos (by omega)]; simp [fu]; exact n0
      · rw [if_pos (by omega)]; simp [fu]; exact n1
      · rw [if_pos (by omega)]; simp [fu]; exact n2
set_option maxHeartbeats 4000000 in
set_option maxRecDepth 100000 in
theorem c_X8_readOther (l : Launch) (G : Ly) (c : Int) (t : Nat → Int) (pl : Nat → Nat → Int) (p : Int) (w : Wd) (FM : gOb G 20 = some 8) (ht : ∀ j : Nat, (j : Int) < w 20 1 0 → w 20 0 j = t j) (hL : 0 ≤ w 20 1 0 ∧ w 20 1 0 ≤ 200) (htr : ∀ j : Nat, j < 200 → 0 ≤ t j ∧ t j ≤ 126) (hp0 : 0 ≤ p ∧ p < w 20 1 0) (hat1 : w 20 2 0 = p + 1) (hT : PlR pl (w 20 3)) (hn : 0 ≤ pl 0 0 ∧ pl 0 0 ≤ 6) (h9 : ∀ j : Nat, j < 6 → 0 ≤ w 20 9 j ∧ w 20 9 j ≤ 99) (hc : ltX t (w 20 1 0) p = c) (hc9 : c ≠ 99) (hcr : InR c) : Mi l yX8_readOther cX8_readOther 6 (some .boolean) 3 66 G [.ref (gAd G 20), .int (iI c)] w (fun z w2 => (∀ o f, ¬ (o = 20 ∧ (f = 2 ∨ f = 3 ∨ f = 9)) → w2 o f = w o f) ∧ (0 ≤ w2 20 2 0 ∧ w2 20 2 0 ≤ w 20 1 0) ∧ (∀ j : Nat, j < 6 → 0 ≤ w2 20 9 j ∧ w2 20 9 j ≤ 99) ∧ ((z = 1 ∧ itX t (w 20 1 0) p ≠ -4 ∧ w2 20 2 0 = itX t (w 20 1 0) p ∧ PlR (taX pl c (ivX t (w 20 1 0) p)) (w2 20 3)) ∨ (z = 0 ∧ itX t (w 20 1 0) p = -4))) := by
  refine mi_of (lv := [(0, .ref (gAd G 20)), (1, .int (iI c))]) (by decide) (Nat.le_of_ble_eq_true rfl) rfl ?_
  intro p_ e_ s_ m_ b_ h_ c_ X
  have hat : 0 ≤ w 20 2 0 ∧ w 20 2 0 ≤ w 20 1 0 := by omega
  refine g_iconst X dX8_readOther_0 ?_
  refine g_istore_n (lv' := [(2, .int (iI 0)), (0, .ref (gAd G 20)), (1, .int (iI c))]) X dX8_readOther_1 rfl (by decide) rfl ?_
  refine g_cut2 (pc' := 29) (fun (to : Int) (n : Int) => [(0, .ref (gAd G 20)), (1, .int (iI c)), (2, .int (iI 0)), (3, .int (iI to)), (4, .int (iI n))]) (fun (to : Int) (n : Int) => []) (fun (to : Int) (n : Int) => w) (fun (to : Int) (n : Int) => ((c = 114 ∧ to = 37 ∧ n = 4) ∨ (c ≠ 114 ∧ to = 41 ∧ n = 3))) ?_ ?_
  · intro to n hI_29
    have hton := hI_29
    try dsimp only at hton ⊢
    refine g_iload_n X dX8_readOther_29 rfl 1 rfl ?_
    refine g_cut2 (pc' := 150) (fun (go : Int) (w3 : Wd) => [(0, .ref (gAd G 20)), (1, .int (iI c)), (2, .int (iI go)), (3, .int (iI to)), (4, .int (iI n))]) (fun (go : Int) (w3 : Wd) => []) (fun (go : Int) (w3 : Wd) => w3) (fun (go : Int) (w3 : Wd) => ((go = 1 ∧ (c = 114 ∨ c = 104) ∧ itX t (w 20 1 0) p ≠ -4 ∧ w3 20 2 0 = itX t (w 20 1 0) p ∧ ∀ j : Nat, (j : Int) < n → w3 20 9 j = ivX t (w 20 1 0) p j) ∨ (go = 0 ∧ itX t (w 20 1 0) p = -4)) ∧ ((∀ o f, ¬ (o = 20 ∧ (f = 2 ∨ f = 3 ∨ f = 9)) → w3 o f = w o f)) ∧ (0 ≤ w3 20 2 0 ∧ w3 20 2 0 ≤ w 20 1 0) ∧ (∀ j : Nat, j < 6 → 0 ≤ w3 20 9 j ∧ w3 20 9 j ≤ 99) ∧ (w3 20 3 = w 20 3)) ?_ ?_
    · intro go w3 hI_150
      obtain ⟨hst, gfr, gat, g9, g3⟩ := hI_150
      try dsimp only
      refine g_iconst X dX8_readOther_150 ?_
      refine g_istore (lv' := [(5, .int (iI 0)), (0, .ref (gAd G 20)), (1, .int (iI c)), (2, .int (iI go)), (3, .int (iI to)), (4, .int (iI n))]) X dX8_readOther_151 (by decide) rfl ?_
      refine g_lv (lv' := [(0, .ref (gAd G 20)), (1, .int (iI c)), (2, .int (iI go)), (3, .int (iI to)), (4, .int (iI n)), (5, .int (iI 0))]) [1, 2, 3, 4, 5, 0] rfl ?_
      refine g_loop2 (fun (k : Int) (w5 : Wd) => [(0, .ref (gAd G 20)), (1, .int (iI c)), (2, .int (iI go)), (3, .int (iI to)), (4, .int (iI n)), (5, .int (iI k))]) (fun (k : Int) (w5 : Wd) => w5) (fun (k : Int) (w5 : Wd) => (0 ≤ k) ∧ (k ≤ n) ∧ (go = 0 → k = 0) ∧ (∀ o f, ¬ (o = 20 ∧ f = 3) → w5 o f = w3 o f) ∧ (∀ j : Nat, w5 20 3 j = if to ≤ j ∧ (j : Int) < to + k then w3 20 9 (j - to.toNat) else w 20 3 j)) (fun (k : Int) (w5 : Wd) => (n - k).toNat) 0 w3 ⟨(by first | omega | rfl | assumption), (by first | omega | rfl | assumption), (by first | omega | rfl | assumption), (by intro _ _ _; rfl), (by intro j; rw [if_neg (by omega), g3])⟩ ?_
      intro k w5 hI_153 ih_153
      obtain ⟨k0, k1, kg, kf, kz⟩ := hI_153
      try dsimp only at ih_153 ⊢
      refine g_iload X dX8_readOther_153 5 rfl ?_
      refine g_iload X dX8_readOther_155 4 rfl ?_
      refine g_icmp_ge (tgt := 186) X dX8_readOther_157 (by decide) (by unfold InR; omega) (by unfold InR; omega) (fun c_157 => ?_) (fun c_157 => ?_)
      · skip
        refine g_iload_n X dX8_readOther_186 rfl 2 rfl ?_
        exact g_iret X rfl (by rcases hst with q | q <;> rw [q.1] <;> rfl) dX8_readOther_187 (by
            have hfr9 : ∀ o f, ¬ (o = 20 ∧ (f = 2 ∨ f = 3 ∨ f = 9)) → w5 o f = w o f := fun o f h => by rw [kf o f (fun z => h ⟨z.1, by omega⟩)]; exact gfr o f h
            refine ⟨hfr9, by rw [kf 20 2 (by decide)]; exact gat, by rw [kf 20 9 (by decide)]; exact g9, ?_⟩
            rcases hst with q | q
            · have hk : k = n := by
                first
                | omega
                | (have := q.1; omega)
              refine Or.inl ⟨q.1, q.2.2.1, by rw [kf 20 2 (by decide)]; exact q.2.2.2.1, ?_⟩
              exact plr_oth hT hton q.2.1 (fun j hj => q.2.2.2.2 j hj) (fun j => by rw [kz j, hk]) hn
            · exact Or.inr ⟨q.1, q.2⟩)
      · skip
        refine g_iload_n X dX8_readOther_160 rfl 2 rfl ?_
        refine g_if_eq (tgt := 186) X dX8_readOther_161 (by decide) (by rcases hst with q | q <;> (rw [q.1]; exact ⟨by decide, by decide⟩)) (fun c_161 => ?_) (fun c_161 => ?_)
        · skip
          refine g_iload_n X dX8_readOther_186 rfl 2 rfl ?_
          exact g_iret X rfl (by rcases hst with q | q <;> rw [q.1] <;> rfl) dX8_readOther_187 (by
              have hfr9 : ∀ o f, ¬ (o = 20 ∧ (f = 2 ∨ f = 3 ∨ f = 9)) → w5 o f = w o f := fun o f h => by rw [kf o f (fun z => h ⟨z.1, by omega⟩)]; exact gfr o f h
              refine ⟨hfr9, by rw [kf 20 2 (by decide)]; exact gat, by rw [kf 20 9 (by decide)]; exact g9, ?_⟩
              rcases hst with q | q
              · have hk : k = n := by
                  first
                  | omega
                  | (have := q.1; omega)
                refine Or.inl ⟨q.1, q.2.2.1, by rw [kf 20 2 (by decide)]; exact q.2.2.2.1, ?_⟩
                exact plr_oth hT hton q.2.1 (fun j hj => q.2.2.2.2 j hj) (fun j => by rw [kz j, hk]) hn
              · exact Or.inr ⟨q.1, q.2⟩)
        · skip
          refine g_aload_n X dX8_readOther_164 rfl 0 rfl ?_
          refine g_geta X ck_X8 FM 3 (by decide) fl_X8_13 rfl dX8_readOther_165 ?_
          refine g_iload_n X dX8_readOther_168 rfl 3 rfl ?_
          refine g_iload X dX8_readOther_169 5 rfl ?_
          refine g_iadd X dX8_readOther_171 ?_
          refine g_aload_n X dX8_readOther_172 rfl 0 rfl ?_
          refine g_geta X ck_X8 FM 9 (by decide) fl_X8_28 rfl dX8_readOther_173 ?_
          refine g_iload X dX8_readOther_176 5 rfl ?_
          refine h_iald (a := k) (j := (k).toNat) X rfl FM (by decide) (show fkX 8 9 = (1, 6) from rfl) (by decide) (by omega) (by omega) dX8_readOther_178 ?_
          refine h_iast (a := to + k) (j := (to + k).toNat) X rfl FM (by decide) (show fkX 8 3 = (1, 44) from rfl) (by decide) (by omega) (by omega) dX8_readOther_179 ?_
          obtain ⟨w_1, ew_1⟩ : ∃ q_ : Wd, q_ = up w5 20 3 (to + k).toNat (w5 20 9 (k).toNat) := ⟨_, rfl⟩
          refine g_w (w' := w_1) ew_1 ?_
          refine g_iinc (j := 5) (lv' := [(5, .int (iI (k + 1))), (0, .ref (gAd G 20)), (1, .int (iI c)), (2, .int (iI go)), (3, .int (iI to)), (4, .int (iI n))]) X dX8_readOther_180 rfl (by decide) rfl ?_
          refine g_goto (tgt := 153) X dX8_readOther_183 (by decide) ?_
          refine g_lv (lv' := [(0, .ref (gAd G 20)), (1, .int (iI c)), (2, .int (iI go)), (3, .int (iI to)), (4, .int (iI n)), (5, .int (iI (k + 1)))]) [1, 2, 3, 4, 5, 0] rfl ?_
          exact ih_153 (k + 1) w_1 ⟨(by first | omega | rfl | assumption), (by first | omega | rfl | assumption), (by intro h; exact absurd h c_161), (by intro o f h; rw [ew_1, up_fn h]; exact kf o f h), (by
              intro j
              rw [ew_1, kf 20 9 (by decide)]
              by_cases e : j = (to + k).toNat
              · rw [e, up_at, if_pos (by omega)]
                congr 1
                omega
              · rw [up_ne (fun z => e z.2.2), kz]
                by_cases e2 : to ≤ j ∧ (j : Int) < to + k
                · rw [if_pos e2, if_pos (by omega)]
                · rw [if_neg e2, if_neg (by omega)])⟩ (by omega)
    · intro J_150
      try dsimp only at J_150
      refine g_bipush X dX8_readOther_30 (by decide) ?_
      refine g_icmp_ne (tgt := 96) X dX8_readOther_32 (by decide) (by exact hcr) ⟨by decide, by decide⟩ (fun c_32 => ?_) (fun c_32 => ?_)
      · skip
        refine g_iload_n X dX8_readOther_96 rfl 1 rfl ?_
        refine g_bipush X dX8_readOther_97 (by decide) ?_
        refine g_icmp_ne (tgt := 150) X dX8_readOther_99 (by decide) (by exact hcr) ⟨by decide, by decide⟩ (fun c_99 => ?_) (fun c_99 => ?_)
        · skip
          refine g_lv (lv' := [(0, .ref (gAd G 20)), (1, .int (iI c)), (2, .int (iI 0)), (3, .int (iI to)), (4, .int (iI n))]) [0, 1, 2, 3, 4] rfl ?_
          exact J_150 0 w ⟨(by
              first
              | (have hi : itX t (w 20 1 0) p = -4 := (by unfold itX; rw [if_neg (by omega), if_neg (by omega), if_neg (by omega)])
                 exact Or.inr ⟨rfl, hi⟩)
              | (rcases hz with q | q
                 · have e0 := q.2.2.2 0 (by decide)
                   have e1 := q.2.2.2 1 (by decide)
                   have e2 := q.2.2.2 2 (by decide)
                   have e3 := q.2.2.2 3 (by decide)
                   have z0 := of_one c_51
                   have z1 := of_one c_62
                   have z2 := of_one c_73
                   have z3 := of_one c_84
                   have hne := hio.1.mpr ⟨q.2.1, fun j hj => (by
                     rcases (show j = 0 ∨ j = 1 ∨ j = 2 ∨ j = 3 by omega) with rfl | rfl | rfl | rfl
                     · rw [← e0]; exact z0
                     · rw [← e1]; exact z1
                     · rw [← e2]; exact z2
                     · rw [← e3]; exact z3)⟩
                   have hv := hio.2 hne
                   exact Or.inl ⟨rfl, Or.inl (by omega), hne, (by rw [hv.1]; exact q.2.2.1), fun j hj => (by rw [q.2.2.2 j (by omega), hv.2 j (by omega)])⟩
                 · exact absurd q.1 c_40)
              | (rcases hz with q | q
                 · have e0 := q.2.2.2 0 (by decide)
                   have e1 := q.2.2.2 1 (by decide)
                   have e2 := q.2.2.2 2 (by decide)
                   have z0 := of_one c_119
                   have z1 := of_one c_130
                   have z2 := of_one c_141
                   have hne := hio.1.mpr ⟨q.2.1, fun j hj => (by
                     rcases (show j = 0 ∨ j = 1 ∨ j = 2 by omega) with rfl | rfl | rfl
                     · rw [← e0]; exact z0
                     · rw [← e1]; exact z1
                     · rw [← e2]; exact z2)⟩
                   have hv := hio.2 hne
                   exact Or.inl ⟨rfl, Or.inr (by omega), hne, (by rw [hv.1]; exact q.2.2.1), fun j hj => (by rw [q.2.2.2 j (by omega), hv.2 j (by omega)])⟩
                 · exact absurd q.1 c_107)
              | (refine Or.inr ⟨rfl, Classical.byContradiction (fun hne => ?_)⟩
                 obtain ⟨g0, gj⟩ := hio.1.mp hne
                 rcases hz with q | q
                 · have f0 := gj 0 (by decide)
                   have f1 := gj 1 (by decide)
                   have f2 := gj 2 (by decide)
                   have e0 := q.2.2.2 0 (by decide)
                   have e1 := q.2.2.2 1 (by decide)
                   have e2 := q.2.2.2 2 (by decide)
                   rw [← e0] at f0
                   rw [← e1] at f1
                   rw [← e2] at f2
                   first
                   | exact absurd (q.1.symm.trans c_40) (by decide)
                   | exact absurd (q.1.symm.trans c_107) (by decide)
                   | exact of_zero c_51 f0
                   | exact of_zero c_62 f1
                   | exact of_zero c_73 f2
                   | exact of_zero c_119 f0
                   | exact of_zero c_130 f1
                   | exact of_zero c_141 f2
                   | (have f3 := gj 3 (by decide)
                      rw [← q.2.2.2 3 (by decide)] at f3
                      exact of_zero c_84 f3)
                 · exact g0 q.2)), (by first | exact fun _ _ _ => rfl | exact fun o f h => rfr o f (fun z => h ⟨z.1, by omega⟩)), (by first | exact rat | exact hat), (by first | exact r9 | exact h9), (by first | rfl | exact rfr 20 3 (by decide))⟩
        · skip
          refine g_aload_n X dX8_readOther_102 rfl 0 rfl ?_
          refine g_iconst X dX8_readOther_103 ?_
          refine g_calli (st := []) X (c_X8_readNumbers l G 3 t w FM (by first | assumption | omega | (unfold InR; omega)) (by first | assumption | omega | (unfold InR; omega)) (by first | assumption | omega | (unfold InR; omega)) (by first | assumption | omega | (unfold InR; omega)) (by decide) (by first | assumption | omega | (unfold InR; omega))) cm_X8_readNumbers im_X8_readNumbers se_X8_readNumbers ml_X8_69 ck_X8 FM ⟨Nat.le_of_ble_eq_true rfl, Nat.le_of_ble_eq_true rfl⟩ rfl rfl (Nat.le_of_ble_eq_true rfl) dX8_readOther_104 ?_
          rintro z_104 u_104 ⟨rfr, rat, r9, hz⟩
          rw [hat1] at hz
          have hz : (z_104 = 1 ∧ r0X t (w 20 1 0) 3 p 3 ≠ -4 ∧ u_104 20 2 0 = r0X t (w 20 1 0) 3 p 3 ∧ ∀ k : Nat, (k : Int) < 3 → u_104 20 9 k = nvX t (w 20 1 0) (r0X t (w 20 1 0) 3 p k)) ∨ (z_104 = 0 ∧ r0X t (w 20 1 0) 3 p 3 = -4) := hz
          have hio := it_o (t := t) (L := w 20 1 0) (p := p) hp0.1 (c := 104) (N := 3) (A := 7) (by omega) (by decide) rfl rfl (by unfold itX; rw [if_neg (by omega), if_neg (by omega), if_pos (by omega)])
          refine g_if_eq (tgt := 148) X dX8_readOther_107 (by decide) (by rcases hz with q | q <;> (rw [q.1]; exact ⟨by decide, by decide⟩)) (fun c_107 => ?_) (fun c_107 => ?_)
          · skip
            refine g_iconst X dX8_readOther_148 ?_
            refine g_istore_n (lv' := [(2, .int (iI 0)), (0, .ref (gAd G 20)), (1, .int (iI c)), (3, .int (iI to)), (4, .int (iI n))]) X dX8_readOther_149 rfl (by decide) rfl ?_
            refine g_lv (lv' := [(0, .ref (gAd G 20)), (1, .int (iI c)), (2, .int (iI 0)), (3, .int (iI to)), (4, .int (iI n))]) [1, 2, 0, 3, 4] rfl ?_
            exact J_150 0 u_104 ⟨(by
                first
                | (have hi : itX t (w 20 1 0) p = -4 := (by unfold itX; rw [if_neg (by omega), if_neg (by omega), if_neg (by omega)])
                   exact Or.inr ⟨rfl, hi⟩)
                | (rcases hz with q | q
                   · have e0 := q.2.2.2 0 (by decide)
                     have e1 := q.2.2.2 1 (by decide)
                     have e2 := q.2.2.2 2 (by decide)
                     have e3 := q.2.2.2 3 (by decide)
                     have z0 := of_one c_51
                     have z1 := of_one c_62
                     have z2 := of_one c_73
                     have z3 := of_one c_84
                     have hne := hio.1.mpr ⟨q.2.1, fun j hj => (by
                       rcases (show j = 0 ∨ j = 1 ∨ j = 2 ∨ j = 3 by omega) with rfl | rfl | rfl | rfl
                       · rw [← e0]; exact z0
                       · rw [← e1]; exact z1
                       · rw [← e2]; exact z2
                       · rw [← e3]; exact z3)⟩
                     have hv := hio.2 hne
                     exact Or.inl ⟨rfl, Or.inl (by omega), hne, (by rw [hv.1]; exact q.2.2.1), fun j hj => (by rw [q.2.2.2 j (by omega), hv.2 j (by omega)])⟩
                   · exact absurd q.1 c_40)
                | (rcases hz with q | q
                   · have e0 := q.2.2.2 0 (by decide)
                     have e1 := q.2.2.2 1 (by decide)
                     have e2 := q.2.2.2 2 (by decide)
                     have z0 := of_one c_119
                     have z1 := of_one c_130
                     have z2 := of_one c_141
                     have hne := hio.1.mpr ⟨q.2.1, fun j hj => (by
                       rcases (show j = 0 ∨ j = 1 ∨ j = 2 by omega) with rfl | rfl | rfl
                       · rw [← e0]; exact z0
                       · rw [← e1]; exact z1
                       · rw [← e2]; exact z2)⟩
                     have hv := hio.2 hne
                     exact Or.inl ⟨rfl, Or.inr (by omega), hne, (by rw [hv.1]; exact q.2.2.1), fun j hj => (by rw [q.2.2.2 j (by omega), hv.2 j (by omega)])⟩
                   · exact absurd q.1 c_107)
                | (refine Or.inr ⟨rfl, Classical.byContradiction (fun hne => ?_)⟩
                   obtain ⟨g0, gj⟩ := hio.1.mp hne
                   rcases hz with q | q
                   · have f0 := gj 0 (by decide)
                     have f1 := gj 1 (by decide)
                     have f2 := gj 2 (by decide)
                     have e0 := q.2.2.2 0 (by decide)
                     have e1 := q.2.2.2 1 (by decide)
                     have e2 := q.2.2.2 2 (by decide)
                     rw [← e0] at f0
                     rw [← e1] at f1
                     rw [← e2] at f2
                     first
                     | exact absurd (q.1.symm.trans c_40) (by decide)
                     | exact absurd (q.1.symm.trans c_107) (by decide)
                     | exact of_zero c_51 f0
                     | exact of_zero c_62 f1
                     | exact of_zero c_73 f2
                     | exact of_zero c_119 f0
                     | exact of_zero c_130 f1
                     | exact of_zero c_141 f2
                     | (have f3 := gj 3 (by decide)
                        rw [← q.2.2.2 3 (by decide)] at f3
                        exact of_zero c_84 f3)
                   · exact g0 q.2)), (by first | exact fun _ _ _ => rfl | exact fun o f h => rfr o f (fun z => h ⟨z.1, by omega⟩)), (by first | exact rat | exact hat), (by first | exact r9 | exact h9), (by first | rfl | exact rfr 20 3 (by decide))⟩
          · skip
            refine g_aload_n X dX8_readOther_110 rfl 0 rfl ?_
            refine g_iconst X dX8_readOther_111 ?_
            refine g_bipush X dX8_readOther_112 (by decide) ?_
            refine g_bipush X dX8_readOther_114 (by decide) ?_
            refine g_calli (st := []) X (c_X8_isNumber l G 0 50 99 u_104 FM (by first | assumption | omega | (unfold InR; omega)) (by exact r9 0 (by decide)) (by first | assumption | omega | (unfold InR; omega)) (by first | assumption | omega | (unfold InR; omega))) cm_X8_isNumber im_X8_isNumber se_X8_isNumber ml_X8_73 ck_X8 FM ⟨Nat.le_of_ble_eq_true rfl, Nat.le_of_ble_eq_true rfl⟩ rfl rfl (Nat.le_of_ble_eq_true rfl) dX8_readOther_116 (fn_i ?_)
            refine g_if_eq (tgt := 148) X dX8_readOther_119 (by decide) (by exact in01) (fun c_119 => ?_) (fun c_119 => ?_)
            · skip
              refine g_iconst X dX8_readOther_148 ?_
              refine g_istore_n (lv' := [(2, .int (iI 0)), (0, .ref (gAd G 20)), (1, .int (iI c)), (3, .int (iI to)), (4, .int (iI n))]) X dX8_readOther_149 rfl (by decide) rfl ?_
              refine g_lv (lv' := [(0, .ref (gAd G 20)), (1, .int (iI c)), (2, .int (iI 0)), (3, .int (iI to)), (4, .int (iI n))]) [1, 2, 0, 3, 4] rfl ?_
              exact J_150 0 u_104 ⟨(by
                  first
                  | (have hi : itX t (w 20 1 0) p = -4 := (by unfold itX; rw [if_neg (by omega), if_neg (by omega), if_neg (by omega)])
                     exact Or.inr ⟨rfl, hi⟩)
                  | (rcases hz with q | q
                     · have e0 := q.2.2.2 0 (by decide)
                       have e1 := q.2.2.2 1 (by decide)
                       have e2 := q.2.2.2 2 (by decide)
                       have e3 := q.2.2.2 3 (by decide)
                       have z0 := of_one c_51
                       have z1 := of_one c_62
                       have z2 := of_one c_73
                       have z3 := of_one c_84
                       have hne := hio.1.mpr ⟨q.2.1, fun j hj => (by
                         rcases (show j = 0 ∨ j = 1 ∨ j = 2 ∨ j = 3 by omega) with rfl | rfl | rfl | rfl
                         · rw [← e0]; exact z0
                         · rw [← e1]; exact z1
                         · rw [← e2]; exact z2
                         · rw [← e3]; exact z3)⟩
                       have hv := hio.2 hne
                       exact Or.inl ⟨rfl, Or.inl (by omega), hne, (by rw [hv.1]; exact q.2.2.1), fun j hj => (by rw [q.2.2.2 j (by omega), hv.2 j (by omega)])⟩
                     · exact absurd q.1 c_40)
                  | (rcases hz with q | q
                     · have e0 := q.2.2.2 0 (by decide)
                       have e1 := q.2.2.2 1 (by decide)
                       have e2 := q.2.2.2 2 (by decide)
                       have z0 := of_one c_119
                       have z1 := of_one c_130
                       have z2 := of_one c_141
                       have hne := hio.1.mpr ⟨q.2.1, fun j hj => (by
                         rcases (show j = 0 ∨ j = 1 ∨ j = 2 by omega) with rfl | rfl | rfl
                         · rw [← e0]; exact z0
                         · rw [← e1]; exact z1
                         · rw [← e2]; exact z2)⟩
                       have hv := hio.2 hne
                       exact Or.inl ⟨rfl, Or.inr (by omega), hne, (by rw [hv.1]; exact q.2.2.1), fun j hj => (by rw [q.2.2.2 j (by omega), hv.2 j (by omega)])⟩
                     · exact absurd q.1 c_107)
                  | (refine Or.inr ⟨rfl, Classical.byContradiction (fun hne => ?_)⟩
                     obtain ⟨g0, gj⟩ := hio.1.mp hne
                     rcases hz with q | q
                     · have f0 := gj 0 (by decide)
                       have f1 := gj 1 (by decide)
                       have f2 := gj 2 (by decide)
                       have e0 := q.2.2.2 0 (by decide)
                       have e1 := q.2.2.2 1 (by decide)
                       have e2 := q.2.2.2 2 (by decide)
                       rw [← e0] at f0
                       rw [← e1] at f1
                       rw [← e2] at f2
                       first
                       | exact absurd (q.1.symm.trans c_40) (by decide)
                       | exact absurd (q.1.symm.trans c_107) (by decide)
                       | exact of_zero c_51 f0
                       | exact of_zero c_62 f1
                       | exact of_zero c_73 f2
                       | exact of_zero c_119 f0
                       | exact of_zero c_130 f1
                       | exact of_zero c_141 f2
                       | (have f3 := gj 3 (by decide)
                          rw [← q.2.2.2 3 (by decide)] at f3
                          exact of_zero c_84 f3)
                     · exact g0 q.2)), (by first | exact fun _ _ _ => rfl | exact fun o f h => rfr o f (fun z => h ⟨z.1, by omega⟩)), (by first | exact rat | exact hat), (by first | exact r9 | exact h9), (by first | rfl | exact rfr 20 3 (by decide))⟩
            · skip
              refine g_aload_n X dX8_readOther_122 rfl 0 rfl ?_
              refine g_iconst X dX8_readOther_123 ?_
              refine g_iconst X dX8_readOther_124 ?_
              refine g_bipush X dX8_readOther_125 (by decide) ?_
              refine g_calli (st := []) X (c_X8_isNumber l G 1 1 99 u_104 FM (by first | assumption | omega | (unfold InR; omega)) (by exact r9 1 (by decide)) (by first | assumption | omega | (unfold InR; omega)) (by first | assumption | omega | (unfold InR; omega))) cm_X8_isNumber im_X8_isNumber se_X8_isNumber ml_X8_73 ck_X8 FM ⟨Nat.le_of_ble_eq_true rfl, Nat.le_of_ble_eq_true rfl⟩ rfl rfl (Nat.le_of_ble_eq_true rfl) dX8_readOther_127 (fn_i ?_)
              refine g_if_eq (tgt := 148) X dX8_readOther_130 (by decide) (by exact in01) (fun c_130 => ?_) (fun c_130 => ?_)
              · skip
                refine g_iconst X dX8_readOther_148 ?_
                refine g_istore_n (lv' := [(2, .int (iI 0)), (0, .ref (gAd G 20)), (1, .int (iI c)), (3, .int (iI to)), (4, .int (iI n))]) X dX8_readOther_149 rfl (by decide) rfl ?_
                refine g_lv (lv' := [(0, .ref (gAd G 20)), (1, .int (iI c)), (2, .int (iI 0)), (3, .int (iI to)), (4, .int (iI n))]) [1, 2, 0, 3, 4] rfl ?_
                exact J_150 0 u_104 ⟨(by
                    first
                    | (have hi : itX t (w 20 1 0) p = -4 := (by unfold itX; rw [if_neg (by omega), if_neg (by omega), if_neg (by omega)])
                       exact Or.inr ⟨rfl, hi⟩)
                    | (rcases hz with q | q
                       · have e0 := q.2.2.2 0 (by decide)
                         have e1 := q.2.2.2 1 (by decide)
                         have e2 := q.2.2.2 2 (by decide)
                         have e3 := q.2.2.2 3 (by decide)
                         have z0 := of_one c_51
                         have z1 := of_one c_62
                         have z2 := of_one c_73
                         have z3 := of_one c_84
                         have hne := hio.1.mpr ⟨q.2.1, fun j hj => (by
                           rcases (show j = 0 ∨ j = 1 ∨ j = 2 ∨ j = 3 by omega) with rfl | rfl | rfl | rfl
                           · rw [← e0]; exact z0
                           · rw [← e1]; exact z1
                           · rw [← e2]; exact z2
                           · rw [← e3]; exact z3)⟩
                         have hv := hio.2 hne
                         exact Or.inl ⟨rfl, Or.inl (by omega), hne, (by rw [hv.1]; exact q.2.2.1), fun j hj => (by rw [q.2.2.2 j (by omega), hv.2 j (by omega)])⟩
                       · exact absurd q.1 c_40)
                    | (rcases hz with q | q
                       · have e0 := q.2.2.2 0 (by decide)
                         have e1 := q.2.2.2 1 (by decide)
                         have e2 := q.2.2.2 2 (by decide)
                         have z0 := of_one c_119
                         have z1 := of_one c_130
                         have z2 := of_one c_141
                         have hne := hio.1.mpr ⟨q.2.1, fun j hj => (by
                           rcases (show j = 0 ∨ j = 1 ∨ j = 2 by omega) with rfl | rfl | rfl
                           · rw [← e0]; exact z0
                           · rw [← e1]; exact z1
                           · rw [← e2]; exact z2)⟩
                         have hv := hio.2 hne
                         exact Or.inl ⟨rfl, Or.inr (by omega), hne, (by rw [hv.1]; exact q.2.2.1), fun j hj => (by rw [q.2.2.2 j (by omega), hv.2 j (by omega)])⟩
                       · exact absurd q.1 c_107)
                    | (refine Or.inr ⟨rfl, Classical.byContradiction (fun hne => ?_)⟩
                       obtain ⟨g0, gj⟩ := hio.1.mp hne
                       rcases hz with q | q
                       · have f0 := gj 0 (by decide)
                         have f1 := gj 1 (by decide)
                         have f2 := gj 2 (by decide)
                         have e0 := q.2.2.2 0 (by decide)
                         have e1 := q.2.2.2 1 (by decide)
                         have e2 := q.2.2.2 2 (by decide)
                         rw [← e0] at f0
                         rw [← e1] at f1
                         rw [← e2] at f2
                         first
                         | exact absurd (q.1.symm.trans c_40) (by decide)
                         | exact absurd (q.1.symm.trans c_107) (by decide)
                         | exact of_zero c_51 f0
                         | exact of_zero c_62 f1
                         | exact of_zero c_73 f2
                         | exact of_zero c_119 f0
                         | exact of_zero c_130 f1
                         | exact of_zero c_141 f2
                         | (have f3 := gj 3 (by decide)
                            rw [← q.2.2.2 3 (by decide)] at f3
                            exact of_zero c_84 f3)
                       · exact g0 q.2)), (by first | exact fun _ _ _ => rfl | exact fun o f h => rfr o f (fun z => h ⟨z.1, by omega⟩)), (by first | exact rat | exact hat), (by first | exact r9 | exact h9), (by first | rfl | exact rfr 20 3 (by decide))⟩
              · skip
                refine g_aload_n X dX8_readOther_133 rfl 0 rfl ?_
                refine g_iconst X dX8_readOther_134 ?_
                refine g_iconst X dX8_readOther_135 ?_
                refine g_bipush X dX8_readOther_136 (by decide) ?_
                refine g_calli (st := []) X (c_X8_isNumber l G 2 0 9 u_104 FM (by first | assumption | omega | (unfold InR; omega)) (by exact r9 2 (by decide)) (by first | assumption | omega | (unfold InR; omega)) (by first | assumption | omega | (unfold InR; omega))) cm_X8_isNumber im_X8_isNumber se_X8_isNumber ml_X8_73 ck_X8 FM ⟨Nat.le_of_ble_eq_true rfl, Nat.le_of_ble_eq_true rfl⟩ rfl rfl (Nat.le_of_ble_eq_true rfl) dX8_readOther_138 (fn_i ?_)
                refine g_if_eq (tgt := 148) X dX8_readOther_141 (by decide) (by exact in01) (fun c_141 => ?_) (fun c_141 => ?_)
                · skip
                  refine g_iconst X dX8_readOther_148 ?_
                  refine g_istore_n (lv' := [(2, .int (iI 0)), (0, .ref (gAd G 20)), (1, .int (iI c)), (3, .int (iI to)), (4, .int (iI n))]) X dX8_readOther_149 rfl (by decide) rfl ?_
                  refine g_lv (lv' := [(0, .ref (gAd G 20)), (1, .int (iI c)), (2, .int (iI 0)), (3, .int (iI to)), (4, .int (iI n))]) [1, 2, 0, 3, 4] rfl ?_
                  exact J_150 0 u_104 ⟨(by
                      first
                      | (have hi : itX t (w 20 1 0) p = -4 := (by unfold itX; rw [if_neg (by omega), if_neg (by omega), if_neg (by omega)])
                         exact Or.inr ⟨rfl, hi⟩)
                      | (rcases hz with q | q
                         · have e0 := q.2.2.2 0 (by decide)
                           have e1 := q.2.2.2 1 (by decide)
                           have e2 := q.2.2.2 2 (by decide)
                           have e3 := q.2.2.2 3 (by decide)
                           have z0 := of_one c_51
                           have z1 := of_one c_62
                           have z2 := of_one c_73
                           have z3 := of_one c_84
                           have hne := hio.1.mpr ⟨q.2.1, fun j hj => (by
                             rcases (show j = 0 ∨ j = 1 ∨ j = 2 ∨ j = 3 by omega) with rfl | rfl | rfl | rfl
                             · rw [← e0]; exact z0
                             · rw [← e1]; exact z1
                             · rw [← e2]; exact z2
                             · rw [← e3]; exact z3)⟩
                           have hv := hio.2 hne
                           exact Or.inl ⟨rfl, Or.inl (by omega), hne, (by rw [hv.1]; exact q.2.2.1), fun j hj => (by rw [q.2.2.2 j (by omega), hv.2 j (by omega)])⟩
                         · exact absurd q.1 c_40)
                      | (rcases hz with q | q
                         · have e0 := q.2.2.2 0 (by decide)
                           have e1 := q.2.2.2 1 (by decide)
                           have e2 := q.2.2.2 2 (by decide)
                           have z0 := of_one c_119
                           have z1 := of_one c_130
                           have z2 := of_one c_141
                           have hne := hio.1.mpr ⟨q.2.1, fun j hj => (by
                             rcases (show j = 0 ∨ j = 1 ∨ j = 2 by omega) with rfl | rfl | rfl
                             · rw [← e0]; exact z0
                             · rw [← e1]; exact z1
                             · rw [← e2]; exact z2)⟩
                           have hv := hio.2 hne
                           exact Or.inl ⟨rfl, Or.inr (by omega), hne, (by rw [hv.1]; exact q.2.2.1), fun j hj => (by rw [q.2.2.2 j (by omega), hv.2 j (by omega)])⟩
                         · exact absurd q.1 c_107)
                      | (refine Or.inr ⟨rfl, Classical.byContradiction (fun hne => ?_)⟩
                         obtain ⟨g0, gj⟩ := hio.1.mp hne
                         rcases hz with q | q
                         · have f0 := gj 0 (by decide)
                           have f1 := gj 1 (by decide)
                           have f2 := gj 2 (by decide)
                           have e0 := q.2.2.2 0 (by decide)
                           have e1 := q.2.2.2 1 (by decide)
                           have e2 := q.2.2.2 2 (by decide)
                           rw [← e0] at f0
                           rw [← e1] at f1
                           rw [← e2] at f2
                           first
                           | exact absurd (q.1.symm.trans c_40) (by decide)
                           | exact absurd (q.1.symm.trans c_107) (by decide)
                           | exact of_zero c_51 f0
                           | exact of_zero c_62 f1
                           | exact of_zero c_73 f2
                           | exact of_zero c_119 f0
                           | exact of_zero c_130 f1
                           | exact of_zero c_141 f2
                           | (have f3 := gj 3 (by decide)
                              rw [← q.2.2.2 3 (by decide)] at f3
                              exact of_zero c_84 f3)
                         · exact g0 q.2)), (by first | exact fun _ _ _ => rfl | exact fun o f h => rfr o f (fun z => h ⟨z.1, by omega⟩)), (by first | exact rat | exact hat), (by first | exact r9 | exact h9), (by first | rfl | exact rfr 20 3 (by decide))⟩
                · skip
                  refine g_iconst X dX8_readOther_144 ?_
                  refine g_goto (tgt := 149) X dX8_readOther_145 (by decide) ?_
                  refine g_istore_n (lv' := [(2, .int (iI 1)), (0, .ref (gAd G 20)), (1, .int (iI c)), (3, .int (iI to)), (4, .int (iI n))]) X dX8_readOther_149 rfl (by decide) rfl ?_
                  refine g_lv (lv' := [(0, .ref (gAd G 20)), (1, .int (iI c)), (2, .int (iI 1)), (3, .int (iI to)), (4, .int (iI n))]) [1, 2, 0, 3, 4] rfl ?_
                  exact J_150 1 u_104 ⟨(by
                      first
                      | (have hi : itX t (w 20 1 0) p = -4 := (by unfold itX; rw [if_neg (by omega), if_neg (by omega), if_neg (by omega)])
                         exact Or.inr ⟨rfl, hi⟩)
                      | (rcases hz with q | q
                         · have e0 := q.2.2.2 0 (by decide)
                           have e1 := q.2.2.2 1 (by decide)
                           have e2 := q.2.2.2 2 (by decide)
                           have e3 := q.2.2.2 3 (by decide)
                           have z0 := of_one c_51
                           have z1 := of_one c_62
                           have z2 := of_one c_73
                           have z3 := of_one c_84
                           have hne := hio.1.mpr ⟨q.2.1, fun j hj => (by
                             rcases (show j = 0 ∨ j = 1 ∨ j = 2 ∨ j = 3 by omega) with rfl | rfl | rfl | rfl
                             · rw [← e0]; exact z0
                             · rw [← e1]; exact z1
                             · rw [← e2]; exact z2
                             · rw [← e3]; exact z3)⟩
                           have hv := hio.2 hne
                           exact Or.inl ⟨rfl, Or.inl (by omega), hne, (by rw [hv.1]; exact q.2.2.1), fun j hj => (by rw [q.2.2.2 j (by omega), hv.2 j (by omega)])⟩
                         · exact absurd q.1 c_40)
                      | (rcases hz with q | q
                         · have e0 := q.2.2.2 0 (by decide)
                           have e1 := q.2.2.2 1 (by decide)
                           have e2 := q.2.2.2 2 (by decide)
                           have z0 := of_one c_119
                           have z1 := of_one c_130
                           have z2 := of_one c_141
                           have hne := hio.1.mpr ⟨q.2.1, fun j hj => (by
                             rcases (show j = 0 ∨ j = 1 ∨ j = 2 by omega) with rfl | rfl | rfl
                             · rw [← e0]; exact z0
                             · rw [← e1]; exact z1
                             · rw [← e2]; exact z2)⟩
                           have hv := hio.2 hne
                           exact Or.inl ⟨rfl, Or.inr (by omega), hne, (by rw [hv.1]; exact q.2.2.1), fun j hj => (by rw [q.2.2.2 j (by omega), hv.2 j (by omega)])⟩
                         · exact absurd q.1 c_107)
                      | (refine Or.inr ⟨rfl, Classical.byContradiction (fun hne => ?_)⟩
                         obtain ⟨g0, gj⟩ := hio.1.mp hne
                         rcases hz with q | q
                         · have f0 := gj 0 (by decide)
                           have f1 := gj 1 (by decide)
                           have f2 := gj 2 (by decide)
                           have e0 := q.2.2.2 0 (by decide)
                           have e1 := q.2.2.2 1 (by decide)
                           have e2 := q.2.2.2 2 (by decide)
                           rw [← e0] at f0
                           rw [← e1] at f1
                           rw [← e2] at f2
                           first
                           | exact absurd (q.1.symm.trans c_40) (by decide)
                           | exact absurd (q.1.symm.trans c_107) (by decide)
                           | exact of_zero c_51 f0
                           | exact of_zero c_62 f1
                           | exact of_zero c_73 f2
                           | exact of_zero c_119 f0
                           | exact of_zero c_130 f1
                           | exact of_zero c_141 f2
                           | (have f3 := gj 3 (by decide)
                              rw [← q.2.2.2 3 (by decide)] at f3
                              exact of_zero c_84 f3)
                         · exact g0 q.2)), (by first | exact fun _ _ _ => rfl | exact fun o f h => rfr o f (fun z => h ⟨z.1, by omega⟩)), (by first | exact rat | exact hat), (by first | exact r9 | exact h9), (by first | rfl | exact rfr 20 3 (by decide))⟩
      · skip
        refine g_aload_n X dX8_readOther_35 rfl 0 rfl ?_
        refine g_iconst X dX8_readOther_36 ?_
        refine g_calli (st := []) X (c_X8_readNumbers l G 4 t w FM (by first | assumption | omega | (unfold InR; omega)) (by first | assumption | omega | (unfold InR; omega)) (by first | assumption | omega | (unfold InR; omega)) (by first | assumption | omega | (unfold InR; omega)) (by decide) (by first | assumption | omega | (unfold InR; omega))) cm_X8_readNumbers im_X8_readNumbers se_X8_readNumbers ml_X8_69 ck_X8 FM ⟨Nat.le_of_ble_eq_true rfl, Nat.le_of_ble_eq_true rfl⟩ rfl rfl (Nat.le_of_ble_eq_true rfl) dX8_readOther_37 ?_
        rintro z_37 u_37 ⟨rfr, rat, r9, hz⟩
        rw [hat1] at hz
        have hz : (z_37 = 1 ∧ r0X t (w 20 1 0) 4 p 4 ≠ -4 ∧ u_37 20 2 0 = r0X t (w 20 1 0) 4 p 4 ∧ ∀ k : Nat, (k : Int) < 4 → u_37 20 9 k = nvX t (w 20 1 0) (r0X t (w 20 1 0) 4 p k)) ∨ (z_37 = 0 ∧ r0X t (w 20 1 0) 4 p 4 = -4) := hz
        have hio := it_o (t := t) (L := w 20 1 0) (p := p) hp0.1 (c := 114) (N := 4) (A := 5) (by omega) (by decide) rfl rfl (by unfold itX; rw [if_neg (by omega), if_pos (by omega)])
        refine g_if_eq (tgt := 91) X dX8_readOther_40 (by decide) (by rcases hz with q | q <;> (rw [q.1]; exact ⟨by decide, by decide⟩)) (fun c_40 => ?_) (fun c_40 => ?_)
        · skip
          refine g_iconst X dX8_readOther_91 ?_
          refine g_istore_n (lv' := [(2, .int (iI 0)), (0, .ref (gAd G 20)), (1, .int (iI c)), (3, .int (iI to)), (4, .int (iI n))]) X dX8_readOther_92 rfl (by decide) rfl ?_
          refine g_goto (tgt := 150) X dX8_readOther_93 (by decide) ?_
          refine g_lv (lv' := [(0, .ref (gAd G 20)), (1, .int (iI c)), (2, .int (iI 0)), (3, .int (iI to)), (4, .int (iI n))]) [1, 2, 0, 3, 4] rfl ?_
          exact J_150 0 u_37 ⟨(by
              first
              | (have hi : itX t (w 20 1 0) p = -4 := (by unfold itX; rw [if_neg (by omega), if_neg (by omega), if_neg (by omega)])
                 exact Or.inr ⟨rfl, hi⟩)
              | (rcases hz with q | q
                 · have e0 := q.2.2.2 0 (by decide)
                   have e1 := q.2.2.2 1 (by decide)
                   have e2 := q.2.2.2 2 (by decide)
                   have e3 := q.2.2.2 3 (by decide)
                   have z0 := of_one c_51
                   have z1 := of_one c_62
                   have z2 := of_one c_73
                   have z3 := of_one c_84
                   have hne := hio.1.mpr ⟨q.2.1, fun j hj => (by
                     rcases (show j = 0 ∨ j = 1 ∨ j = 2 ∨ j = 3 by omega) with rfl | rfl | rfl | rfl
                     · rw [← e0]; exact z0
                     · rw [← e1]; exact z1
                     · rw [← e2]; exact z2
                     · rw [← e3]; exact z3)⟩
                   have hv := hio.2 hne
                   exact Or.inl ⟨rfl, Or.inl (by omega), hne, (by rw [hv.1]; exact q.2.2.1), fun j hj => (by rw [q.2.2.2 j (by omega), hv.2 j (by omega)])⟩
                 · exact absurd q.1 c_40)
              | (rcases hz with q | q
                 · have e0 := q.2.2.2 0 (by decide)
                   have e1 := q.2.2.2 1 (by decide)
                   have e2 := q.2.2.2 2 (by decide)
                   have z0 := of_one c_119
                   have z1 := of_one c_130
                   have z2 := of_one c_141
                   have hne := hio.1.mpr ⟨q.2.1, fun j hj => (by
                     rcases (show j = 0 ∨ j = 1 ∨ j = 2 by omega) with rfl | rfl | rfl
                     · rw [← e0]; exact z0
                     · rw [← e1]; exact z1
                     · rw [← e2]; exact z2)⟩
                   have hv := hio.2 hne
                   exact Or.inl ⟨rfl, Or.inr (by omega), hne, (by rw [hv.1]; exact q.2.2.1), fun j hj => (by rw [q.2.2.2 j (by omega), hv.2 j (by omega)])⟩
                 · exact absurd q.1 c_107)
              | (refine Or.inr ⟨rfl, Classical.byContradiction (fun hne => ?_)⟩
                 obtain ⟨g0, gj⟩ := hio.1.mp hne
                 rcases hz with q | q
                 · have f0 := gj 0 (by decide)
                   have f1 := gj 1 (by decide)
                   have f2 := gj 2 (by decide)
                   have e0 := q.2.2.2 0 (by decide)
                   have e1 := q.2.2.2 1 (by decide)
                   have e2 := q.2.2.2 2 (by decide)
                   rw [← e0] at f0
                   rw [← e1] at f1
                   rw [← e2] at f2
                   first
                   | exact absurd (q.1.symm.trans c_40) (by decide)
                   | exact absurd (q.1.symm.trans c_107) (by decide)
                   | exact of_zero c_51 f0
                   | exact of_zero c_62 f1
                   | exact of_zero c_73 f2
                   | exact of_zero c_119 f0
                   | exact of_zero c_130 f1
                   | exact of_zero c_141 f2
                   | (have f3 := gj 3 (by decide)
                      rw [← q.2.2.2 3 (by decide)] at f3
                      exact of_zero c_84 f3)
                 · exact g0 q.2)), (by first | exact fun _ _ _ => rfl | exact fun o f h => rfr o f (fun z => h ⟨z.1, by omega⟩)), (by first | exact rat | exact hat), (by first | exact r9 | exact h9), (by first | rfl | exact rfr 20 3 (by decide))⟩
        · skip
          refine g_aload_n X dX8_readOther_43 rfl 0 rfl ?_
          refine g_iconst X dX8_readOther_44 ?_
          refine g_iconst X dX8_readOther_45 ?_
          refine g_bipush X dX8_readOther_46 (by decide) ?_
          refine g_calli (st := []) X (c_X8_isNumber l G 0 0 30 u_37 FM (by first | assumption | omega | (unfold InR; omega)) (by exact r9 0 (by decide)) (by first | assumption | omega | (unfold InR; omega)) (by first | assumption | omega | (unfold InR; omega))) cm_X8_isNumber im_X8_isNumber se_X8_isNumber ml_X8_73 ck_X8 FM ⟨Nat.le_of_ble_eq_true rfl, Nat.le_of_ble_eq_true rfl⟩ rfl rfl (Nat.le_of_ble_eq_true rfl) dX8_readOther_48 (fn_i ?_)
          refine g_if_eq (tgt := 91) X dX8_readOther_51 (by decide) (by exact in01) (fun c_51 => ?_) (fun c_51 => ?_)
          · skip
            refine g_iconst X dX8_readOther_91 ?_
            refine g_istore_n (lv' := [(2, .int (iI 0)), (0, .ref (gAd G 20)), (1, .int (iI c)), (3, .int (iI to)), (4, .int (iI n))]) X dX8_readOther_92 rfl (by decide) rfl ?_
            refine g_goto (tgt := 150) X dX8_readOther_93 (by decide) ?_
            refine g_lv (lv' := [(0, .ref (gAd G 20)), (1, .int (iI c)), (2, .int (iI 0)), (3, .int (iI to)), (4, .int (iI n))]) [1, 2, 0, 3, 4] rfl ?_
            exact J_150 0 u_37 ⟨(by
                first
                | (have hi : itX t (w 20 1 0) p = -4 := (by unfold itX; rw [if_neg (by omega), if_neg (by omega), if_neg (by omega)])
                   exact Or.inr ⟨rfl, hi⟩)
                | (rcases hz with q | q
                   · have e0 := q.2.2.2 0 (by decide)
                     have e1 := q.2.2.2 1 (by decide)
                     have e2 := q.2.2.2 2 (by decide)
                     have e3 := q.2.2.2 3 (by decide)
                     have z0 := of_one c_51
                     have z1 := of_one c_62
                     have z2 := of_one c_73
                     have z3 := of_one c_84
                     have hne := hio.1.mpr ⟨q.2.1, fun j hj => (by
                       rcases (show j = 0 ∨ j = 1 ∨ j = 2 ∨ j = 3 by omega) with rfl | rfl | rfl | rfl
                       · rw [← e0]; exact z0
                       · rw [← e1]; exact z1
                       · rw [← e2]; exact z2
                       · rw [← e3]; exact z3)⟩
                     have hv := hio.2 hne
                     exact Or.inl ⟨rfl, Or.inl (by omega), hne, (by rw [hv.1]; exact q.2.2.1), fun j hj => (by rw [q.2.2.2 j (by omega), hv.2 j (by omega)])⟩
                   · exact absurd q.1 c_40)
                | (rcases hz with q | q
                   · have e0 := q.2.2.2 0 (by decide)
                     have e1 := q.2.2.2 1 (by decide)
                     have e2 := q.2.2.2 2 (by decide)
                     have z0 := of_one c_119
                     have z1 := of_one c_130
                     have z2 := of_one c_141
                     have hne := hio.1.mpr ⟨q.2.1, fun j hj => (by
                       rcases (show j = 0 ∨ j = 1 ∨ j = 2 by omega) with rfl | rfl | rfl
                       · rw [← e0]; exact z0
                       · rw [← e1]; exact z1
                       · rw [← e2]; exact z2)⟩
                     have hv := hio.2 hne
                     exact Or.inl ⟨rfl, Or.inr (by omega), hne, (by rw [hv.1]; exact q.2.2.1), fun j hj => (by rw [q.2.2.2 j (by omega), hv.2 j (by omega)])⟩
                   · exact absurd q.1 c_107)
                | (refine Or.inr ⟨rfl, Classical.byContradiction (fun hne => ?_)⟩
                   obtain ⟨g0, gj⟩ := hio.1.mp hne
                   rcases hz with q | q
                   · have f0 := gj 0 (by decide)
                     have f1 := gj 1 (by decide)
                     have f2 := gj 2 (by decide)
                     have e0 := q.2.2.2 0 (by decide)
                     have e1 := q.2.2.2 1 (by decide)
                     have e2 := q.2.2.2 2 (by decide)
                     rw [← e0] at f0
                     rw [← e1] at f1
                     rw [← e2] at f2
                     first
                     | exact absurd (q.1.symm.trans c_40) (by decide)
                     | exact absurd (q.1.symm.trans c_107) (by decide)
                     | exact of_zero c_51 f0
                     | exact of_zero c_62 f1
                     | exact of_zero c_73 f2
                     | exact of_zero c_119 f0
                     | exact of_zero c_130 f1
                     | exact of_zero c_141 f2
                     | (have f3 := gj 3 (by decide)
                        rw [← q.2.2.2 3 (by decide)] at f3
                        exact of_zero c_84 f3)
                   · exact g0 q.2)), (by first | exact fun _ _ _ => rfl | exact fun o f h => rfr o f (fun z => h ⟨z.1, by omega⟩)), (by first | exact rat | exact hat), (by first | exact r9 | exact h9), (by first | rfl | exact rfr 20 3 (by decide))⟩
          · skip
            refine g_aload_n X dX8_readOther_54 rfl 0 rfl ?_
            refine g_iconst X dX8_readOther_55 ?_
            refine g_iconst X dX8_readOther_56 ?_
            refine g_bipush X dX8_readOther_57 (by decide) ?_
            refine g_calli (st := []) X (c_X8_isNumber l G 1 0 30 u_37 FM (by first | assumption | omega | (unfold InR; omega)) (by exact r9 1 (by decide)) (by first | assumption | omega | (unfold InR; omega)) (by first | assumption | omega | (unfold InR; omega))) cm_X8_isNumber im_X8_isNumber se_X8_isNumber ml_X8_73 ck_X8 FM ⟨Nat.le_of_ble_eq_true rfl, Nat.le_of_ble_eq_true rfl⟩ rfl rfl (Nat.le_of_ble_eq_true rfl) dX8_readOther_59 (fn_i ?_)
            refine g_if_eq (tgt := 91) X dX8_readOther_62 (by decide) (by exact in01) (fun c_62 => ?_) (fun c_62 => ?_)
            · skip
              refine g_iconst X dX8_readOther_91 ?_
              refine g_istore_n (lv' := [(2, .int (iI 0)), (0, .ref (gAd G 20)), (1, .int (iI c)), (3, .int (iI to)), (4, .int (iI n))]) X dX8_readOther_92 rfl (by decide) rfl ?_
              refine g_goto (tgt := 150) X dX8_readOther_93 (by decide) ?_
              refine g_lv (lv' := [(0, .ref (gAd G 20)), (1, .int (iI c)), (2, .int (iI 0)), (3, .int (iI to)), (4, .int (iI n))]) [1, 2, 0, 3, 4] rfl ?_
              exact J_150 0 u_37 ⟨(by
                  first
                  | (have hi : itX t (w 20 1 0) p = -4 := (by unfold itX; rw [if_neg (by omega), if_neg (by omega), if_neg (by omega)])
                     exact Or.inr ⟨rfl, hi⟩)
                  | (rcases hz with q | q
                     · have e0 := q.2.2.2 0 (by decide)
                       have e1 := q.2.2.2 1 (by decide)
                       have e2 := q.2.2.2 2 (by decide)
                       have e3 := q.2.2.2 3 (by decide)
                       have z0 := of_one c_51
                       have z1 := of_one c_62
                       have z2 := of_one c_73
                       have z3 := of_one c_84
                       have hne := hio.1.mpr ⟨q.2.1, fun j hj => (by
                         rcases (show j = 0 ∨ j = 1 ∨ j = 2 ∨ j = 3 by omega) with rfl | rfl | rfl | rfl
                         · rw [← e0]; exact z0
                         · rw [← e1]; exact z1
                         · rw [← e2]; exact z2
                         · rw [← e3]; exact z3)⟩
                       have hv := hio.2 hne
                       exact Or.inl ⟨rfl, Or.inl (by omega), hne, (by rw [hv.1]; exact q.2.2.1), fun j hj => (by rw [q.2.2.2 j (by omega), hv.2 j (by omega)])⟩
                     · exact absurd q.1 c_40)
                  | (rcases hz with q | q
                     · have e0 := q.2.2.2 0 (by decide)
                       have e1 := q.2.2.2 1 (by decide)
                       have e2 := q.2.2.2 2 (by decide)
                       have z0 := of_one c_119
                       have z1 := of_one c_130
                       have z2 := of_one c_141
                       have hne := hio.1.mpr ⟨q.2.1, fun j hj => (by
                         rcases (show j = 0 ∨ j = 1 ∨ j = 2 by omega) with rfl | rfl | rfl
                         · rw [← e0]; exact z0
                         · rw [← e1]; exact z1
                         · rw [← e2]; exact z2)⟩
                       have hv := hio.2 hne
                       exact Or.inl ⟨rfl, Or.inr (by omega), hne, (by rw [hv.1]; exact q.2.2.1), fun j hj => (by rw [q.2.2.2 j (by omega), hv.2 j (by omega)])⟩
                     · exact absurd q.1 c_107)
                  | (refine Or.inr ⟨rfl, Classical.byContradiction (fun hne => ?_)⟩
                     obtain ⟨g0, gj⟩ := hio.1.mp hne
                     rcases hz with q | q
                     · have f0 := gj 0 (by decide)
                       have f1 := gj 1 (by decide)
                       have f2 := gj 2 (by decide)
                       have e0 := q.2.2.2 0 (by decide)
                       have e1 := q.2.2.2 1 (by decide)
                       have e2 := q.2.2.2 2 (by decide)
                       rw [← e0] at f0
                       rw [← e1] at f1
                       rw [← e2] at f2
                       first
                       | exact absurd (q.1.symm.trans c_40) (by decide)
                       | exact absurd (q.1.symm.trans c_107) (by decide)
                       | exact of_zero c_51 f0
                       | exact of_zero c_62 f1
                       | exact of_zero c_73 f2
                       | exact of_zero c_119 f0
                       | exact of_zero c_130 f1
                       | exact of_zero c_141 f2
                       | (have f3 := gj 3 (by decide)
                          rw [← q.2.2.2 3 (by decide)] at f3
                          exact of_zero c_84 f3)
                     · exact g0 q.2)), (by first | exact fun _ _ _ => rfl | exact fun o f h => rfr o f (fun z => h ⟨z.1, by omega⟩)), (by first | exact rat | exact hat), (by first | exact r9 | exact h9), (by first | rfl | exact rfr 20 3 (by decide))⟩
            · skip
              refine g_aload_n X dX8_readOther_65 rfl 0 rfl ?_
              refine g_iconst X dX8_readOther_66 ?_
              refine g_iconst X dX8_readOther_67 ?_
              refine g_bipush X dX8_readOther_68 (by decide) ?_
              refine g_calli (st := []) X (c_X8_isNumber l G 2 1 9 u_37 FM (by first | assumption | omega | (unfold InR; omega)) (by exact r9 2 (by decide)) (by first | assumption | omega | (unfold InR; omega)) (by first | assumption | omega | (unfold InR; omega))) cm_X8_isNumber im_X8_isNumber se_X8_isNumber ml_X8_73 ck_X8 FM ⟨Nat.le_of_ble_eq_true rfl, Nat.le_of_ble_eq_true rfl⟩ rfl rfl (Nat.le_of_ble_eq_true rfl) dX8_readOther_70 (fn_i ?_)
              refine g_if_eq (tgt := 91) X dX8_readOther_73 (by decide) (by exact in01) (fun c_73 => ?_) (fun c_73 => ?_)
              · skip
                refine g_iconst X dX8_readOther_91 ?_
                refine g_istore_n (lv' := [(2, .int (iI 0)), (0, .ref (gAd G 20)), (1, .int (iI c)), (3, .int (iI to)), (4, .int (iI n))]) X dX8_readOther_92 rfl (by decide) rfl ?_
                refine g_goto (tgt := 150) X dX8_readOther_93 (by decide) ?_
                refine g_lv (lv' := [(0, .ref (gAd G 20)), (1, .int (iI c)), (2, .int (iI 0)), (3, .int (iI to)), (4, .int (iI n))]) [1, 2, 0, 3, 4] rfl ?_
                exact J_150 0 u_37 ⟨(by
                    first
                    | (have hi : itX t (w 20 1 0) p = -4 := (by unfold itX; rw [if_neg (by omega), if_neg (by omega), if_neg (by omega)])
                       exact Or.inr ⟨rfl, hi⟩)
                    | (rcases hz with q | q
                       · have e0 := q.2.2.2 0 (by decide)
                         have e1 := q.2.2.2 1 (by decide)
                         have e2 := q.2.2.2 2 (by decide)
                         have e3 := q.2.2.2 3 (by decide)
                         have z0 := of_one c_51
                         have z1 := of_one c_62
                         have z2 := of_one c_73
                         have z3 := of_one c_84
                         have hne := hio.1.mpr ⟨q.2.1, fun j hj => (by
                           rcases (show j = 0 ∨ j = 1 ∨ j = 2 ∨ j = 3 by omega) with rfl | rfl | rfl | rfl
                           · rw [← e0]; exact z0
                           · rw [← e1]; exact z1
                           · rw [← e2]; exact z2
                           · rw [← e3]; exact z3)⟩
                         have hv := hio.2 hne
                         exact Or.inl ⟨rfl, Or.inl (by omega), hne, (by rw [hv.1]; exact q.2.2.1), fun j hj => (by rw [q.2.2.2 j (by omega), hv.2 j (by omega)])⟩
                       · exact absurd q.1 c_40)
                    | (rcases hz with q | q
                       · have e0 := q.2.2.2 0 (by decide)
                         have e1 := q.2.2.2 1 (by decide)
                         have e2 := q.2.2.2 2 (by decide)
                         have z0 := of_one c_119
                         have z1 := of_one c_130
                         have z2 := of_one c_141
                         have hne := hio.1.mpr ⟨q.2.1, fun j hj => (by
                           rcases (show j = 0 ∨ j = 1 ∨ j = 2 by omega) with rfl | rfl | rfl
                           · rw [← e0]; exact z0
                           · rw [← e1]; exact z1
                           · rw [← e2]; exact z2)⟩
                         have hv := hio.2 hne
                         exact Or.inl ⟨rfl, Or.inr (by omega), hne, (by rw [hv.1]; exact q.2.2.1), fun j hj => (by rw [q.2.2.2 j (by omega), hv.2 j (by omega)])⟩
                       · exact absurd q.1 c_107)
                    | (refine Or.inr ⟨rfl, Classical.byContradiction (fun hne => ?_)⟩
                       obtain ⟨g0, gj⟩ := hio.1.mp hne
                       rcases hz with q | q
                       · have f0 := gj 0 (by decide)
                         have f1 := gj 1 (by decide)
                         have f2 := gj 2 (by decide)
                         have e0 := q.2.2.2 0 (by decide)
                         have e1 := q.2.2.2 1 (by decide)
                         have e2 := q.2.2.2 2 (by decide)
                         rw [← e0] at f0
                         rw [← e1] at f1
                         rw [← e2] at f2
                         first
                         | exact absurd (q.1.symm.trans c_40) (by decide)
                         | exact absurd (q.1.symm.trans c_107) (by decide)
                         | exact of_zero c_51 f0
                         | exact of_zero c_62 f1
                         | exact of_zero c_73 f2
                         | exact of_zero c_119 f0
                         | exact of_zero c_130 f1
                         | exact of_zero c_141 f2
                         | (have f3 := gj 3 (by decide)
                            rw [← q.2.2.2 3 (by decide)] at f3
                            exact of_zero c_84 f3)
                       · exact g0 q.2)), (by first | exact fun _ _ _ => rfl | exact fun o f h => rfr o f (fun z => h ⟨z.1, by omega⟩)), (by first | exact rat | exact hat), (by first | exact r9 | exact h9), (by first | rfl | exact rfr 20 3 (by decide))⟩
              · skip
                refine g_aload_n X dX8_readOther_76 rfl 0 rfl ?_
                refine g_iconst X dX8_readOther_77 ?_
                refine g_iconst X dX8_readOther_78 ?_
                refine g_bipush X dX8_readOther_79 (by decide) ?_
                refine g_calli (st := []) X (c_X8_isNumber l G 3 0 9 u_37 FM (by first | assumption | omega | (unfold InR; omega)) (by exact r9 3 (by decide)) (by first | assumption | omega | (unfold InR; omega)) (by first | assumption | omega | (unfold InR; omega))) cm_X8_isNumber im_X8_isNumber se_X8_isNumber ml_X8_73 ck_X8 FM ⟨Nat.le_of_ble_eq_true rfl, Nat.le_of_ble_eq_true rfl⟩ rfl rfl (Nat.le_of_ble_eq_true rfl) dX8_readOther_81 (fn_i ?_)
                refine g_if_eq (tgt := 91) X dX8_readOther_84 (by decide) (by exact in01) (fun c_84 => ?_) (fun c_84 => ?_)
                · skip
                  refine g_iconst X dX8_readOther_91 ?_
                  refine g_istore_n (lv' := [(2, .int (iI 0)), (0, .ref (gAd G 20)), (1, .int (iI c)), (3, .int (iI to)), (4, .int (iI n))]) X dX8_readOther_92 rfl (by decide) rfl ?_
                  refine g_goto (tgt := 150) X dX8_readOther_93 (by decide) ?_
                  refine g_lv (lv' := [(0, .ref (gAd G 20)), (1, .int (iI c)), (2, .int (iI 0)), (3, .int (iI to)), (4, .int (iI n))]) [1, 2, 0, 3, 4] rfl ?_
                  exact J_150 0 u_37 ⟨(by
                      first
                      | (have hi : itX t (w 20 1 0) p = -4 := (by unfold itX; rw [if_neg (by omega), if_neg (by omega), if_neg (by omega)])
                         exact Or.inr ⟨rfl, hi⟩)
                      | (rcases hz with q | q
                         · have e0 := q.2.2.2 0 (by decide)
                           have e1 := q.2.2.2 1 (by decide)
                           have e2 := q.2.2.2 2 (by decide)
                           have e3 := q.2.2.2 3 (by decide)
                           have z0 := of_one c_51
                           have z1 := of_one c_62
                           have z2 := of_one c_73
                           have z3 := of_one c_84
                           have hne := hio.1.mpr ⟨q.2.1, fun j hj => (by
                             rcases (show j = 0 ∨ j = 1 ∨ j = 2 ∨ j = 3 by omega) with rfl | rfl | rfl | rfl
                             · rw [← e0]; exact z0
                             · rw [← e1]; exact z1
                             · rw [← e2]; exact z2
                             · rw [← e3]; exact z3)⟩
                           have hv := hio.2 hne
                           exact Or.inl ⟨rfl, Or.inl (by omega), hne, (by rw [hv.1]; exact q.2.2.1), fun j hj => (by rw [q.2.2.2 j (by omega), hv.2 j (by omega)])⟩
                         · exact absurd q.1 c_40)
                      | (rcases hz with q | q
                         · have e0 := q.2.2.2 0 (by decide)
                           have e1 := q.2.2.2 1 (by decide)
                           have e2 := q.2.2.2 2 (by decide)
                           have z0 := of_one c_119
                           have z1 := of_one c_130
                           have z2 := of_one c_141
                           have hne := hio.1.mpr ⟨q.2.1, fun j hj => (by
                             rcases (show j = 0 ∨ j = 1 ∨ j = 2 by omega) with rfl | rfl | rfl
                             · rw [← e0]; exact z0
                             · rw [← e1]; exact z1
                             · rw [← e2]; exact z2)⟩
                           have hv := hio.2 hne
                           exact Or.inl ⟨rfl, Or.inr (by omega), hne, (by rw [hv.1]; exact q.2.2.1), fun j hj => (by rw [q.2.2.2 j (by omega), hv.2 j (by omega)])⟩
                         · exact absurd q.1 c_107)
                      | (refine Or.inr ⟨rfl, Classical.byContradiction (fun hne => ?_)⟩
                         obtain ⟨g0, gj⟩ := hio.1.mp hne
                         rcases hz with q | q
                         · have f0 := gj 0 (by decide)
                           have f1 := gj 1 (by decide)
                           have f2 := gj 2 (by decide)
                           have e0 := q.2.2.2 0 (by decide)
                           have e1 := q.2.2.2 1 (by decide)
                           have e2 := q.2.2.2 2 (by decide)
                           rw [← e0] at f0
                           rw [← e1] at f1
                           rw [← e2] at f2
                           first
                           | exact absurd (q.1.symm.trans c_40) (by decide)
                           | exact absurd (q.1.symm.trans c_107) (by decide)
                           | exact of_zero c_51 f0
                           | exact of_zero c_62 f1
                           | exact of_zero c_73 f2
                           | exact of_zero c_119 f0
                           | exact of_zero c_130 f1
                           | exact of_zero c_141 f2
                           | (have f3 := gj 3 (by decide)
                              rw [← q.2.2.2 3 (by decide)] at f3
                              exact of_zero c_84 f3)
                         · exact g0 q.2)), (by first | exact fun _ _ _ => rfl | exact fun o f h => rfr o f (fun z => h ⟨z.1, by omega⟩)), (by first | exact rat | exact hat), (by first | exact r9 | exact h9), (by first | rfl | exact rfr 20 3 (by decide))⟩
                · skip
                  refine g_iconst X dX8_readOther_87 ?_
                  refine g_goto (tgt := 92) X dX8_readOther_88 (by decide) ?_
                  refine g_istore_n (lv' := [(2, .int (iI 1)), (0, .ref (gAd G 20)), (1, .int (iI c)), (3, .int (iI to)), (4, .int (iI n))]) X dX8_readOther_92 rfl (by decide) rfl ?_
                  refine g_goto (tgt := 150) X dX8_readOther_93 (by decide) ?_
                  refine g_lv (lv' := [(0, .ref (gAd G 20)), (1, .int (iI c)), (2, .int (iI 1)), (3, .int (iI to)), (4, .int (iI n))]) [1, 2, 0, 3, 4] rfl ?_
                  exact J_150 1 u_37 ⟨(by
                      first
                      | (have hi : itX t (w 20 1 0) p = -4 := (by unfold itX; rw [if_neg (by omega), if_neg (by omega), if_neg (by omega)])
                         exact Or.inr ⟨rfl, hi⟩)
                      | (rcases hz with q | q
                         · have e0 := q.2.2.2 0 (by decide)
                           have e1 := q.2.2.2 1 (by decide)
                           have e2 := q.2.2.2 2 (by decide)
                           have e3 := q.2.2.2 3 (by decide)
                           have z0 := of_one c_51
                           have z1 := of_one c_62
                           have z2 := of_one c_73
                           have z3 := of_one c_84
                           have hne := hio.1.mpr ⟨q.2.1, fun j hj => (by
                             rcases (show j = 0 ∨ j = 1 ∨ j = 2 ∨ j = 3 by omega) with rfl | rfl | rfl | rfl
                             · rw [← e0]; exact z0
                             · rw [← e1]; exact z1
                             · rw [← e2]; exact z2
                             · rw [← e3]; exact z3)⟩
                           have hv := hio.2 hne
                           exact Or.inl ⟨rfl, Or.inl (by omega), hne, (by rw [hv.1]; exact q.2.2.1), fun j hj => (by rw [q.2.2.2 j (by omega), hv.2 j (by omega)])⟩
                         · exact absurd q.1 c_40)
                      | (rcases hz with q | q
                         · have e0 := q.2.2.2 0 (by decide)
                           have e1 := q.2.2.2 1 (by decide)
                           have e2 := q.2.2.2 2 (by decide)
                           have z0 := of_one c_119
                           have z1 := of_one c_130
                           have z2 := of_one c_141
                           have hne := hio.1.mpr ⟨q.2.1, fun j hj => (by
                             rcases (show j = 0 ∨ j = 1 ∨ j = 2 by omega) with rfl | rfl | rfl
                             · rw [← e0]; exact z0
                             · rw [← e1]; exact z1
                             · rw [← e2]; exact z2)⟩
                           have hv := hio.2 hne
                           exact Or.inl ⟨rfl, Or.inr (by omega), hne, (by rw [hv.1]; exact q.2.2.1), fun j hj => (by rw [q.2.2.2 j (by omega), hv.2 j (by omega)])⟩
                         · exact absurd q.1 c_107)
                      | (refine Or.inr ⟨rfl, Classical.byContradiction (fun hne => ?_)⟩
                         obtain ⟨g0, gj⟩ := hio.1.mp hne
                         rcases hz with q | q
                         · have f0 := gj 0 (by decide)
                           have f1 := gj 1 (by decide)
                           have f2 := gj 2 (by decide)
                           have e0 := q.2.2.2 0 (by decide)
                           have e1 := q.2.2.2 1 (by decide)
                           have e2 := q.2.2.2 2 (by decide)
                           rw [← e0] at f0
                           rw [← e1] at f1
                           rw [← e2] at f2
                           first
                           | exact absurd (q.1.symm.trans c_40) (by decide)
                           | exact absurd (q.1.symm.trans c_107) (by decide)
                           | exact of_zero c_51 f0
                           | exact of_zero c_62 f1
                           | exact of_zero c_73 f2
                           | exact of_zero c_119 f0
                           | exact of_zero c_130 f1
                           | exact of_zero c_141 f2
                           | (have f3 := gj 3 (by decide)
                              rw [← q.2.2.2 3 (by decide)] at f3
                              exact of_zero c_84 f3)
                         · exact g0 q.2)), (by first | exact fun _ _ _ => rfl | exact fun o f h => rfr o f (fun z => h ⟨z.1, by omega⟩)), (by first | exact rat | exact hat), (by first | exact r9 | exact h9), (by first | rfl | exact rfr 20 3 (by decide))⟩
  · intro J_29
    try dsimp only at J_29
    refine g_iload_n X dX8_readOther_2 rfl 2 rfl ?_
    refine g_bipush X dX8_readOther_3 (by decide) ?_
    refine g_icmp_ne (tgt := 13) X dX8_readOther_5 (by decide) (by exact hcr) ⟨by decide, by decide⟩ (fun c_5 => ?_) (fun c_5 => ?_)
    · skip
      refine g_bipush X dX8_readOther_13 (by decide) ?_
      refine g_istore_n (lv' := [(3, .int (iI 41)), (2, .int (iI 0)), (0, .ref (gAd G 20)), (1, .int (iI c))]) X dX8_readOther_15 rfl (by decide) rfl ?_
      refine g_iload_n X dX8_readOther_16 rfl 3 rfl ?_
      refine g_bipush X dX8_readOther_17 (by decide) ?_
      refine g_icmp_ne (tgt := 26) X dX8_readOther_19 (by decide) (by exact hcr) ⟨by decide, by decide⟩ (fun c_19 => ?_) (fun c_19 => ?_)
      · skip
        refine g_iconst X dX8_readOther_26 ?_
        refine g_istore (lv' := [(4, .int (iI 3)), (3, .int (iI 41)), (2, .int (iI 0)), (0, .ref (gAd G 20)), (1, .int (iI c))]) X dX8_readOther_27 (by decide) rfl ?_
        refine g_lv (lv' := [(0, .ref (gAd G 20)), (1, .int (iI c)), (2, .int (iI 0)), (3, .int (iI 41)), (4, .int (iI 3))]) [3, 4, 2, 1, 0] rfl ?_
        exact J_29 41 3 (by omega)
      · skip
        refine g_iconst X dX8_readOther_22 ?_
        refine g_goto (tgt := 27) X dX8_readOther_23 (by decide) ?_
        refine g_istore (lv' := [(4, .int (iI 4)), (3, .int (iI 41)), (2, .int (iI 0)), (0, .ref (gAd G 20)), (1, .int (iI c))]) X dX8_readOther_27 (by decide) rfl ?_
        refine g_lv (lv' := [(0, .ref (gAd G 20)), (1, .int (iI c)), (2, .int (iI 0)), (3, .int (iI 41)), (4, .int (iI 4))]) [3, 4, 2, 1, 0] rfl ?_
        exact J_29 41 4 (by omega)
    · skip
      refine g_bipush X dX8_readOther_8 (by decide) ?_
      refine g_goto (tgt := 15) X dX8_readOther_10 (by decide) ?_
      refine g_istore_n (lv' := [(3, .int (iI 37)), (2, .int (iI 0)), (0, .ref (gAd G 20)), (1, .int (iI c))]) X dX8_readOther_15 rfl (by decide) rfl ?_
      refine g_iload_n X dX8_readOther_16 rfl 3 rfl ?_
      refine g_bipush X dX8_readOther_17 (by decide) ?_
      refine g_icmp_ne (tgt := 26) X dX8_readOther_19 (by decide) (by exact hcr) ⟨by decide, by decide⟩ (fun c_19 => ?_) (fun c_19 => ?_)
      · skip
        refine g_iconst X dX8_readOther_26 ?_
        refine g_istore (lv' := [(4, .int (iI 3)), (3, .int (iI 37)), (2, .int (iI 0)), (0, .ref (gAd G 20)), (1, .int (iI c))]) X dX8_readOther_27 (by decide) rfl ?_
        refine g_lv (lv' := [(0, .ref (gAd G 20)), (1, .int (iI c)), (2, .int (iI 0)), (3, .int (iI 37)), (4, .int (iI 3))]) [3, 4, 2, 1, 0] rfl ?_
        exact J_29 37 3 (by omega)
      · skip
        refine g_iconst X dX8_readOther_22 ?_
        refine g_goto (tgt := 27) X dX8_readOther_23 (by decide) ?_
        refine g_istore (lv' := [(4, .int (iI 4)), (3, .int (iI 37)), (2, .int (iI 0)), (0, .ref (gAd G 20)), (1, .int (iI c))]) X dX8_readOther_27 (by decide) rfl ?_
        refine g_lv (lv' := [(0, .ref (gAd G 20)), (1, .int (iI c)), (2, .int (iI 0)), (3, .int (iI 37)), (4, .int (iI 4))]) [3, 4, 2, 1, 0] rfl ?_
        exact J_29 37 4 (by omega)
