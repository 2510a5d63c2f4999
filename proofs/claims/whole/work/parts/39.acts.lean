def dsk (D : Nat → Int) (m k : Nat) : Nat → Int := fun j => if j = 17 + 14 * m then 1 else if j = 19 + 14 * m then D j + 1 else if 17 + 14 * m + k < j ∧ j ≤ 30 + 14 * m then D (j - 1) else D j
theorem dsk_0 (D : Nat → Int) (m : Nat) : fup (fup D (17 + 14 * m) 1) (19 + 14 * m) (fup D (17 + 14 * m) 1 (19 + 14 * m) + 1) = dsk D m 13 := by
  funext j
  unfold dsk
  by_cases a : j = 17 + 14 * m
  · rw [if_pos a, a, fup_ne (by omega), fup_at]
  · rw [if_neg a]
    by_cases b : j = 19 + 14 * m
    · rw [if_pos b, b, fup_at, fup_ne (by omega)]
    · rw [if_neg b, if_neg (by omega), fup_ne b, fup_ne a]
theorem dsk_s (D : Nat → Int) (m k : Nat) (h : 6 ≤ k) (h2 : k ≤ 13) : fup (dsk D m k) (17 + 14 * m + k) (dsk D m k (17 + 14 * m + k - 1)) = dsk D m (k - 1) := by
  funext j
  by_cases a : j = 17 + 14 * m + k
  · rw [a, fup_at]
    unfold dsk
    rw [if_neg (by omega), if_neg (by omega), if_neg (by omega), if_neg (by omega), if_neg (by omega), if_pos (by omega)]
  · rw [fup_ne a]
    unfold dsk
    by_cases c : 17 + 14 * m + k < j ∧ j ≤ 30 + 14 * m
    · rw [if_pos c, if_pos (show 17 + 14 * m + (k - 1) < j ∧ j ≤ 30 + 14 * m by omega)]
    · rw [if_neg c, if_neg (show ¬ (17 + 14 * m + (k - 1) < j ∧ j ≤ 30 + 14 * m) by omega)]
theorem dsk_e (D : Nat → Int) (m : Nat) (t : Int) (hm : m < 6) : fup (fup (fup (dsk D m 5) (22 + 14 * m) t) 9 t) 7 (fup (fup (dsk D m 5) (22 + 14 * m) t) 9 t 7 + 1) = dst D m t := by
  funext j
  unfold dst
  by_cases a7 : j = 7
  · rw [a7, fup_at, fup_ne (by omega), fup_ne (by omega)]
    unfold dsk
    rw [if_neg (by omega), if_neg (by omega), if_neg (by omega), if_neg (by omega), if_neg (by omega), if_neg (by omega), if_neg (by omega), if_neg (by omega), if_pos rfl]
  · rw [fup_ne a7]
    by_cases a9 : j = 9
    · rw [a9, fup_at, if_neg (by omega), if_neg (by omega), if_neg (by omega), if_neg (by omega), if_pos rfl]
    · rw [fup_ne a9]
      by_cases a5 : j = 22 + 14 * m
      · rw [a5, fup_at, if_neg (by omega), if_neg (by omega), if_pos rfl]
      · rw [fup_ne a5]
        unfold dsk
        rw [if_neg a5, if_neg a9, if_neg a7]
        by_cases c : 23 + 14 * m ≤ j ∧ j ≤ 30 + 14 * m
        · rw [if_pos c, if_pos (show 17 + 14 * m + 5 < j ∧ j ≤ 30 + 14 * m by omega)]
        · rw [if_neg c, if_neg (show ¬ (17 + 14 * m + 5 < j ∧ j ≤ 30 + 14 * m) by omega)]
theorem dul_0 (D : Nat → Int) (m : Int) : dul D m 0 = D := by
  funext j
  unfold dul
  by_cases h : 11 ≤ j ∧ j < 17
  · rw [if_pos h]
    show D (11 + (j - 11)) = D j
    rw [show 11 + (j - 11) = j by omega]
  · rw [if_neg h]
theorem dul_s {D : Nat → Int} {m : Int} {k : Nat} {x : Int} (h : tol (fun i => D (11 + i)) m (k + 1) = if x = m then tol (fun i => D (11 + i)) m k else (fup (tol (fun i => D (11 + i)) m k).1 (tol (fun i => D (11 + i)) m k).2 x, (tol (fun i => D (11 + i)) m k).2 + 1)) (hx : ¬ x = m) (hk : (tol (fun i => D (11 + i)) m k).2 < 6) : fup (dul D m k) (11 + (tol (fun i => D (11 + i)) m k).2) x = dul D m (k + 1) := by
  rw [if_neg hx] at h
  funext j
  unfold dul
  rw [h]
  by_cases e : j = 11 + (tol (fun i => D (11 + i)) m k).2
  · rw [e, fup_at, if_pos (by omega), show 11 + (tol (fun i => D (11 + i)) m k).2 - 11 = (tol (fun i => D (11 + i)) m k).2 by omega]
    exact (fup_at _ _ _).symm
  · rw [fup_ne e]
    by_cases c : 11 ≤ j ∧ j < 17
    · rw [if_pos c, if_pos c]
      exact (fup_ne (by omega)).symm
    · rw [if_neg c, if_neg c]
/-- z is, of those that may, the one with the least number, and of such the first -/
def AM (P : Nat → Prop) (h : Nat → Int) (a b : Nat) (z : Int) : Prop := (z = -4 ∧ ∀ m, a ≤ m → m < b → ¬ P m) ∨ (∃ q : Nat, z = q ∧ a ≤ q ∧ q < b ∧ P q ∧ ∀ m, a ≤ m → m < b → P m → h q < h m ∨ (h q = h m ∧ q ≤ m))
theorem am_uq {P : Nat → Prop} {h : Nat → Int} {a b : Nat} {z z' : Int} (H : AM P h a b z) (H' : AM P h a b z') : z = z' := by
  rcases H with ⟨p, q⟩ | ⟨x, p, q1, q2, q3, q4⟩ <;> rcases H' with ⟨p', q'⟩ | ⟨x', p', q1', q2', q3', q4'⟩
  · omega
  · exact absurd q3' (q x' q1' q2')
  · exact absurd q3 (q' x q1 q2)
  · have e1 := q4 x' q1' q2' q3'
    have e2 := q4' x q1 q2 q3
    omega
theorem am_in {P : Nat → Prop} {h : Nat → Int} {a b : Nat} {z : Int} (H : AM P h a b z) : z = -4 ∨ (0 ≤ z ∧ (a : Int) ≤ z ∧ z < b) := by
  rcases H with ⟨p, q⟩ | ⟨x, p, q1, q2, q3, q4⟩
  · exact Or.inl p
  · exact Or.inr (by omega)
theorem am_0 (P : Nat → Prop) (h : Nat → Int) (a : Nat) : AM P h a a (-4) := Or.inl ⟨rfl, fun m a b => absurd b (by omega)⟩
theorem am_up {P : Nat → Prop} {h : Nat → Int} {k : Nat} {z : Int} [Decidable (P k ∧ (z = -4 ∨ h k < h z.toNat))] (H : AM P h 0 k z) : AM P h 0 (k + 1) (if P k ∧ (z = -4 ∨ h k < h z.toNat) then (k : Int) else z) := by
  rcases H with ⟨p, q⟩ | ⟨x, p, q1, q2, q3, q4⟩
  · by_cases c : P k
    · rw [if_pos ⟨c, Or.inl p⟩]
      exact Or.inr ⟨k, rfl, by omega, by omega, c, fun m a b d => by
        rcases Nat.lt_or_ge m k with e | e
        · exact absurd d (q m a e)
        · rw [show m = k by omega]; exact Or.inr ⟨rfl, Nat.le_refl _⟩⟩
    · rw [if_neg (fun w => c w.1)]
      exact Or.inl ⟨p, fun m a b d => by
        rcases Nat.lt_or_ge m k with e | e
        · exact q m a e d
        · rw [show m = k by omega] at d; exact c d⟩
  · have ex : z.toNat = x := by omega
    by_cases c : P k ∧ (z = -4 ∨ h k < h z.toNat)
    · rw [if_pos c]
      have c2 : h k < h x := by rw [ex] at c; rcases c.2 with e | e; omega; exact e
      exact Or.inr ⟨k, rfl, by omega, by omega, c.1, fun m a b d => by
        rcases Nat.lt_or_ge m k with e | e
        · have := q4 m a e d
          left; omega
        · rw [show m = k by omega]; exact Or.inr ⟨rfl, Nat.le_refl _⟩⟩
    · rw [if_neg c]
      exact Or.inr ⟨x, p, q1, by omega, q3, fun m a b d => by
        rcases Nat.lt_or_ge m k with e | e
        · exact q4 m a e d
        · have em : m = k := by omega
          rw [em] at d ⊢
          rw [ex] at c
          have : ¬ h k < h x := fun w => c ⟨d, Or.inr w⟩
          omega⟩
theorem am_dn {P : Nat → Prop} {h : Nat → Int} {k b : Nat} {z : Int} [Decidable (P k ∧ (z = -4 ∨ h k ≤ h z.toNat))] (hb : k < b) (H : AM P h (k + 1) b z) : AM P h k b (if P k ∧ (z = -4 ∨ h k ≤ h z.toNat) then (k : Int) else z) := by
  rcases H with ⟨p, q⟩ | ⟨x, p, q1, q2, q3, q4⟩
  · by_cases c : P k
    · rw [if_pos ⟨c, Or.inl p⟩]
      exact Or.inr ⟨k, rfl, by omega, hb, c, fun m a b d => by
        rcases Nat.lt_or_ge k m with e | e
        · exact absurd d (q m e b)
        · rw [show m = k by omega]; exact Or.inr ⟨rfl, Nat.le_refl _⟩⟩
    · rw [if_neg (fun w => c w.1)]
      exact Or.inl ⟨p, fun m a b d => by
        rcases Nat.lt_or_ge k m with e | e
        · exact q m e b d
        · rw [show m = k by omega] at d; exact c d⟩
  · have ex : z.toNat = x := by omega
    by_cases c : P k ∧ (z = -4 ∨ h k ≤ h z.toNat)
    · rw [if_pos c]
      have c2 : h k ≤ h x := by rw [ex] at c; rcases c.2 with e | e; omega; exact e
      exact Or.inr ⟨k, rfl, by omega, hb, c.1, fun m a b d => by
        rcases Nat.lt_or_ge k m with e | e
        · have := q4 m e b d
          omega
        · rw [show m = k by omega]; exact Or.inr ⟨rfl, Nat.le_refl _⟩⟩
    · rw [if_neg c]
      exact Or.inr ⟨x, p, by omega, q2, q3, fun m a b d => by
        rcases Nat.lt_or_ge k m with e | e
        · exact q4 m e b d
        · have em : m = k := by omega
          rw [em] at d ⊢
          rw [ex] at c
          have : ¬ h k ≤ h x := fun w => c ⟨d, Or.inr w⟩
          omega⟩
theorem ns_am (pl u : Nat → Nat → Int) : ∀ k, AM (fun m => mayX pl u m (u 1 0)) (u 11) 0 k (nsX pl u k)
  | 0 => am_0 _ _ _
  | k + 1 => am_up (P := fun m => mayX pl u m (u 1 0)) (ns_am pl u k)
theorem pil_ok (f : Nat → Int) (m : Int) (n : Nat) : ∀ k, k ≤ n → (pil f m n k = -4 ∧ ∀ j, n - k ≤ j → j < n → f j ≠ m) ∨ (0 ≤ pil f m n k ∧ pil f m n k < n ∧ f (pil f m n k).toNat = m)
  | 0, _ => Or.inl ⟨rfl, fun j a b => by omega⟩
  | k + 1, h => by
    have ih := pil_ok f m n k (by omega)
    unfold pil
    by_cases e : f (n - (k + 1)) = m
    · rw [if_pos e]
      exact Or.inr ⟨by omega, by omega, e⟩
    · rw [if_neg e]
      rcases ih with q | q
      · exact Or.inl ⟨q.1, fun j a b => by
          by_cases e2 : j = n - (k + 1)
          · rw [e2]; exact e
          · exact q.2 j (by omega) b⟩
      · exact Or.inr q
theorem pil_uq {f : Nat → Int} {m : Int} {n : Nat} {z : Int} (hd : ∀ i j, i < j → j < n → f i ≠ f j) (h : (z = -4 ∧ ∀ j, j < n → f j ≠ m) ∨ (0 ≤ z ∧ z < n ∧ f z.toNat = m)) : z = pil f m n n := by
  have p := pil_ok f m n n (Nat.le_refl _)
  rcases h with h | h <;> rcases p with p | p
  · omega
  · exact absurd p.2.2 (h.2 _ (by omega))
  · exact absurd h.2.2 (p.2 _ (by omega) (by omega))
  · rcases Nat.lt_or_ge z.toNat (pil f m n n).toNat with e | e
    · exact absurd (h.2.2.trans p.2.2.symm) (hd _ _ e (by omega))
    · rcases Nat.lt_or_ge (pil f m n n).toNat z.toNat with e2 | e2
      · exact absurd (p.2.2.trans h.2.2.symm) (hd _ _ e2 (by omega))
      · omega
set_option maxHeartbeats 4000000 in
set_option maxRecDepth 100000 in
theorem c_X8_start (l : Launch) (G : Ly) (m : Int) (tick : Int) (w : Wd) (FM : gOb G 20 = some 8) (hm : 0 ≤ m ∧ m < 6) : Mv l yX8_start cX8_start 5 none 0 0 G [.ref (gAd G 20), .int (iI m), .int (iI tick)] w (fun w2 => w2 = upA w 20 5 (dst (w 20 5) m.toNat tick)) := by
  refine mv_of (lv := [(0, .ref (gAd G 20)), (1, .int (iI m)), (2, .int (iI tick))]) (by decide) (Nat.le_of_ble_eq_true rfl) rfl ?_
  intro p_ e_ s_ m_ b_ h_ c_ X
  refine g_bipush X dX8_start_0 (by decide) ?_
  refine g_bipush X dX8_start_2 (by decide) ?_
  refine g_iload_n X dX8_start_4 rfl 1 rfl ?_
  refine g_imul X dX8_start_5 ?_
  refine g_iadd X dX8_start_6 ?_
  refine g_istore_n (lv' := [(3, .int (iI (17 + (14 * m)))), (0, .ref (gAd G 20)), (1, .int (iI m)), (2, .int (iI tick))]) X dX8_start_7 rfl (by decide) rfl ?_
  refine g_aload_n X dX8_start_8 rfl 1 rfl ?_
  refine g_geta X ck_X8 FM 5 (by decide) fl_X8_19 rfl dX8_start_9 ?_
  refine g_iload_n X dX8_start_12 rfl 0 rfl ?_
  refine g_iconst X dX8_start_13 ?_
  refine h_iast (a := 17 + (14 * m)) (j := (17 + (14 * m)).toNat) X rfl FM (by decide) (show fkX 8 5 = (1, 101) from rfl) (by decide) (by omega) (by omega) dX8_start_14 ?_
  obtain ⟨w_1, ew_1⟩ : ∃ q_ : Wd, q_ = up w 20 5 (17 + (14 * m)).toNat 1 := ⟨_, rfl⟩
  refine g_w (w' := w_1) ew_1 ?_
  refine g_aload_n X dX8_start_15 rfl 1 rfl ?_
  refine g_geta X ck_X8 FM 5 (by decide) fl_X8_19 rfl dX8_start_16 ?_
  refine g_iload_n X dX8_start_19 rfl 0 rfl ?_
  refine g_iconst X dX8_start_20 ?_
  refine g_iadd X dX8_start_21 ?_
  refine g_dup2 X dX8_start_22 rfl rfl ?_
  refine h_iald (a := (17 + (14 * m)) + 2) (j := ((17 + (14 * m)) + 2).toNat) X rfl FM (by decide) (show fkX 8 5 = (1, 101) from rfl) (by decide) (by omega) (by omega) dX8_start_23 ?_
  refine g_iconst X dX8_start_24 ?_
  refine g_iadd X dX8_start_25 ?_
  refine h_iast (a := (17 + (14 * m)) + 2) (j := ((17 + (14 * m)) + 2).toNat) X rfl FM (by decide) (show fkX 8 5 = (1, 101) from rfl) (by decide) (by omega) (by omega) dX8_start_26 ?_
  obtain ⟨w_2, ew_2⟩ : ∃ q_ : Wd, q_ = up w_1 20 5 ((17 + (14 * m)) + 2).toNat ((w_1 20 5 ((17 + (14 * m)) + 2).toNat) + 1) := ⟨_, rfl⟩
  refine g_w (w' := w_2) ew_2 ?_
  refine g_bipush X dX8_start_27 (by decide) ?_
  refine g_istore (lv' := [(4, .int (iI 13)), (3, .int (iI (17 + (14 * m)))), (0, .ref (gAd G 20)), (1, .int (iI m)), (2, .int (iI tick))]) X dX8_start_29 (by decide) rfl ?_
  refine g_lv (lv' := [(0, .ref (gAd G 20)), (1, .int (iI m)), (2, .int (iI tick)), (3, .int (iI (17 + (14 * m)))), (4, .int (iI 13))]) [2, 3, 4, 1, 0] rfl ?_
  refine g_loop2 (fun (k : Int) (w1 : Wd) => [(0, .ref (gAd G 20)), (1, .int (iI m)), (2, .int (iI tick)), (3, .int (iI (17 + (14 * m)))), (4, .int (iI k))]) (fun (k : Int) (w1 : Wd) => w1) (fun (k : Int) (w1 : Wd) => (5 ≤ k) ∧ (k ≤ 13) ∧ (w1 = upA w 20 5 (dsk (w 20 5) m.toNat k.toNat))) (fun (k : Int) (w1 : Wd) => (k - 5).toNat) 13 w_2 ⟨(by first | omega | rfl | assumption), (by first | omega | rfl | assumption), (by
      rw [ew_2, ew_1, up_eq_upA w, up_upA, upA_atj]
      congr 1
      rw [show (17 + 14 * m).toNat = 17 + 14 * m.toNat by omega, show (17 + 14 * m + 2).toNat = 19 + 14 * m.toNat by omega]
      exact dsk_0 _ _)⟩ ?_
  intro k w1 hI_31 ih_31
  obtain ⟨h0, h1, hw⟩ := hI_31
  try dsimp only at ih_31 ⊢
  refine g_iload X dX8_start_31 4 rfl ?_
  refine g_iconst X dX8_start_33 ?_
  refine g_icmp_le (tgt := 63) X dX8_start_34 (by decide) (by unfold InR; omega) ⟨by decide, by decide⟩ (fun c_34 => ?_) (fun c_34 => ?_)
  · skip
    refine g_aload_n X dX8_start_63 rfl 0 rfl ?_
    refine g_geta X ck_X8 FM 5 (by decide) fl_X8_19 rfl dX8_start_64 ?_
    refine g_iload_n X dX8_start_67 rfl 3 rfl ?_
    refine g_iconst X dX8_start_68 ?_
    refine g_iadd X dX8_start_69 ?_
    refine g_iload_n X dX8_start_70 rfl 2 rfl ?_
    refine h_iast (a := (17 + (14 * m)) + 5) (j := ((17 + (14 * m)) + 5).toNat) X rfl FM (by decide) (show fkX 8 5 = (1, 101) from rfl) (by decide) (by omega) (by omega) dX8_start_71 ?_
    obtain ⟨w_3, ew_3⟩ : ∃ q_ : Wd, q_ = up w1 20 5 ((17 + (14 * m)) + 5).toNat tick := ⟨_, rfl⟩
    refine g_w (w' := w_3) ew_3 ?_
    refine g_aload_n X dX8_start_72 rfl 0 rfl ?_
    refine g_geta X ck_X8 FM 5 (by decide) fl_X8_19 rfl dX8_start_73 ?_
    refine g_bipush X dX8_start_76 (by decide) ?_
    refine g_iload_n X dX8_start_78 rfl 2 rfl ?_
    refine h_iast (a := 9) (j := 9) X rfl FM (by decide) (show fkX 8 5 = (1, 101) from rfl) (by decide) (by omega) (by omega) dX8_start_79 ?_
    obtain ⟨w_4, ew_4⟩ : ∃ q_ : Wd, q_ = up w_3 20 5 9 tick := ⟨_, rfl⟩
    refine g_w (w' := w_4) ew_4 ?_
    refine g_aload_n X dX8_start_80 rfl 0 rfl ?_
    refine g_geta X ck_X8 FM 5 (by decide) fl_X8_19 rfl dX8_start_81 ?_
    refine g_bipush X dX8_start_84 (by decide) ?_
    refine g_dup2 X dX8_start_86 rfl rfl ?_
    refine h_iald (a := 7) (j := 7) X rfl FM (by decide) (show fkX 8 5 = (1, 101) from rfl) (by decide) (by omega) (by omega) dX8_start_87 ?_
    refine g_iconst X dX8_start_88 ?_
    refine g_iadd X dX8_start_89 ?_
    refine h_iast (a := 7) (j := 7) X rfl FM (by decide) (show fkX 8 5 = (1, 101) from rfl) (by decide) (by omega) (by omega) dX8_start_90 ?_
    obtain ⟨w_5, ew_5⟩ : ∃ q_ : Wd, q_ = up w_4 20 5 7 ((w_4 20 5 7) + 1) := ⟨_, rfl⟩
    refine g_w (w' := w_5) ew_5 ?_
    exact g_vret X rfl dX8_start_91 (by
        rw [ew_5, ew_4, ew_3, hw, up_upA, up_upA, up_upA, upA_atj, show k.toNat = 5 by omega, show (17 + 14 * m + 5).toNat = 22 + 14 * m.toNat by omega]
        congr 1
        exact dsk_e _ _ _ (by omega))
  · skip
    refine g_aload_n X dX8_start_37 rfl 0 rfl ?_
    refine g_geta X ck_X8 FM 5 (by decide) fl_X8_19 rfl dX8_start_38 ?_
    refine g_iload_n X dX8_start_41 rfl 3 rfl ?_
    refine g_iload X dX8_start_42 4 rfl ?_
    refine g_iadd X dX8_start_44 ?_
    refine g_aload_n X dX8_start_45 rfl 0 rfl ?_
    refine g_geta X ck_X8 FM 5 (by decide) fl_X8_19 rfl dX8_start_46 ?_
    refine g_iload_n X dX8_start_49 rfl 3 rfl ?_
    refine g_iload X dX8_start_50 4 rfl ?_
    refine g_iadd X dX8_start_52 ?_
    refine g_iconst X dX8_start_53 ?_
    refine g_isub X dX8_start_54 ?_
    refine h_iald (a := ((17 + (14 * m)) + k) - 1) (j := (((17 + (14 * m)) + k) - 1).toNat) X rfl FM (by decide) (show fkX 8 5 = (1, 101) from rfl) (by decide) (by omega) (by omega) dX8_start_55 ?_
    refine h_iast (a := (17 + (14 * m)) + k) (j := ((17 + (14 * m)) + k).toNat) X rfl FM (by decide) (show fkX 8 5 = (1, 101) from rfl) (by decide) (by omega) (by omega) dX8_start_56 ?_
    obtain ⟨w_6, ew_6⟩ : ∃ q_ : Wd, q_ = up w1 20 5 ((17 + (14 * m)) + k).toNat (w1 20 5 (((17 + (14 * m)) + k) - 1).toNat) := ⟨_, rfl⟩
    refine g_w (w' := w_6) ew_6 ?_
    refine g_iinc (j := 4) (lv' := [(4, .int (iI (k + (-1)))), (0, .ref (gAd G 20)), (1, .int (iI m)), (2, .int (iI tick)), (3, .int (iI (17 + (14 * m))))]) X dX8_start_57 rfl (by decide) rfl ?_
    refine g_goto (tgt := 31) X dX8_start_60 (by decide) ?_
    refine g_lv (lv' := [(0, .ref (gAd G 20)), (1, .int (iI m)), (2, .int (iI tick)), (3, .int (iI (17 + (14 * m)))), (4, .int (iI (k + (-1))))]) [1, 2, 3, 4, 0] rfl ?_
    exact ih_31 (k + (-1)) w_6 ⟨(by first | omega | rfl | assumption), (by first | omega | rfl | assumption), (by
        rw [ew_6, hw, up_upA, upA_atj]
        congr 1
        rw [show (17 + 14 * m + k).toNat = 17 + 14 * m.toNat + k.toNat by omega, show (17 + 14 * m + k - 1).toNat = 17 + 14 * m.toNat + k.toNat - 1 by omega, show (k + -1).toNat = k.toNat - 1 by omega]
        exact dsk_s _ _ _ (by omega) (by omega))⟩ (by omega)
set_option maxHeartbeats 4000000 in
set_option maxRecDepth 100000 in
theorem c_X8_stop (l : Launch) (G : Ly) (m : Int) (tick : Int) (w : Wd) (FM : gOb G 20 = some 8) (hm : 0 ≤ m ∧ m < 6) : Mv l yX8_stop cX8_stop 3 none 0 0 G [.ref (gAd G 20), .int (iI m), .int (iI tick)] w (fun w2 => w2 = upA w 20 5 (dsp (w 20 5) m.toNat tick)) := by
  refine mv_of (lv := [(0, .ref (gAd G 20)), (1, .int (iI m)), (2, .int (iI tick))]) (by decide) (Nat.le_of_ble_eq_true rfl) rfl ?_
  intro p_ e_ s_ m_ b_ h_ c_ X
  refine g_aload_n X dX8_stop_0 rfl 0 rfl ?_
  refine g_geta X ck_X8 FM 5 (by decide) fl_X8_19 rfl dX8_stop_1 ?_
  refine g_bipush X dX8_stop_4 (by decide) ?_
  refine g_bipush X dX8_stop_6 (by decide) ?_
  refine g_iload_n X dX8_stop_8 rfl 1 rfl ?_
  refine g_imul X dX8_stop_9 ?_
  refine g_iadd X dX8_stop_10 ?_
  refine g_iconst X dX8_stop_11 ?_
  refine h_iast (a := 17 + (14 * m)) (j := (17 + (14 * m)).toNat) X rfl FM (by decide) (show fkX 8 5 = (1, 101) from rfl) (by decide) (by omega) (by omega) dX8_stop_12 ?_
  obtain ⟨w_1, ew_1⟩ : ∃ q_ : Wd, q_ = up w 20 5 (17 + (14 * m)).toNat 0 := ⟨_, rfl⟩
  refine g_w (w' := w_1) ew_1 ?_
  refine g_aload_n X dX8_stop_13 rfl 0 rfl ?_
  refine g_geta X ck_X8 FM 5 (by decide) fl_X8_19 rfl dX8_stop_14 ?_
  refine g_bipush X dX8_stop_17 (by decide) ?_
  refine g_bipush X dX8_stop_19 (by decide) ?_
  refine g_iload_n X dX8_stop_21 rfl 1 rfl ?_
  refine g_imul X dX8_stop_22 ?_
  refine g_iadd X dX8_stop_23 ?_
  refine g_iconst X dX8_stop_24 ?_
  refine g_iadd X dX8_stop_25 ?_
  refine g_iload_n X dX8_stop_26 rfl 2 rfl ?_
  refine h_iast (a := (17 + (14 * m)) + 4) (j := ((17 + (14 * m)) + 4).toNat) X rfl FM (by decide) (show fkX 8 5 = (1, 101) from rfl) (by decide) (by omega) (by omega) dX8_stop_27 ?_
  obtain ⟨w_2, ew_2⟩ : ∃ q_ : Wd, q_ = up w_1 20 5 ((17 + (14 * m)) + 4).toNat tick := ⟨_, rfl⟩
  refine g_w (w' := w_2) ew_2 ?_
  exact g_vret X rfl dX8_stop_28 (by
      rw [ew_2, ew_1, up_eq_upA w, up_upA, show (17 + 14 * m).toNat = 17 + 14 * m.toNat by omega, show (17 + 14 * m + 4).toNat = 21 + 14 * m.toNat by omega]
      rfl)
set_option maxHeartbeats 4000000 in
set_option maxRecDepth 100000 in
theorem c_X8_unlist (l : Launch) (G : Ly) (m : Int) (w : Wd) (FM : gOb G 20 = some 8) (hl : 0 ≤ w 20 5 10 ∧ w 20 5 10 ≤ 6) (hm : InR m) (hv : ∀ j : Nat, (j : Int) < w 20 5 10 → InR (w 20 5 (11 + j))) : Mv l yX8_unlist cX8_unlist 4 none 0 0 G [.ref (gAd G 20), .int (iI m)] w (fun w2 => w2 = upA w 20 5 (dun (w 20 5) m)) := by
  refine mv_of (lv := [(0, .ref (gAd G 20)), (1, .int (iI m))]) (by decide) (Nat.le_of_ble_eq_true rfl) rfl ?_
  intro p_ e_ s_ m_ b_ h_ c_ X
  refine g_iconst X dX8_unlist_0 ?_
  refine g_istore_n (lv' := [(2, .int (iI 0)), (0, .ref (gAd G 20)), (1, .int (iI m))]) X dX8_unlist_1 rfl (by decide) rfl ?_
  refine g_iconst X dX8_unlist_2 ?_
  refine g_istore_n (lv' := [(3, .int (iI 0)), (2, .int (iI 0)), (0, .ref (gAd G 20)), (1, .int (iI m))]) X dX8_unlist_3 rfl (by decide) rfl ?_
  refine g_lv (lv' := [(0, .ref (gAd G 20)), (1, .int (iI m)), (2, .int (iI 0)), (3, .int (iI 0))]) [2, 3, 1, 0] rfl ?_
  refine g_loop3 (fun (left : Int) (k : Int) (w1 : Wd) => [(0, .ref (gAd G 20)), (1, .int (iI m)), (2, .int (iI left)), (3, .int (iI k))]) (fun (left : Int) (k : Int) (w1 : Wd) => w1) (fun (left : Int) (k : Int) (w1 : Wd) => (0 ≤ k) ∧ (k ≤ w 20 5 10) ∧ (left = ((tol (fun i => w 20 5 (11 + i)) m k.toNat).2 : Int)) ∧ (w1 = upA w 20 5 (dul (w 20 5) m k.toNat))) (fun (left : Int) (k : Int) (w1 : Wd) => (w 20 5 10 - k).toNat) 0 0 w ⟨(by first | omega | rfl | assumption), (by first | omega | rfl | assumption), (by rfl), (by rw [show dul (w 20 5) m (0 : Int).toNat = w 20 5 from dul_0 _ _, upA_self])⟩ ?_
  intro left k w1 hI_4 ih_4
  obtain ⟨h0, h1, hlf, hw⟩ := hI_4
  try dsimp only at ih_4 ⊢
  have htl := tol_le (fun i => w 20 5 (11 + i)) m k.toNat
  have hto := tol_ok (fun i => w 20 5 (11 + i)) m k.toNat
  have e10 : w1 20 5 10 = w 20 5 10 := by rw [hw, upA_atj]; unfold dul; rw [if_neg (by omega)]
  refine g_iload_n X dX8_unlist_4 rfl 3 rfl ?_
  refine g_aload_n X dX8_unlist_5 rfl 0 rfl ?_
  refine g_geta X ck_X8 FM 5 (by decide) fl_X8_19 rfl dX8_unlist_6 ?_
  refine g_bipush X dX8_unlist_9 (by decide) ?_
  refine h_iald (a := 10) (j := 10) X rfl FM (by decide) (show fkX 8 5 = (1, 101) from rfl) (by decide) (by omega) (by omega) dX8_unlist_11 ?_
  refine g_icmp_ge (tgt := 55) X dX8_unlist_12 (by decide) (by unfold InR; omega) (by rw [e10]; unfold InR; omega) (fun c_12 => ?_) (fun c_12 => ?_)
  · skip
    refine g_aload_n X dX8_unlist_55 rfl 0 rfl ?_
    refine g_geta X ck_X8 FM 5 (by decide) fl_X8_19 rfl dX8_unlist_56 ?_
    refine g_bipush X dX8_unlist_59 (by decide) ?_
    refine g_iload_n X dX8_unlist_61 rfl 2 rfl ?_
    refine h_iast (a := 10) (j := 10) X rfl FM (by decide) (show fkX 8 5 = (1, 101) from rfl) (by decide) (by omega) (by omega) dX8_unlist_62 ?_
    obtain ⟨w_1, ew_1⟩ : ∃ q_ : Wd, q_ = up w1 20 5 10 left := ⟨_, rfl⟩
    refine g_w (w' := w_1) ew_1 ?_
    exact g_vret X rfl dX8_unlist_63 (by
        rw [ew_1, hw, up_upA, show k = w 20 5 10 by omega]
        congr 1
        rw [hlf, show k = w 20 5 10 by omega]
        rfl)
  · skip
    have hkk : w1 20 5 (11 + k).toNat = w 20 5 (11 + k.toNat) := by
      rw [hw, upA_atj, show (11 + k).toNat = 11 + k.toNat by omega]
      unfold dul
      rw [if_pos (by omega), show 11 + k.toNat - 11 = k.toNat by omega]
      exact hto.1 k.toNat (Nat.le_refl _)
    have hkr := hv k.toNat (by omega)
    have hts : tol (fun i => w 20 5 (11 + i)) m (k.toNat + 1) = if w 20 5 (11 + k.toNat) = m then tol (fun i => w 20 5 (11 + i)) m k.toNat else (fup (tol (fun i => w 20 5 (11 + i)) m k.toNat).1 (tol (fun i => w 20 5 (11 + i)) m k.toNat).2 (w 20 5 (11 + k.toNat)), (tol (fun i => w 20 5 (11 + i)) m k.toNat).2 + 1) := by
      have e : (tol (fun i => w 20 5 (11 + i)) m k.toNat).1 k.toNat = w 20 5 (11 + k.toNat) := hto.1 k.toNat (Nat.le_refl _)
      show (if (tol (fun i => w 20 5 (11 + i)) m k.toNat).1 k.toNat = m then _ else _) = _
      rw [e]
    refine g_aload_n X dX8_unlist_15 rfl 0 rfl ?_
    refine g_geta X ck_X8 FM 5 (by decide) fl_X8_19 rfl dX8_unlist_16 ?_
    refine g_bipush X dX8_unlist_19 (by decide) ?_
    refine g_iload_n X dX8_unlist_21 rfl 3 rfl ?_
    refine g_iadd X dX8_unlist_22 ?_
    refine h_iald (a := 11 + k) (j := (11 + k).toNat) X rfl FM (by decide) (show fkX 8 5 = (1, 101) from rfl) (by decide) (by omega) (by omega) dX8_unlist_23 ?_
    rw [show (w1 20 5 (11 + k).toNat : Int) = w 20 5 (11 + k.toNat) from hkk]
    refine g_iload_n X dX8_unlist_24 rfl 1 rfl ?_
    refine g_icmp_eq (tgt := 49) X dX8_unlist_25 (by decide) (by exact hkr) (by exact hm) (fun c_25 => ?_) (fun c_25 => ?_)
    · skip
      refine g_iinc (j := 3) (lv' := [(3, .int (iI (k + 1))), (0, .ref (gAd G 20)), (1, .int (iI m)), (2, .int (iI left))]) X dX8_unlist_49 rfl (by decide) rfl ?_
      refine g_goto (tgt := 4) X dX8_unlist_52 (by decide) ?_
      refine g_lv (lv' := [(0, .ref (gAd G 20)), (1, .int (iI m)), (2, .int (iI left)), (3, .int (iI (k + 1)))]) [1, 2, 3, 0] rfl ?_
      exact ih_4 left (k + 1) w1 ⟨(by first | omega | rfl | assumption), (by first | omega | rfl | assumption), (by
          rw [show (k + 1).toNat = k.toNat + 1 by omega, hts]
          first
          | (rw [if_pos c_25]; exact hlf)
          | (rw [if_neg c_25]; show left + 1 = ((_ + 1 : Nat) : Int); omega)), (by
          rw [show (k + 1).toNat = k.toNat + 1 by omega]
          first
          | (rw [hw]; congr 1; unfold dul; rw [hts, if_pos c_25])
          | (rw [hw, up_upA]; congr 1; rw [hlf, show (11 + ((tol (fun i => w 20 5 (11 + i)) m k.toNat).2 : Int)).toNat = 11 + (tol (fun i => w 20 5 (11 + i)) m k.toNat).2 by omega]; exact dul_s hts c_25 (by omega)))⟩ (by omega)
    · skip
      refine g_aload_n X dX8_unlist_28 rfl 0 rfl ?_
      refine g_geta X ck_X8 FM 5 (by decide) fl_X8_19 rfl dX8_unlist_29 ?_
      refine g_bipush X dX8_unlist_32 (by decide) ?_
      refine g_iload_n X dX8_unlist_34 rfl 2 rfl ?_
      refine g_iadd X dX8_unlist_35 ?_
      refine g_aload_n X dX8_unlist_36 rfl 0 rfl ?_
      refine g_geta X ck_X8 FM 5 (by decide) fl_X8_19 rfl dX8_unlist_37 ?_
      refine g_bipush X dX8_unlist_40 (by decide) ?_
      refine g_iload_n X dX8_unlist_42 rfl 3 rfl ?_
      refine g_iadd X dX8_unlist_43 ?_
      refine h_iald (a := 11 + k) (j := (11 + k).toNat) X rfl FM (by decide) (show fkX 8 5 = (1, 101) from rfl) (by decide) (by omega) (by omega) dX8_unlist_44 ?_
      rw [show (w1 20 5 (11 + k).toNat : Int) = w 20 5 (11 + k.toNat) from hkk]
      refine h_iast (a := 11 + left) (j := (11 + left).toNat) X rfl FM (by decide) (show fkX 8 5 = (1, 101) from rfl) (by decide) (by omega) (by omega) dX8_unlist_45 ?_
      obtain ⟨w_2, ew_2⟩ : ∃ q_ : Wd, q_ = up w1 20 5 (11 + left).toNat (w 20 5 (11 + k.toNat)) := ⟨_, rfl⟩
      refine g_w (w' := w_2) ew_2 ?_
      refine g_iinc (j := 2) (lv' := [(2, .int (iI (left + 1))), (0, .ref (gAd G 20)), (1, .int (iI m)), (3, .int (iI k))]) X dX8_unlist_46 rfl (by decide) rfl ?_
      refine g_iinc (j := 3) (lv' := [(3, .int (iI (k + 1))), (2, .int (iI (left + 1))), (0, .ref (gAd G 20)), (1, .int (iI m))]) X dX8_unlist_49 rfl (by decide) rfl ?_
      refine g_goto (tgt := 4) X dX8_unlist_52 (by decide) ?_
      refine g_lv (lv' := [(0, .ref (gAd G 20)), (1, .int (iI m)), (2, .int (iI (left + 1))), (3, .int (iI (k + 1)))]) [2, 3, 1, 0] rfl ?_
      exact ih_4 (left + 1) (k + 1) w_2 ⟨(by first | omega | rfl | assumption), (by first | omega | rfl | assumption), (by
          rw [show (k + 1).toNat = k.toNat + 1 by omega, hts]
          first
          | (rw [if_pos c_25]; exact hlf)
          | (rw [if_neg c_25]; show left + 1 = ((_ + 1 : Nat) : Int); omega)), (by
          rw [show (k + 1).toNat = k.toNat + 1 by omega]
          first
          | (rw [hw]; congr 1; unfold dul; rw [hts, if_pos c_25])
          | (rw [ew_2, hw, up_upA]; congr 1; rw [hlf, show (11 + ((tol (fun i => w 20 5 (11 + i)) m k.toNat).2 : Int)).toNat = 11 + (tol (fun i => w 20 5 (11 + i)) m k.toNat).2 by omega]; exact dul_s hts c_25 (by omega)))⟩ (by omega)
set_option maxHeartbeats 4000000 in
set_option maxRecDepth 100000 in
theorem c_X8_starter (l : Launch) (G : Ly) (tick : Int) (pl : Nat → Nat → Int) (u : Nat → Nat → Int) (B : Int) (w : Wd) (FM : gOb G 20 = some 8) (hT : PlR pl (w 20 4)) (hp : PV pl) (hR : RS u (w 20 5)) (hS : SV B (pl 0 0) u) (hU : SU (pl 0 0) u) (hB : B ≤ 99000) (ht : tick = u 1 0) : Mi l yX8_starter cX8_starter 4 (some .int) 2 46 G [.ref (gAd G 20), .int (iI tick)] w (fun z w2 => z = (nsX pl u (pl 0 0).toNat) ∧ w2 = w) := by
  refine mi_of (lv := [(0, .ref (gAd G 20)), (1, .int (iI tick))]) (by decide) (Nat.le_of_ble_eq_true rfl) rfl ?_
  intro p_ e_ s_ m_ b_ h_ c_ X
  have hp0 := hp.1
  have hp7 := hp.2.2
  have t36 := hT.1
  have sT := hS.1
  have sB := hS.2.1
  have sC := hS.2.2.1
  have sD := hS.2.2.2.1
  have sE := hS.2.2.2.2.1
  have sF := hS.2.2.2.2.2.1
  have sG := hS.2.2.2.2.2.2.1
  have sH := hS.2.2.2.2.2.2.2
  have rT := hR.1
  have rB := hR.2.1
  have rL := hR.2.2.1
  have rM := hR.2.2.2
  have uA := hU.1
  have hrun := bt_or (s := u 6 0) (t := u 7 0) (by omega) (by omega) (by omega) (by omega)
  have hAM := ns_am pl u (pl 0 0).toNat
  refine g_bipush X dX8_starter_0 (by decide) ?_
  refine g_istore_n (lv' := [(2, .int (iI (-4))), (0, .ref (gAd G 20)), (1, .int (iI tick))]) X dX8_starter_2 rfl (by decide) rfl ?_
  refine g_aload_n X dX8_starter_3 rfl 1 rfl ?_
  refine g_geta X ck_X8 FM 4 (by decide) fl_X8_16 rfl dX8_starter_4 ?_
  refine g_bipush X dX8_starter_7 (by decide) ?_
  refine h_iald (a := 36) (j := 36) X rfl FM (by decide) (show fkX 8 4 = (1, 44) from rfl) (by decide) (by omega) (by omega) dX8_starter_9 ?_
  refine g_iconst X dX8_starter_10 ?_
  refine g_isub X dX8_starter_11 ?_
  refine g_istore_n (lv' := [(3, .int (iI ((w 20 4 36) - 1))), (2, .int (iI (-4))), (0, .ref (gAd G 20)), (1, .int (iI tick))]) X dX8_starter_12 rfl (by decide) rfl ?_
  refine g_lv (lv' := [(0, .ref (gAd G 20)), (1, .int (iI tick)), (2, .int (iI (-4))), (3, .int (iI ((w 20 4 36) - 1)))]) [2, 3, 1, 0] rfl ?_
  refine g_loop2 (fun (found : Int) (k : Int) => [(0, .ref (gAd G 20)), (1, .int (iI tick)), (2, .int (iI found)), (3, .int (iI k))]) (fun (found : Int) (k : Int) => w) (fun (found : Int) (k : Int) => (-1 ≤ k) ∧ (k < pl 0 0) ∧ (AM (fun m => mayX pl u m (u 1 0)) (u 11) (k + 1).toNat (pl 0 0).toNat found)) (fun (found : Int) (k : Int) => (k + 1).toNat) (-4) ((w 20 4 36) - 1) ⟨(by first | omega | rfl | assumption), (by first | omega | rfl | assumption), (by rw [t36, show (pl 0 0 - 1 + 1).toNat = (pl 0 0).toNat by omega]; exact am_0 _ _ _)⟩ ?_
  intro found k hI_13 ih_13
  obtain ⟨h0, h1, ha⟩ := hI_13
  try dsimp only at ih_13 ⊢
  refine g_iload_n X dX8_starter_13 rfl 3 rfl ?_
  refine g_if_lt (tgt := 59) X dX8_starter_14 (by decide) (by unfold InR; omega) (fun c_14 => ?_) (fun c_14 => ?_)
  · skip
    refine g_iload_n X dX8_starter_59 rfl 2 rfl ?_
    exact g_iret X rfl rfl dX8_starter_60 (by
        refine ⟨?_, rfl⟩
        rw [show (k + 1).toNat = 0 by omega] at ha
        exact am_uq ha hAM)
  · skip
    have hfr := am_in ha
    have hh := sF k.toNat (by omega)
    have hhf : 0 ≤ found → 0 ≤ u 11 found.toNat ∧ u 11 found.toNat ≤ B := fun h => (sF found.toNat (by omega)).1
    refine g_aload_n X dX8_starter_17 rfl 0 rfl ?_
    refine g_iload_n X dX8_starter_18 rfl 3 rfl ?_
    refine g_iload_n X dX8_starter_19 rfl 1 rfl ?_
    refine g_cut1 (pc' := 52) (fun (f2 : Int) => [(0, .ref (gAd G 20)), (1, .int (iI tick)), (2, .int (iI found)), (3, .int (iI k))]) (fun (f2 : Int) => [.int (iI f2)]) (fun (f2 : Int) => w) (fun (f2 : Int) => (f2 = if mayX pl u k (u 1 0) ∧ (found = -4 ∨ u 11 k.toNat ≤ u 11 found.toNat) then k else found)) ?_ ?_
    · intro f2 hI_52
      have hf2 := hI_52
      try dsimp only at hf2 ⊢
      refine g_istore_n (lv' := [(2, .int (iI f2)), (0, .ref (gAd G 20)), (1, .int (iI tick)), (3, .int (iI k))]) X dX8_starter_52 rfl (by decide) rfl ?_
      refine g_iinc (j := 3) (lv' := [(3, .int (iI (k + (-1)))), (2, .int (iI f2)), (0, .ref (gAd G 20)), (1, .int (iI tick))]) X dX8_starter_53 rfl (by decide) rfl ?_
      refine g_goto (tgt := 13) X dX8_starter_56 (by decide) ?_
      refine g_lv (lv' := [(0, .ref (gAd G 20)), (1, .int (iI tick)), (2, .int (iI f2)), (3, .int (iI (k + (-1))))]) [2, 3, 1, 0] rfl ?_
      exact ih_13 f2 (k + (-1)) ⟨(by first | omega | rfl | assumption), (by first | omega | rfl | assumption), (by
          rw [show (k + -1 + 1).toNat = k.toNat by omega, hf2]
          rw [show (k + 1).toNat = k.toNat + 1 by omega] at ha
          have := am_dn (by omega) ha
          rw [show ((k.toNat : Nat) : Int) = k by omega] at this
          exact this)⟩ (by omega)
    · intro J_52
      try dsimp only at J_52
      refine g_calli (st := []) X (c_X8_mayStart l G k tick pl u B w FM (by first | assumption | omega | (unfold InR; omega)) (by first | assumption | omega | (unfold InR; omega)) (by first | assumption | omega | (unfold InR; omega)) (by first | assumption | omega | (unfold InR; omega)) (by first | assumption | omega | (unfold InR; omega)) (by first | assumption | omega | (unfold InR; omega)) (by first | assumption | omega | (unfold InR; omega)) (by omega)) cm_X8_mayStart im_X8_mayStart se_X8_mayStart ml_X8_153 ck_X8 FM ⟨Nat.le_of_ble_eq_true rfl, Nat.le_of_ble_eq_true rfl⟩ rfl rfl (Nat.le_of_ble_eq_true rfl) dX8_starter_20 (fn_i ?_)
      refine g_if_eq (tgt := 51) X dX8_starter_23 (by decide) (by exact in01) (fun c_23 => ?_) (fun c_23 => ?_)
      · skip
        refine g_iload_n X dX8_starter_51 rfl 2 rfl ?_
        refine g_lv (lv' := [(0, .ref (gAd G 20)), (1, .int (iI tick)), (2, .int (iI found)), (3, .int (iI k))]) [0, 1, 2, 3] rfl ?_
        exact J_52 found (by
            rw [ht] at c_23
            first
            | rw [if_neg (fun h => of_zero c_23 h.1)]
            | rw [if_pos ⟨of_one c_23, by omega⟩]
            | rw [if_neg (fun h => by have := h.2; omega)])
      · skip
        refine g_iload_n X dX8_starter_26 rfl 2 rfl ?_
        refine g_bipush X dX8_starter_27 (by decide) ?_
        refine g_icmp_eq (tgt := 47) X dX8_starter_29 (by decide) (by unfold InR; omega) ⟨by decide, by decide⟩ (fun c_29 => ?_) (fun c_29 => ?_)
        · skip
          refine g_iload_n X dX8_starter_47 rfl 3 rfl ?_
          refine g_goto (tgt := 52) X dX8_starter_48 (by decide) ?_
          refine g_lv (lv' := [(0, .ref (gAd G 20)), (1, .int (iI tick)), (2, .int (iI found)), (3, .int (iI k))]) [0, 1, 2, 3] rfl ?_
          exact J_52 k (by
              rw [ht] at c_23
              first
              | rw [if_neg (fun h => of_zero c_23 h.1)]
              | rw [if_pos ⟨of_one c_23, by omega⟩]
              | rw [if_neg (fun h => by have := h.2; omega)])
        · skip
          refine g_aload_n X dX8_starter_32 rfl 0 rfl ?_
          refine g_iload_n X dX8_starter_33 rfl 3 rfl ?_
          refine g_iconst X dX8_starter_34 ?_
          refine g_calli (st := []) X (c_X8_own l G k 1 w FM (by first | assumption | omega | (unfold InR; omega)) (by first | assumption | omega | (unfold InR; omega))) cm_X8_own im_X8_own se_X8_own ml_X8_122 ck_X8 FM ⟨Nat.le_of_ble_eq_true rfl, Nat.le_of_ble_eq_true rfl⟩ rfl rfl (Nat.le_of_ble_eq_true rfl) dX8_starter_35 (fn_i ?_)
          rw [show (w 20 5 (17 + 14 * k + 1).toNat : Int) = u 11 k.toNat from (by rw [show (17 + 14 * k + 1).toNat = 18 + 14 * k.toNat by omega]; exact (rM k.toNat (by omega)).2.1)]
          refine g_aload_n X dX8_starter_38 rfl 0 rfl ?_
          refine g_iload_n X dX8_starter_39 rfl 2 rfl ?_
          refine g_iconst X dX8_starter_40 ?_
          refine g_calli (st := [.int (iI (u 11 k.toNat))]) X (c_X8_own l G found 1 w FM (by omega) (by first | assumption | omega | (unfold InR; omega))) cm_X8_own im_X8_own se_X8_own ml_X8_122 ck_X8 FM ⟨Nat.le_of_ble_eq_true rfl, Nat.le_of_ble_eq_true rfl⟩ rfl rfl (Nat.le_of_ble_eq_true rfl) dX8_starter_41 (fn_i ?_)
          rw [show (w 20 5 (17 + 14 * found + 1).toNat : Int) = u 11 found.toNat from (by rw [show (17 + 14 * found + 1).toNat = 18 + 14 * found.toNat by omega]; exact (rM found.toNat (by omega)).2.1)]
          refine g_icmp_gt (tgt := 51) X dX8_starter_44 (by decide) (by unfold InR; omega) (by have := hhf (by omega); unfold InR; omega) (fun c_44 => ?_) (fun c_44 => ?_)
          · skip
            refine g_iload_n X dX8_starter_51 rfl 2 rfl ?_
            refine g_lv (lv' := [(0, .ref (gAd G 20)), (1, .int (iI tick)), (2, .int (iI found)), (3, .int (iI k))]) [0, 1, 2, 3] rfl ?_
            exact J_52 found (by
                rw [ht] at c_23
                first
                | rw [if_neg (fun h => of_zero c_23 h.1)]
                | rw [if_pos ⟨of_one c_23, by omega⟩]
                | rw [if_neg (fun h => by have := h.2; omega)])
          · skip
            refine g_iload_n X dX8_starter_47 rfl 3 rfl ?_
            refine g_goto (tgt := 52) X dX8_starter_48 (by decide) ?_
            refine g_lv (lv' := [(0, .ref (gAd G 20)), (1, .int (iI tick)), (2, .int (iI found)), (3, .int (iI k))]) [0, 1, 2, 3] rfl ?_
            exact J_52 k (by
                rw [ht] at c_23
                first
                | rw [if_neg (fun h => of_zero c_23 h.1)]
                | rw [if_pos ⟨of_one c_23, by omega⟩]
                | rw [if_neg (fun h => by have := h.2; omega)])
set_option maxHeartbeats 4000000 in
set_option maxRecDepth 100000 in
theorem c_X8_stopper (l : Launch) (G : Ly) (tick : Int) (pl : Nat → Nat → Int) (u : Nat → Nat → Int) (B : Int) (w : Wd) (FM : gOb G 20 = some 8) (hT : PlR pl (w 20 4)) (hp : PV pl) (hR : RS u (w 20 5)) (hS : SV B (pl 0 0) u) (hU : SU (pl 0 0) u) (hB : B ≤ 99000) (ht : tick = u 1 0) : Mi l yX8_stopper cX8_stopper 5 (some .int) 1 22 G [.ref (gAd G 20), .int (iI tick)] w (fun z w2 => z = (npX pl u (pl 0 0).toNat) ∧ w2 = w) := by
  refine mi_of (lv := [(0, .ref (gAd G 20)), (1, .int (iI tick))]) (by decide) (Nat.le_of_ble_eq_true rfl) rfl ?_
  intro p_ e_ s_ m_ b_ h_ c_ X
  have hp0 := hp.1
  have hp7 := hp.2.2
  have t36 := hT.1
  have sT := hS.1
  have sB := hS.2.1
  have sC := hS.2.2.1
  have sD := hS.2.2.2.1
  have sE := hS.2.2.2.2.1
  have sF := hS.2.2.2.2.2.1
  have sG := hS.2.2.2.2.2.2.1
  have sH := hS.2.2.2.2.2.2.2
  have rT := hR.1
  have rB := hR.2.1
  have rL := hR.2.2.1
  have rM := hR.2.2.2
  have uA := hU.1
  have hrun := bt_or (s := u 6 0) (t := u 7 0) (by omega) (by omega) (by omega) (by omega)
  have t37 : w 20 4 37 = pl 7 0 := hT.2.2 7 (by decide) (by decide)
  refine g_bipush X dX8_stopper_0 (by decide) ?_
  refine g_istore_n (lv' := [(2, .int (iI (-4))), (0, .ref (gAd G 20)), (1, .int (iI tick))]) X dX8_stopper_2 rfl (by decide) rfl ?_
  refine g_iconst X dX8_stopper_3 ?_
  refine g_istore_n (lv' := [(3, .int (iI 0)), (2, .int (iI (-4))), (0, .ref (gAd G 20)), (1, .int (iI tick))]) X dX8_stopper_4 rfl (by decide) rfl ?_
  refine g_lv (lv' := [(0, .ref (gAd G 20)), (1, .int (iI tick)), (2, .int (iI (-4))), (3, .int (iI 0))]) [2, 3, 1, 0] rfl ?_
  refine g_loop2 (fun (found : Int) (k : Int) => [(0, .ref (gAd G 20)), (1, .int (iI tick)), (2, .int (iI found)), (3, .int (iI k))]) (fun (found : Int) (k : Int) => w) (fun (found : Int) (k : Int) => (0 ≤ k) ∧ (k ≤ pl 0 0) ∧ (found = npX pl u k.toNat)) (fun (found : Int) (k : Int) => (pl 0 0 - k).toNat) (-4) 0 ⟨(by first | omega | rfl | assumption), (by first | omega | rfl | assumption), (by rfl)⟩ ?_
  intro found k hI_5 ih_5
  obtain ⟨h0, h1, hf⟩ := hI_5
  try dsimp only at ih_5 ⊢
  refine g_iload_n X dX8_stopper_5 rfl 3 rfl ?_
  refine g_aload_n X dX8_stopper_6 rfl 0 rfl ?_
  refine g_geta X ck_X8 FM 4 (by decide) fl_X8_16 rfl dX8_stopper_7 ?_
  refine g_bipush X dX8_stopper_10 (by decide) ?_
  refine h_iald (a := 36) (j := 36) X rfl FM (by decide) (show fkX 8 4 = (1, 44) from rfl) (by decide) (by omega) (by omega) dX8_stopper_12 ?_
  refine g_icmp_ge (tgt := 89) X dX8_stopper_13 (by decide) (by unfold InR; omega) (by unfold InR; omega) (fun c_13 => ?_) (fun c_13 => ?_)
  · skip
    refine g_iload_n X dX8_stopper_89 rfl 2 rfl ?_
    exact g_iret X rfl rfl dX8_stopper_90 (by exact ⟨by rw [hf, show k = pl 0 0 by omega], rfl⟩)
  · skip
    have hk6 : k.toNat < 6 := by omega
    have hh := sF k.toNat hk6
    have t6 := tb01 (u 6 0) k.toNat
    have t7 := tb01 (u 7 0) k.toNat
    have ua := uA k.toNat hk6
    have hin := npX_in pl u k.toNat
    have hhf : 0 ≤ found → 0 ≤ u 11 found.toNat ∧ u 11 found.toNat ≤ B := fun h => (sF found.toNat (by omega)).1
    have hs1 := (rM k.toNat hk6).2.2.2.2.2 0 (by decide)
    rw [show ((k.toNat : Nat) : Int) = k by omega] at hs1
    have hs1' : sbX u k 1 = w 20 5 (22 + 14 * k.toNat) ∨ (sbX u k 1 = -100000 ∧ w 20 5 (22 + 14 * k.toNat) = -1000) := hs1
    have hsr : -100000 ≤ sbX u k 1 ∧ sbX u k 1 ≤ 100000 := by
      unfold sbX
      split
      · omega
      · have := sG (k * 9 + (u 12 k.toNat - 1) % 9).toNat (by omega)
        omega
    have hstep : npX pl u (k.toNat + 1) = if tb (u 7 0) k.toNat = 1 ∧ pl 7 0 < u 1 0 - sbX u k 1 ∧ (found = -4 ∨ u 11 found.toNat ≤ u 11 k.toNat) then k else found := by
      show (if tb (u 7 0) k.toNat = 1 ∧ pl 7 0 < u 1 0 - sbX u ((k.toNat : Nat) : Int) 1 ∧ (npX pl u k.toNat = -4 ∨ u 11 (npX pl u k.toNat).toNat ≤ u 11 k.toNat) then ((k.toNat : Nat) : Int) else npX pl u k.toNat) = _
      rw [show ((k.toNat : Nat) : Int) = k by omega, ← hf]
    refine g_aload_n X dX8_stopper_16 rfl 0 rfl ?_
    refine g_cut1 (pc' := 82) (fun (f2 : Int) => [(0, .ref (gAd G 20)), (1, .int (iI tick)), (2, .int (iI found)), (3, .int (iI k))]) (fun (f2 : Int) => [.int (iI f2)]) (fun (f2 : Int) => w) (fun (f2 : Int) => (f2 = npX pl u (k.toNat + 1))) ?_ ?_
    · intro f2 hI_82
      have hf2 := hI_82
      try dsimp only at hf2 ⊢
      refine g_istore_n (lv' := [(2, .int (iI f2)), (0, .ref (gAd G 20)), (1, .int (iI tick)), (3, .int (iI k))]) X dX8_stopper_82 rfl (by decide) rfl ?_
      refine g_iinc (j := 3) (lv' := [(3, .int (iI (k + 1))), (2, .int (iI f2)), (0, .ref (gAd G 20)), (1, .int (iI tick))]) X dX8_stopper_83 rfl (by decide) rfl ?_
      refine g_goto (tgt := 5) X dX8_stopper_86 (by decide) ?_
      refine g_lv (lv' := [(0, .ref (gAd G 20)), (1, .int (iI tick)), (2, .int (iI f2)), (3, .int (iI (k + 1)))]) [2, 3, 1, 0] rfl ?_
      exact ih_5 f2 (k + 1) ⟨(by first | omega | rfl | assumption), (by first | omega | rfl | assumption), (by rw [show (k + 1).toNat = k.toNat + 1 by omega]; exact hf2)⟩ (by omega)
    · intro J_82
      try dsimp only at J_82
      refine g_cut1 (pc' := 49) (fun (y : Int) => [(0, .ref (gAd G 20)), (1, .int (iI tick)), (2, .int (iI found)), (3, .int (iI k))]) (fun (y : Int) => [.int (iI y)]) (fun (y : Int) => w) (fun (y : Int) => ((y = 1 ∧ tb (u 7 0) k.toNat = 1 ∧ pl 7 0 < u 1 0 - sbX u k 1) ∨ (y = 0 ∧ ¬ (tb (u 7 0) k.toNat = 1 ∧ pl 7 0 < u 1 0 - sbX u k 1)))) ?_ ?_
      · intro y hI_49
        have hy := hI_49
        try dsimp only at hy ⊢
        refine g_istore (lv' := [(4, .int (iI y)), (0, .ref (gAd G 20)), (1, .int (iI tick)), (2, .int (iI found)), (3, .int (iI k))]) X dX8_stopper_49 (by decide) rfl ?_
        refine g_iload X dX8_stopper_51 0 rfl ?_
        refine g_if_eq (tgt := 81) X dX8_stopper_53 (by decide) (by rcases hy with q | q <;> (rw [q.1]; exact ⟨by decide, by decide⟩)) (fun c_53 => ?_) (fun c_53 => ?_)
        · skip
          refine g_iload_n X dX8_stopper_81 rfl 3 rfl ?_
          refine g_lv (lv' := [(0, .ref (gAd G 20)), (1, .int (iI tick)), (2, .int (iI found)), (3, .int (iI k))]) [1, 2, 3, 4] rfl ?_
          exact J_82 found (by
              rw [hstep]
              first
              | rw [if_pos (by omega)]
              | rw [if_neg (by omega)])
        · skip
          refine g_iload_n X dX8_stopper_56 rfl 3 rfl ?_
          refine g_bipush X dX8_stopper_57 (by decide) ?_
          refine g_icmp_eq (tgt := 77) X dX8_stopper_59 (by decide) (by unfold InR; omega) ⟨by decide, by decide⟩ (fun c_59 => ?_) (fun c_59 => ?_)
          · skip
            refine g_iload_n X dX8_stopper_77 rfl 4 rfl ?_
            refine g_goto (tgt := 82) X dX8_stopper_78 (by decide) ?_
            refine g_lv (lv' := [(0, .ref (gAd G 20)), (1, .int (iI tick)), (2, .int (iI found)), (3, .int (iI k))]) [1, 2, 3, 4] rfl ?_
            exact J_82 k (by
                rw [hstep]
                first
                | rw [if_pos (by omega)]
                | rw [if_neg (by omega)])
          · skip
            refine g_aload_n X dX8_stopper_62 rfl 1 rfl ?_
            refine g_iload_n X dX8_stopper_63 rfl 4 rfl ?_
            refine g_iconst X dX8_stopper_64 ?_
            refine g_calli (st := []) X (c_X8_own l G k 1 w FM (by first | assumption | omega | (unfold InR; omega)) (by first | assumption | omega | (unfold InR; omega))) cm_X8_own im_X8_own se_X8_own ml_X8_122 ck_X8 FM ⟨Nat.le_of_ble_eq_true rfl, Nat.le_of_ble_eq_true rfl⟩ rfl rfl (Nat.le_of_ble_eq_true rfl) dX8_stopper_65 (fn_i ?_)
            rw [show (w 20 5 (17 + 14 * k + 1).toNat : Int) = u 11 k.toNat from (by rw [show (17 + 14 * k + 1).toNat = 18 + 14 * k.toNat by omega]; exact (rM k.toNat (by omega)).2.1)]
            refine g_aload_n X dX8_stopper_68 rfl 1 rfl ?_
            refine g_iload_n X dX8_stopper_69 rfl 3 rfl ?_
            refine g_iconst X dX8_stopper_70 ?_
            refine g_calli (st := [.int (iI (u 11 k.toNat))]) X (c_X8_own l G found 1 w FM (by omega) (by first | assumption | omega | (unfold InR; omega))) cm_X8_own im_X8_own se_X8_own ml_X8_122 ck_X8 FM ⟨Nat.le_of_ble_eq_true rfl, Nat.le_of_ble_eq_true rfl⟩ rfl rfl (Nat.le_of_ble_eq_true rfl) dX8_stopper_71 (fn_i ?_)
            rw [show (w 20 5 (17 + 14 * found + 1).toNat : Int) = u 11 found.toNat from (by rw [show (17 + 14 * found + 1).toNat = 18 + 14 * found.toNat by omega]; exact (rM found.toNat (by omega)).2.1)]
            refine g_icmp_lt (tgt := 81) X dX8_stopper_74 (by decide) (by unfold InR; omega) (by have := hhf (by omega); unfold InR; omega) (fun c_74 => ?_) (fun c_74 => ?_)
            · skip
              refine g_iload_n X dX8_stopper_81 rfl 3 rfl ?_
              refine g_lv (lv' := [(0, .ref (gAd G 20)), (1, .int (iI tick)), (2, .int (iI found)), (3, .int (iI k))]) [1, 2, 3, 4] rfl ?_
              exact J_82 found (by
                  rw [hstep]
                  first
                  | rw [if_pos (by omega)]
                  | rw [if_neg (by omega)])
            · skip
              refine g_iload_n X dX8_stopper_77 rfl 4 rfl ?_
              refine g_goto (tgt := 82) X dX8_stopper_78 (by decide) ?_
              refine g_lv (lv' := [(0, .ref (gAd G 20)), (1, .int (iI tick)), (2, .int (iI found)), (3, .int (iI k))]) [1, 2, 3, 4] rfl ?_
              exact J_82 k (by
                  rw [hstep]
                  first
                  | rw [if_pos (by omega)]
                  | rw [if_neg (by omega)])
      · intro J_49
        try dsimp only at J_49
        refine g_iload_n X dX8_stopper_17 rfl 3 rfl ?_
        refine g_iconst X dX8_stopper_18 ?_
        refine g_calli (st := []) X (c_X8_own l G k 0 w FM (by first | assumption | omega | (unfold InR; omega)) (by first | assumption | omega | (unfold InR; omega))) cm_X8_own im_X8_own se_X8_own ml_X8_122 ck_X8 FM ⟨Nat.le_of_ble_eq_true rfl, Nat.le_of_ble_eq_true rfl⟩ rfl rfl (Nat.le_of_ble_eq_true rfl) dX8_stopper_19 (fn_i ?_)
        rw [show (w 20 5 (17 + 14 * k + 0).toNat : Int) = tb (u 6 0) k.toNat + 2 * tb (u 7 0) k.toNat from (by rw [show (17 + 14 * k + 0).toNat = 17 + 14 * k.toNat by omega]; exact (rM k.toNat hk6).1)]
        refine g_iconst X dX8_stopper_22 ?_
        refine g_icmp_ne (tgt := 48) X dX8_stopper_23 (by decide) (by unfold InR; omega) ⟨by decide, by decide⟩ (fun c_23 => ?_) (fun c_23 => ?_)
        · skip
          refine g_iconst X dX8_stopper_48 ?_
          refine g_lv (lv' := [(0, .ref (gAd G 20)), (1, .int (iI tick)), (2, .int (iI found)), (3, .int (iI k))]) [0, 1, 2, 3] rfl ?_
          exact J_49 0 (by first | exact Or.inl ⟨rfl, by omega, by omega⟩ | exact Or.inr ⟨rfl, by omega⟩)
        · skip
          refine g_iload_n X dX8_stopper_26 rfl 1 rfl ?_
          refine g_aload_n X dX8_stopper_27 rfl 0 rfl ?_
          refine g_iload_n X dX8_stopper_28 rfl 3 rfl ?_
          refine g_iconst X dX8_stopper_29 ?_
          refine g_calli (st := [.int (iI tick)]) X (c_X8_own l G k 5 w FM (by first | assumption | omega | (unfold InR; omega)) (by first | assumption | omega | (unfold InR; omega))) cm_X8_own im_X8_own se_X8_own ml_X8_122 ck_X8 FM ⟨Nat.le_of_ble_eq_true rfl, Nat.le_of_ble_eq_true rfl⟩ rfl rfl (Nat.le_of_ble_eq_true rfl) dX8_stopper_30 (fn_i ?_)
          rw [show (w 20 5 (17 + 14 * k + 5).toNat : Int) = w 20 5 (22 + 14 * k.toNat) from (by congr 1; omega)]
          refine g_isub X dX8_stopper_33 ?_
          refine g_aload_n X dX8_stopper_34 rfl 0 rfl ?_
          refine g_geta X ck_X8 FM 4 (by decide) fl_X8_16 rfl dX8_stopper_35 ?_
          refine g_bipush X dX8_stopper_38 (by decide) ?_
          refine h_iald (a := 37) (j := 37) X rfl FM (by decide) (show fkX 8 4 = (1, 44) from rfl) (by decide) (by omega) (by omega) dX8_stopper_40 ?_
          refine g_icmp_le (tgt := 48) X dX8_stopper_41 (by decide) (by unfold InR; omega) (by unfold InR; omega) (fun c_41 => ?_) (fun c_41 => ?_)
          · skip
            refine g_iconst X dX8_stopper_48 ?_
            refine g_lv (lv' := [(0, .ref (gAd G 20)), (1, .int (iI tick)), (2, .int (iI found)), (3, .int (iI k))]) [0, 1, 2, 3] rfl ?_
            exact J_49 0 (by first | exact Or.inl ⟨rfl, by omega, by omega⟩ | exact Or.inr ⟨rfl, by omega⟩)
          · skip
            refine g_iconst X dX8_stopper_44 ?_
            refine g_goto (tgt := 49) X dX8_stopper_45 (by decide) ?_
            refine g_lv (lv' := [(0, .ref (gAd G 20)), (1, .int (iI tick)), (2, .int (iI found)), (3, .int (iI k))]) [0, 1, 2, 3] rfl ?_
            exact J_49 1 (by first | exact Or.inl ⟨rfl, by omega, by omega⟩ | exact Or.inr ⟨rfl, by omega⟩)
set_option maxHeartbeats 4000000 in
set_option maxRecDepth 100000 in
theorem c_X8_placeInList (l : Launch) (G : Ly) (m : Int) (pl : Nat → Nat → Int) (u : Nat → Nat → Int) (B : Int) (w : Wd) (FM : gOb G 20 = some 8) (hT : PlR pl (w 20 4)) (hp : PV pl) (hR : RS u (w 20 5)) (hS : SV B (pl 0 0) u) (hU : SU (pl 0 0) u) (hB : B ≤ 99000) (hm : InR m) : Mi l yX8_placeInList cX8_placeInList 4 (some .int) 0 0 G [.ref (gAd G 20), .int (iI m)] w (fun z w2 => z = (pil (u 10) m (u 9 0).toNat (u 9 0).toNat) ∧ w2 = w) := by
  refine mi_of (lv := [(0, .ref (gAd G 20)), (1, .int (iI m))]) (by decide) (Nat.le_of_ble_eq_true rfl) rfl ?_
  intro p_ e_ s_ m_ b_ h_ c_ X
  have hp0 := hp.1
  have hp7 := hp.2.2
  have t36 := hT.1
  have sT := hS.1
  have sB := hS.2.1
  have sC := hS.2.2.1
  have sD := hS.2.2.2.1
  have sE := hS.2.2.2.2.1
  have sF := hS.2.2.2.2.2.1
  have sG := hS.2.2.2.2.2.2.1
  have sH := hS.2.2.2.2.2.2.2
  have rT := hR.1
  have rB := hR.2.1
  have rL := hR.2.2.1
  have rM := hR.2.2.2
  have uA := hU.1
  have hrun := bt_or (s := u 6 0) (t := u 7 0) (by omega) (by omega) (by omega) (by omega)
  refine g_bipush X dX8_placeInList_0 (by decide) ?_
  refine g_istore_n (lv' := [(2, .int (iI (-4))), (0, .ref (gAd G 20)), (1, .int (iI m))]) X dX8_placeInList_2 rfl (by decide) rfl ?_
  refine g_iconst X dX8_placeInList_3 ?_
  refine g_istore_n (lv' := [(3, .int (iI 0)), (2, .int (iI (-4))), (0, .ref (gAd G 20)), (1, .int (iI m))]) X dX8_placeInList_4 rfl (by decide) rfl ?_
  refine g_lv (lv' := [(0, .ref (gAd G 20)), (1, .int (iI m)), (2, .int (iI (-4))), (3, .int (iI 0))]) [2, 3, 1, 0] rfl ?_
  refine g_loop2 (fun (found : Int) (k : Int) => [(0, .ref (gAd G 20)), (1, .int (iI m)), (2, .int (iI found)), (3, .int (iI k))]) (fun (found : Int) (k : Int) => w) (fun (found : Int) (k : Int) => (0 ≤ k) ∧ (k ≤ u 9 0) ∧ ((found = -4 ∧ ∀ j : Nat, (j : Int) < k → u 10 j ≠ m) ∨ (0 ≤ found ∧ found < k ∧ u 10 found.toNat = m))) (fun (found : Int) (k : Int) => (u 9 0 - k).toNat) (-4) 0 ⟨(by first | omega | rfl | assumption), (by first | omega | rfl | assumption), (by exact Or.inl ⟨rfl, fun j hj => by omega⟩)⟩ ?_
  intro found k hI_5 ih_5
  obtain ⟨h0, h1, hf⟩ := hI_5
  try dsimp only at ih_5 ⊢
  refine g_iload_n X dX8_placeInList_5 rfl 3 rfl ?_
  refine g_aload_n X dX8_placeInList_6 rfl 0 rfl ?_
  refine g_geta X ck_X8 FM 5 (by decide) fl_X8_19 rfl dX8_placeInList_7 ?_
  refine g_bipush X dX8_placeInList_10 (by decide) ?_
  refine h_iald (a := 10) (j := 10) X rfl FM (by decide) (show fkX 8 5 = (1, 101) from rfl) (by decide) (by omega) (by omega) dX8_placeInList_12 ?_
  refine g_icmp_ge (tgt := 41) X dX8_placeInList_13 (by decide) (by unfold InR; omega) (by unfold InR; omega) (fun c_13 => ?_) (fun c_13 => ?_)
  · skip
    refine g_iload_n X dX8_placeInList_41 rfl 2 rfl ?_
    exact g_iret X rfl rfl dX8_placeInList_42 (by
        refine ⟨?_, rfl⟩
        have hk : k = u 9 0 := by omega
        rw [hk] at hf
        exact pil_uq (fun i j a b => hU.2.1 i j a (by omega)) (by
          rcases hf with q | q
          · exact Or.inl ⟨q.1, fun j hj => q.2 j (by omega)⟩
          · exact Or.inr ⟨q.1, by omega, q.2.2⟩))
  · skip
    have hk := sE k.toNat (by omega)
    refine g_aload_n X dX8_placeInList_16 rfl 0 rfl ?_
    refine g_cut1 (pc' := 34) (fun (f2 : Int) => [(0, .ref (gAd G 20)), (1, .int (iI m)), (2, .int (iI found)), (3, .int (iI k))]) (fun (f2 : Int) => [.int (iI f2)]) (fun (f2 : Int) => w) (fun (f2 : Int) => ((f2 = -4 ∧ ∀ j : Nat, (j : Int) < k + 1 → u 10 j ≠ m) ∨ (0 ≤ f2 ∧ f2 < k + 1 ∧ u 10 f2.toNat = m))) ?_ ?_
    · intro f2 hI_34
      have hf2 := hI_34
      try dsimp only at hf2 ⊢
      refine g_istore_n (lv' := [(2, .int (iI f2)), (0, .ref (gAd G 20)), (1, .int (iI m)), (3, .int (iI k))]) X dX8_placeInList_34 rfl (by decide) rfl ?_
      refine g_iinc (j := 3) (lv' := [(3, .int (iI (k + 1))), (2, .int (iI f2)), (0, .ref (gAd G 20)), (1, .int (iI m))]) X dX8_placeInList_35 rfl (by decide) rfl ?_
      refine g_goto (tgt := 5) X dX8_placeInList_38 (by decide) ?_
      refine g_lv (lv' := [(0, .ref (gAd G 20)), (1, .int (iI m)), (2, .int (iI f2)), (3, .int (iI (k + 1)))]) [2, 3, 1, 0] rfl ?_
      exact ih_5 f2 (k + 1) ⟨(by first | omega | rfl | assumption), (by first | omega | rfl | assumption), (by first | omega | rfl | assumption)⟩ (by omega)
    · intro J_34
      try dsimp only at J_34
      refine g_geta X ck_X8 FM 5 (by decide) fl_X8_19 rfl dX8_placeInList_17 ?_
      refine g_bipush X dX8_placeInList_20 (by decide) ?_
      refine g_iload_n X dX8_placeInList_22 rfl 3 rfl ?_
      refine g_iadd X dX8_placeInList_23 ?_
      refine h_iald (a := 11 + k) (j := (11 + k).toNat) X rfl FM (by decide) (show fkX 8 5 = (1, 101) from rfl) (by decide) (by omega) (by omega) dX8_placeInList_24 ?_
      rw [show (w 20 5 (11 + k).toNat : Int) = u 10 k.toNat from (by rw [show (11 + k).toNat = 11 + k.toNat by omega]; exact rL k.toNat (by omega) (by omega))]
      refine g_iload_n X dX8_placeInList_25 rfl 1 rfl ?_
      refine g_icmp_ne (tgt := 33) X dX8_placeInList_26 (by decide) (by unfold InR; omega) (by exact hm) (fun c_26 => ?_) (fun c_26 => ?_)
      · skip
        refine g_iload_n X dX8_placeInList_33 rfl 2 rfl ?_
        refine g_lv (lv' := [(0, .ref (gAd G 20)), (1, .int (iI m)), (2, .int (iI found)), (3, .int (iI k))]) [0, 1, 2, 3] rfl ?_
        exact J_34 found (by
            first
            | exact Or.inr ⟨h0, by omega, Classical.not_not.mp c_26⟩
            | exact Or.inr ⟨h0, by omega, c_26⟩
            | (rcases hf with q | q
               · refine Or.inl ⟨q.1, fun j hj => ?_⟩
                 rcases Int.lt_or_le (j : Int) k with e | e
                 · exact q.2 j e
                 · rw [show j = k.toNat by omega]; exact c_26
               · exact Or.inr ⟨q.1, by omega, q.2.2⟩))
      · skip
        refine g_iload_n X dX8_placeInList_29 rfl 3 rfl ?_
        refine g_goto (tgt := 34) X dX8_placeInList_30 (by decide) ?_
        refine g_lv (lv' := [(0, .ref (gAd G 20)), (1, .int (iI m)), (2, .int (iI found)), (3, .int (iI k))]) [0, 1, 2, 3] rfl ?_
        exact J_34 k (by
            first
            | exact Or.inr ⟨h0, by omega, Classical.not_not.mp c_26⟩
            | exact Or.inr ⟨h0, by omega, c_26⟩
            | (rcases hf with q | q
               · refine Or.inl ⟨q.1, fun j hj => ?_⟩
                 rcases Int.lt_or_le (j : Int) k with e | e
                 · exact q.2 j e
                 · rw [show j = k.toNat by omega]; exact c_26
               · exact Or.inr ⟨q.1, by omega, q.2.2⟩))
set_option maxHeartbeats 4000000 in
set_option maxRecDepth 100000 in
theorem c_X8_note (l : Launch) (G : Ly)  (w : Wd) (FM : gOb G 20 = some 8) (hc : 0 ≤ w 20 8 0 ∧ w 20 8 0 ≤ 4) : Mv l yX8_note cX8_note 2 none 0 0 G [.ref (gAd G 20)] w (fun w2 => (∀ o f, ¬ (o = 20 ∧ (f = 7 ∨ f = 8)) → w2 o f = w o f) ∧ w2 20 8 0 = min 4 (w 20 8 0 + 1) ∧ ∀ i k : Nat, (i : Int) < min 4 (w 20 8 0 + 1) → k < 101 → w2 20 7 (101 * i + k) = if (i : Int) + 1 = min 4 (w 20 8 0 + 1) then w 20 5 k else if w 20 8 0 = 4 then w 20 7 (101 * (i + 1) + k) else w 20 7 (101 * i + k)) := by
  refine mv_of (lv := [(0, .ref (gAd G 20))]) (by decide) (Nat.le_of_ble_eq_true rfl) rfl ?_
  intro p_ e_ s_ m_ b_ h_ c_ X
  refine g_aload_n X dX8_note_0 rfl 0 rfl ?_
  refine g_geti X ck_X8 FM 8 (by decide) fl_X8_47 (Or.inl rfl) dX8_note_1 ?_
  refine g_cut1 (pc' := 48) (fun (w2 : Wd) => [(0, .ref (gAd G 20))]) (fun (w2 : Wd) => []) (fun (w2 : Wd) => w2) (fun (w2 : Wd) => (w2 20 8 0 = min 3 (w 20 8 0)) ∧ (∀ o f, ¬ (o = 20 ∧ (f = 7 ∨ f = 8)) → w2 o f = w o f) ∧ (∀ j : Nat, j < 303 → w2 20 7 j = if w 20 8 0 = 4 then w 20 7 (j + 101) else w 20 7 j)) ?_ ?_
  · intro w2 hI_48
    obtain ⟨g8, gfr, gp⟩ := hI_48
    try dsimp only
    refine g_iconst X dX8_note_48 ?_
    refine g_istore_n (lv' := [(1, .int (iI 0)), (0, .ref (gAd G 20))]) X dX8_note_49 rfl (by decide) rfl ?_
    refine g_lv (lv' := [(0, .ref (gAd G 20)), (1, .int (iI 0))]) [1, 0] rfl ?_
    refine g_loop2 (fun (k : Int) (w3 : Wd) => [(0, .ref (gAd G 20)), (1, .int (iI k))]) (fun (k : Int) (w3 : Wd) => w3) (fun (k : Int) (w3 : Wd) => (0 ≤ k) ∧ (k ≤ 101) ∧ (∀ o f, ¬ (o = 20 ∧ (f = 7 ∨ f = 8)) → w3 o f = w o f) ∧ (w3 20 8 0 = min 3 (w 20 8 0)) ∧ (∀ j : Nat, w3 20 7 j = if 101 * min 3 (w 20 8 0) ≤ j ∧ (j : Int) < 101 * min 3 (w 20 8 0) + k then w 20 5 (j - 101 * (min 3 (w 20 8 0)).toNat) else w2 20 7 j)) (fun (k : Int) (w3 : Wd) => (101 - k).toNat) 0 w2 ⟨(by first | omega | rfl | assumption), (by first | omega | rfl | assumption), (by exact gfr), (by exact g8), (by intro j; rw [if_neg (by omega)])⟩ ?_
    intro k w3 hI_50 ih_50
    obtain ⟨j0, j1, kfr, k8, kq⟩ := hI_50
    try dsimp only at ih_50 ⊢
    have k5 : w3 20 5 = w 20 5 := kfr 20 5 (by decide)
    refine g_iload_n X dX8_note_50 rfl 1 rfl ?_
    refine g_bipush X dX8_note_51 (by decide) ?_
    refine g_icmp_ge (tgt := 82) X dX8_note_53 (by decide) (by unfold InR; omega) ⟨by decide, by decide⟩ (fun c_53 => ?_) (fun c_53 => ?_)
    · skip
      refine g_aload_n X dX8_note_82 rfl 0 rfl ?_
      refine g_dup X dX8_note_83 rfl ?_
      refine g_geti X ck_X8 FM 8 (by decide) fl_X8_47 (Or.inl rfl) dX8_note_84 ?_
      refine g_iconst X dX8_note_87 ?_
      refine g_iadd X dX8_note_88 ?_
      refine g_puti X ck_X8 FM 8 (by decide) fl_X8_47 rfl rfl rfl dX8_note_89 ?_
      obtain ⟨w_1, ew_1⟩ : ∃ q_ : Wd, q_ = up w3 20 8 0 ((w3 20 8 0) + 1) := ⟨_, rfl⟩
      refine g_w (w' := w_1) ew_1 ?_
      exact g_vret X rfl dX8_note_92 (by
          refine ⟨fun o f h => ?_, ?_, fun i j hi hj => ?_⟩
          · rw [ew_1, up_fn (fun z => h ⟨z.1, Or.inr z.2⟩)]; exact kfr o f h
          · rw [ew_1, up_at, k8]; omega
          · rw [ew_1, up_fn (by decide), kq]
            by_cases e : (i : Int) + 1 = min 4 (w 20 8 0 + 1)
            · rw [if_pos e, if_pos (by omega)]
              congr 1
              omega
            · rw [if_neg e, if_neg (by omega), gp _ (by omega)]
              by_cases e2 : w 20 8 0 = 4
              · rw [if_pos e2, if_pos e2]
                congr 1
                omega
              · rw [if_neg e2, if_neg e2])
    · skip
      refine g_aload_n X dX8_note_56 rfl 0 rfl ?_
      refine g_geta X ck_X8 FM 7 (by decide) fl_X8_25 rfl dX8_note_57 ?_
      refine g_bipush X dX8_note_60 (by decide) ?_
      refine g_aload_n X dX8_note_62 rfl 0 rfl ?_
      refine g_geti X ck_X8 FM 8 (by decide) fl_X8_47 (Or.inl rfl) dX8_note_63 ?_
      refine g_imul X dX8_note_66 ?_
      refine g_iload_n X dX8_note_67 rfl 1 rfl ?_
      refine g_iadd X dX8_note_68 ?_
      refine g_aload_n X dX8_note_69 rfl 0 rfl ?_
      refine g_geta X ck_X8 FM 5 (by decide) fl_X8_19 rfl dX8_note_70 ?_
      refine g_iload_n X dX8_note_73 rfl 1 rfl ?_
      refine h_iald (a := k) (j := (k).toNat) X rfl FM (by decide) (show fkX 8 5 = (1, 101) from rfl) (by decide) (by omega) (by omega) dX8_note_74 ?_
      refine h_iast (a := (101 * (w3 20 8 0)) + k) (j := ((101 * (w3 20 8 0)) + k).toNat) X rfl FM (by decide) (show fkX 8 7 = (1, 404) from rfl) (by decide) (by omega) (by omega) dX8_note_75 ?_
      obtain ⟨w_2, ew_2⟩ : ∃ q_ : Wd, q_ = up w3 20 7 ((101 * (w3 20 8 0)) + k).toNat (w3 20 5 (k).toNat) := ⟨_, rfl⟩
      refine g_w (w' := w_2) ew_2 ?_
      refine g_iinc (j := 1) (lv' := [(1, .int (iI (k + 1))), (0, .ref (gAd G 20))]) X dX8_note_76 rfl (by decide) rfl ?_
      refine g_goto (tgt := 50) X dX8_note_79 (by decide) ?_
      refine g_lv (lv' := [(0, .ref (gAd G 20)), (1, .int (iI (k + 1)))]) [1, 0] rfl ?_
      exact ih_50 (k + 1) w_2 ⟨(by first | omega | rfl | assumption), (by first | omega | rfl | assumption), (by intro o f h; rw [ew_2, up_fn (fun z => h ⟨z.1, Or.inl z.2⟩)]; exact kfr o f h), (by rw [ew_2, up_fn (by decide)]; exact k8), (by
          intro j
          rw [ew_2, k8, k5]
          by_cases e : j = (101 * min 3 (w 20 8 0) + k).toNat
          · rw [e, up_at, if_pos (by omega)]
            congr 1
            omega
          · rw [up_ne (fun z => e z.2.2), kq]
            by_cases e2 : 101 * min 3 (w 20 8 0) ≤ j ∧ (j : Int) < 101 * min 3 (w 20 8 0) + k
            · rw [if_pos e2, if_pos (by omega)]
            · rw [if_neg e2, if_neg (by omega)])⟩ (by omega)
  · intro J_48
    try dsimp only at J_48
    refine g_iconst X dX8_note_4 ?_
    refine g_icmp_ne (tgt := 48) X dX8_note_5 (by decide) (by unfold InR; omega) ⟨by decide, by decide⟩ (fun c_5 => ?_) (fun c_5 => ?_)
    · skip
      refine g_lv (lv' := [(0, .ref (gAd G 20))]) [0] rfl ?_
      exact J_48 w ⟨(by
          first
          | omega
          | (rw [up_at]
             have := congrFun (hfr 20 8 (by decide)) 0
             omega)), (by
          first
          | exact fun _ _ _ => rfl
          | (intro o f h
             rw [up_fn (fun z => h ⟨z.1, Or.inr z.2⟩)]
             exact hfr o f (fun z => h ⟨z.1, Or.inl z.2⟩))), (by
          intro j hj
          first
          | (rw [if_neg (by omega)])
          | (rw [up_fn (by decide), hp, if_pos (by omega), if_pos (by omega)]))⟩
    · skip
      refine g_iconst X dX8_note_8 ?_
      refine g_istore_n (lv' := [(1, .int (iI 0)), (0, .ref (gAd G 20))]) X dX8_note_9 rfl (by decide) rfl ?_
      refine g_lv (lv' := [(0, .ref (gAd G 20)), (1, .int (iI 0))]) [1, 0] rfl ?_
      refine g_loop2 (fun (k : Int) (w1 : Wd) => [(0, .ref (gAd G 20)), (1, .int (iI k))]) (fun (k : Int) (w1 : Wd) => w1) (fun (k : Int) (w1 : Wd) => (0 ≤ k) ∧ (k ≤ 303) ∧ (∀ o f, ¬ (o = 20 ∧ f = 7) → w1 o f = w o f) ∧ (∀ j : Nat, w1 20 7 j = if (j : Int) < k then w 20 7 (j + 101) else w 20 7 j)) (fun (k : Int) (w1 : Wd) => (303 - k).toNat) 0 w ⟨(by first | omega | rfl | assumption), (by first | omega | rfl | assumption), (by intro _ _ _; rfl), (by intro j; rw [if_neg (by omega)])⟩ ?_
      intro k w1 hI_10 ih_10
      obtain ⟨h0, h1, hfr, hp⟩ := hI_10
      try dsimp only at ih_10 ⊢
      refine g_iload_n X dX8_note_10 rfl 1 rfl ?_
      refine g_sipush X dX8_note_11 (by decide) ?_
      refine g_icmp_ge (tgt := 38) X dX8_note_14 (by decide) (by unfold InR; omega) ⟨by decide, by decide⟩ (fun c_14 => ?_) (fun c_14 => ?_)
      · skip
        refine g_aload_n X dX8_note_38 rfl 0 rfl ?_
        refine g_dup X dX8_note_39 rfl ?_
        refine g_geti X ck_X8 FM 8 (by decide) fl_X8_47 (Or.inl rfl) dX8_note_40 ?_
        refine g_iconst X dX8_note_43 ?_
        refine g_isub X dX8_note_44 ?_
        refine g_puti X ck_X8 FM 8 (by decide) fl_X8_47 rfl rfl rfl dX8_note_45 ?_
        obtain ⟨w_3, ew_3⟩ : ∃ q_ : Wd, q_ = up w1 20 8 0 ((w1 20 8 0) - 1) := ⟨_, rfl⟩
        refine g_w (w' := w_3) ew_3 ?_
        refine g_lv (lv' := [(0, .ref (gAd G 20))]) [0] rfl ?_
        exact J_48 w_3 ⟨(by
            first
            | omega
            | (rw [ew_3, up_at]
               have := congrFun (hfr 20 8 (by decide)) 0
               omega)), (by
            first
            | exact fun _ _ _ => rfl
            | (intro o f h
               rw [ew_3, up_fn (fun z => h ⟨z.1, Or.inr z.2⟩)]
               exact hfr o f (fun z => h ⟨z.1, Or.inl z.2⟩))), (by
            intro j hj
            first
            | (rw [if_neg (by omega)])
            | (rw [ew_3, up_fn (by decide), hp, if_pos (by omega), if_pos (by omega)]))⟩
      · skip
        refine g_aload_n X dX8_note_17 rfl 0 rfl ?_
        refine g_geta X ck_X8 FM 7 (by decide) fl_X8_25 rfl dX8_note_18 ?_
        refine g_iload_n X dX8_note_21 rfl 1 rfl ?_
        refine g_aload_n X dX8_note_22 rfl 0 rfl ?_
        refine g_geta X ck_X8 FM 7 (by decide) fl_X8_25 rfl dX8_note_23 ?_
        refine g_iload_n X dX8_note_26 rfl 1 rfl ?_
        refine g_bipush X dX8_note_27 (by decide) ?_
        refine g_iadd X dX8_note_29 ?_
        refine h_iald (a := k + 101) (j := (k + 101).toNat) X rfl FM (by decide) (show fkX 8 7 = (1, 404) from rfl) (by decide) (by omega) (by omega) dX8_note_30 ?_
        refine h_iast (a := k) (j := (k).toNat) X rfl FM (by decide) (show fkX 8 7 = (1, 404) from rfl) (by decide) (by omega) (by omega) dX8_note_31 ?_
        obtain ⟨w_4, ew_4⟩ : ∃ q_ : Wd, q_ = up w1 20 7 (k).toNat (w1 20 7 (k + 101).toNat) := ⟨_, rfl⟩
        refine g_w (w' := w_4) ew_4 ?_
        refine g_iinc (j := 1) (lv' := [(1, .int (iI (k + 1))), (0, .ref (gAd G 20))]) X dX8_note_32 rfl (by decide) rfl ?_
        refine g_goto (tgt := 10) X dX8_note_35 (by decide) ?_
        refine g_lv (lv' := [(0, .ref (gAd G 20)), (1, .int (iI (k + 1)))]) [1, 0] rfl ?_
        exact ih_10 (k + 1) w_4 ⟨(by first | omega | rfl | assumption), (by first | omega | rfl | assumption), (by intro o f h; rw [ew_4, up_fn h]; exact hfr o f h), (by
            intro j
            rw [ew_4]
            by_cases e : j = k.toNat
            · rw [e, up_at, hp, if_neg (by omega), if_pos (by omega)]
              congr 1
              omega
            · rw [up_ne (fun z => e z.2.2), hp]
              by_cases e2 : (j : Int) < k
              · rw [if_pos e2, if_pos (by omega)]
              · rw [if_neg e2, if_neg (by omega)])⟩ (by omega)
set_option maxHeartbeats 4000000 in
set_option maxRecDepth 100000 in
theorem c_X8_undo (l : Launch) (G : Ly)  (w : Wd) (FM : gOb G 20 = some 8) (hc : 0 ≤ w 20 8 0 ∧ w 20 8 0 ≤ 4) : Mi l yX8_undo cX8_undo 2 (some .int) 0 0 G [.ref (gAd G 20)] w (fun z w2 => (w 20 8 0 = 0 ∧ z = -2 ∧ w2 = w) ∨ (w 20 8 0 ≠ 0 ∧ z = w 20 8 0 - 1 ∧ (∀ o f, ¬ (o = 20 ∧ (f = 5 ∨ f = 8)) → w2 o f = w o f) ∧ w2 20 8 0 = w 20 8 0 - 1 ∧ ∀ k : Nat, k < 101 → w2 20 5 k = w 20 7 (101 * (w 20 8 0 - 1).toNat + k))) := by
  refine mi_of (lv := [(0, .ref (gAd G 20))]) (by decide) (Nat.le_of_ble_eq_true rfl) rfl ?_
  intro p_ e_ s_ m_ b_ h_ c_ X
  refine g_aload_n X dX8_undo_0 rfl 0 rfl ?_
  refine g_geti X ck_X8 FM 8 (by decide) fl_X8_47 (Or.inl rfl) dX8_undo_1 ?_
  refine g_if_ne (tgt := 10) X dX8_undo_4 (by decide) (by unfold InR; omega) (fun c_4 => ?_) (fun c_4 => ?_)
  · skip
    refine g_aload_n X dX8_undo_10 rfl 0 rfl ?_
    refine g_dup X dX8_undo_11 rfl ?_
    refine g_geti X ck_X8 FM 8 (by decide) fl_X8_47 (Or.inl rfl) dX8_undo_12 ?_
    refine g_iconst X dX8_undo_15 ?_
    refine g_isub X dX8_undo_16 ?_
    refine g_puti X ck_X8 FM 8 (by decide) fl_X8_47 rfl rfl rfl dX8_undo_17 ?_
    obtain ⟨w_1, ew_1⟩ : ∃ q_ : Wd, q_ = up w 20 8 0 ((w 20 8 0) - 1) := ⟨_, rfl⟩
    refine g_w (w' := w_1) ew_1 ?_
    refine g_iconst X dX8_undo_20 ?_
    refine g_istore_n (lv' := [(1, .int (iI 0)), (0, .ref (gAd G 20))]) X dX8_undo_21 rfl (by decide) rfl ?_
    refine g_lv (lv' := [(0, .ref (gAd G 20)), (1, .int (iI 0))]) [1, 0] rfl ?_
    refine g_loop2 (fun (k : Int) (w1 : Wd) => [(0, .ref (gAd G 20)), (1, .int (iI k))]) (fun (k : Int) (w1 : Wd) => w1) (fun (k : Int) (w1 : Wd) => (0 ≤ k) ∧ (k ≤ 101) ∧ (∀ o f, ¬ (o = 20 ∧ (f = 5 ∨ f = 8)) → w1 o f = w o f) ∧ (w1 20 8 0 = w 20 8 0 - 1) ∧ (∀ j : Nat, (j : Int) < k → w1 20 5 j = w 20 7 (101 * (w 20 8 0 - 1).toNat + j))) (fun (k : Int) (w1 : Wd) => (101 - k).toNat) 0 w_1 ⟨(by first | omega | rfl | assumption), (by first | omega | rfl | assumption), (by intro o f h; rw [ew_1, up_fn (fun z => h ⟨z.1, Or.inr z.2⟩)]), (by rw [ew_1, up_at]), (by intro j hj; omega)⟩ ?_
    intro k w1 hI_22 ih_22
    obtain ⟨h0, h1, hfr, h8, hp⟩ := hI_22
    try dsimp only at ih_22 ⊢
    have e7 : w1 20 7 = w 20 7 := hfr 20 7 (by decide)
    refine g_iload_n X dX8_undo_22 rfl 1 rfl ?_
    refine g_bipush X dX8_undo_23 (by decide) ?_
    refine g_icmp_ge (tgt := 54) X dX8_undo_25 (by decide) (by unfold InR; omega) ⟨by decide, by decide⟩ (fun c_25 => ?_) (fun c_25 => ?_)
    · skip
      refine g_aload_n X dX8_undo_54 rfl 0 rfl ?_
      refine g_geti X ck_X8 FM 8 (by decide) fl_X8_47 (Or.inl rfl) dX8_undo_55 ?_
      exact g_iret X rfl rfl dX8_undo_58 (by exact Or.inr ⟨by omega, h8, hfr, h8, fun k hk => hp k (by omega)⟩)
    · skip
      refine g_aload_n X dX8_undo_28 rfl 0 rfl ?_
      refine g_geta X ck_X8 FM 5 (by decide) fl_X8_19 rfl dX8_undo_29 ?_
      refine g_iload_n X dX8_undo_32 rfl 1 rfl ?_
      refine g_aload_n X dX8_undo_33 rfl 0 rfl ?_
      refine g_geta X ck_X8 FM 7 (by decide) fl_X8_25 rfl dX8_undo_34 ?_
      refine g_bipush X dX8_undo_37 (by decide) ?_
      refine g_aload_n X dX8_undo_39 rfl 0 rfl ?_
      refine g_geti X ck_X8 FM 8 (by decide) fl_X8_47 (Or.inl rfl) dX8_undo_40 ?_
      refine g_imul X dX8_undo_43 ?_
      refine g_iload_n X dX8_undo_44 rfl 1 rfl ?_
      refine g_iadd X dX8_undo_45 ?_
      refine h_iald (a := (101 * (w1 20 8 0)) + k) (j := ((101 * (w1 20 8 0)) + k).toNat) X rfl FM (by decide) (show fkX 8 7 = (1, 404) from rfl) (by decide) (by omega) (by omega) dX8_undo_46 ?_
      refine h_iast (a := k) (j := (k).toNat) X rfl FM (by decide) (show fkX 8 5 = (1, 101) from rfl) (by decide) (by omega) (by omega) dX8_undo_47 ?_
      obtain ⟨w_2, ew_2⟩ : ∃ q_ : Wd, q_ = up w1 20 5 (k).toNat (w1 20 7 ((101 * (w1 20 8 0)) + k).toNat) := ⟨_, rfl⟩
      refine g_w (w' := w_2) ew_2 ?_
      refine g_iinc (j := 1) (lv' := [(1, .int (iI (k + 1))), (0, .ref (gAd G 20))]) X dX8_undo_48 rfl (by decide) rfl ?_
      refine g_goto (tgt := 22) X dX8_undo_51 (by decide) ?_
      refine g_lv (lv' := [(0, .ref (gAd G 20)), (1, .int (iI (k + 1)))]) [1, 0] rfl ?_
      exact ih_22 (k + 1) w_2 ⟨(by first | omega | rfl | assumption), (by first | omega | rfl | assumption), (by intro o f h; rw [ew_2, up_fn (fun z => h ⟨z.1, Or.inl z.2⟩)]; exact hfr o f h), (by rw [ew_2, up_fn (by decide)]; exact h8), (by
          intro j hj
          rw [ew_2, e7, h8]
          by_cases e : j = k.toNat
          · rw [e, up_at]
            congr 1
            omega
          · rw [up_ne (fun z => e z.2.2)]
            exact hp j (by omega))⟩ (by omega)
  · skip
    refine g_bipush X dX8_undo_7 (by decide) ?_
    exact g_iret X rfl rfl dX8_undo_9 (by exact Or.inl ⟨by omega, rfl, rfl⟩)
