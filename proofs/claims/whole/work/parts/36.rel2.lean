/-! start, stop, list, lock: the state and the row -/
def dst (D : Nat → Int) (m : Nat) (t : Int) : Nat → Int := fun j => if j = 17 + 14 * m then 1 else if j = 19 + 14 * m then D j + 1 else if j = 22 + 14 * m then t else if 23 + 14 * m ≤ j ∧ j ≤ 30 + 14 * m then D (j - 1) else if j = 9 then t else if j = 7 then D 7 + 1 else D j
def dsp (D : Nat → Int) (m : Nat) (t : Int) : Nat → Int := fup (fup D (17 + 14 * m) 0) (21 + 14 * m) t
theorem sb_st {u : Nat → Nat → Int} {m : Nat} (hs : 0 ≤ u 12 m) : ∀ k : Nat, k ≤ 8 → sbX (stX u m) m ((k : Int) + 1) = if k = 0 then u 1 0 else sbX u m k := by
  intro k hk
  have e12 : stX u m 12 m = u 12 m + 1 := by
    show fu (fu (fu (fu u 6 0 _) 13 _ _) 12 m (u 12 m + 1)) 8 0 _ 12 m = _
    rw [fu_ne (by omega), fu_at]
  have e13 : ∀ j, stX u m 13 j = if j = ((m : Int) * 9 + u 12 m % 9).toNat then u 1 0 else u 13 j := by
    intro j
    show fu (fu (fu (fu u 6 0 _) 13 ((m : Int) * 9 + u 12 m % 9).toNat (u 1 0)) 12 m (u 12 m + 1)) 8 0 _ 13 j = _
    rw [fu_ne (by omega), fu_ne (by omega)]
    by_cases e : j = ((m : Int) * 9 + u 12 m % 9).toNat
    · rw [if_pos e, e, fu_at]
    · rw [if_neg e, fu_ne (fun z => e z.2), fu_ne (by omega)]
  unfold sbX
  rw [show ((m : Nat) : Int).toNat = m from rfl, e12, e13]
  by_cases h0 : k = 0
  · subst h0
    rw [if_pos rfl, if_neg (by omega), if_pos (by omega)]
  · rw [if_neg h0]
    by_cases h1 : u 12 m < k
    · rw [if_pos (by omega), if_pos h1]
    · rw [if_neg (by omega), if_neg h1, if_neg (by omega)]
      congr 2
      omega
theorem st_at (u : Nat → Nat → Int) (m : Nat) : (∀ f, f ≠ 6 → f ≠ 13 → f ≠ 12 → f ≠ 8 → stX u m f = u f) ∧ stX u m 6 0 = setB (u 6 0) m ∧ stX u m 8 0 = u 1 0 ∧ (∀ k, k ≠ m → stX u m 12 k = u 12 k) ∧ stX u m 12 m = u 12 m + 1 ∧ (∀ j, j ≠ ((m : Int) * 9 + u 12 m % 9).toNat → stX u m 13 j = u 13 j) := by
  unfold stX
  rw [show ((m : Nat) : Int).toNat = m from rfl]
  refine ⟨fun f a b c d => by rw [fuf d, fuf c, fuf b, fuf a], ?_, fu_at _ _ _ _, fun k hk => ?_, ?_, fun j hj => ?_⟩
  · rw [fu_ne (by decide), fu_ne (by omega), fu_ne (by omega), fu_at]
  · rw [fu_ne (by omega), fu_ne (by omega), fu_ne (by omega), fu_ne (by omega)]
  · rw [fu_ne (by omega), fu_at]
  · rw [fu_ne (by omega), fu_ne (by omega), fu_ne (fun z => hj z.2), fu_ne (by omega)]
theorem sumN_up {f g : Nat → Int} {m n : Nat} (hm : m < n) (h : ∀ k, k ≠ m → g k = f k) (hg : g m = f m + 1) : sumN g n = sumN f n + 1 := by
  have := sN_ins (f := g) (g := f) n hm (fun k _ e => h k e)
  omega
theorem rs_st {u : Nat → Nat → Int} {D : Nat → Int} (h : RS u D) {m : Nat} (hm : m < 6) (h6 : 0 ≤ u 6 0 ∧ u 6 0 < 64) (h12 : ∀ k, k < 6 → 0 ≤ u 12 k) (hr : tb (u 7 0) m = 0) : RS (stX u m) (dst D m (u 1 0)) := by
  have hh := h
  obtain ⟨a, b, c, d⟩ := h
  obtain ⟨p1, p2, p3, p4, p5, p6⟩ := d m hm
  obtain ⟨s1, s2, s3, s4, s5, s6⟩ := st_at u m
  have c6 := (bt_set (s := u 6 0) (m := (m : Int)) h6.1 h6.2 (by omega) (by omega)).2.2
  rw [show ((m : Nat) : Int).toNat = m from rfl] at c6
  have hd : ∀ j, j ≠ 17 + 14 * m → j ≠ 19 + 14 * m → ¬ (22 + 14 * m ≤ j ∧ j ≤ 30 + 14 * m) → j ≠ 9 → j ≠ 7 → dst D m (u 1 0) j = D j := fun j q1 q2 q3 q4 q5 => by
    unfold dst
    rw [if_neg q1, if_neg q2, if_neg (by omega), if_neg (by omega), if_neg q4, if_neg q5]
  have m12 := h12 m hm
  refine rs_own hh hm (fun j hj j7 j9 => hd j (by omega) (by omega) (by omega) j9 j7) ?_ ?_ (fun f hf => s1 f (by omega) (by omega) (by omega) (by omega))
    (fun k hk e => ⟨by rw [s2, c6 k hk, if_neg e], by rw [s1 7 (by decide) (by decide) (by decide) (by decide)], by rw [s1 5 (by decide) (by decide) (by decide) (by decide)], by rw [s1 11 (by decide) (by decide) (by decide) (by decide)], s4 k e, by rw [s1 14 (by decide) (by decide) (by decide) (by decide)], fun j j1 j2 => s6 j (by omega)⟩) ⟨?_, ?_, ?_, ?_, ?_, fun q hq => ?_⟩
  · unfold dst
    rw [if_neg (by omega), if_neg (by omega), if_neg (by omega), if_neg (by omega), if_neg (by omega), if_pos rfl, b.2.2.2.1, sumN_up hm s4 s5]
  · unfold dst
    rw [if_neg (by omega), if_neg (by omega), if_neg (by omega), if_neg (by omega), if_pos rfl, s3]
    exact Or.inl rfl
  · unfold dst
    rw [if_pos rfl, s2, s1 7 (by decide) (by decide) (by decide) (by decide), c6 m hm, if_pos rfl, hr]
    rfl
  · rw [hd _ (by omega) (by omega) (by omega) (by omega) (by omega), s1 11 (by decide) (by decide) (by decide) (by decide)]; exact p2
  · unfold dst
    rw [if_neg (by omega), if_pos rfl, p3, s5]
  · rw [hd _ (by omega) (by omega) (by omega) (by omega) (by omega), s1 5 (by decide) (by decide) (by decide) (by decide)]; exact p4
  · rw [hd _ (by omega) (by omega) (by omega) (by omega) (by omega), s1 14 (by decide) (by decide) (by decide) (by decide)]; exact p5
  · rw [sb_st m12 q (by omega)]
    unfold dst
    by_cases e : q = 0
    · subst e
      rw [if_pos rfl, if_neg (by omega), if_neg (by omega), if_pos (by omega)]
      exact Or.inl rfl
    · rw [if_neg e, if_neg (by omega), if_neg (by omega), if_neg (by omega), if_pos (by omega)]
      have := p6 (q - 1) (by omega)
      rw [show ((q - 1 : Nat) : Int) + 1 = (q : Int) by omega, show 22 + 14 * m + (q - 1) = 22 + 14 * m + q - 1 by omega] at this
      exact this
theorem su_st {n : Int} {u : Nat → Nat → Int} (h : SU n u) {m : Nat} (hm : m < 6) (h6 : 0 ≤ u 6 0 ∧ u 6 0 < 64) (h7 : 0 ≤ u 7 0 ∧ u 7 0 < 64) (h12 : ∀ k, k < 6 → 0 ≤ u 12 k) (hr : tb (u 7 0) m = 0) (hr6 : tb (u 6 0) m = 0) (hL : ∀ j : Nat, (j : Int) < u 9 0 → (0 ≤ u 10 j ∧ u 10 j < 6) ∧ u 10 j ≠ m) (hc9 : u 9 0 + cnt (runX u) ≤ 5) : SU n (stX u m) := by
  obtain ⟨a, b, c, d, e, f⟩ := h
  obtain ⟨s1, s2, s3, s4, s5, s6⟩ := st_at u m
  have c6 := bt_set (s := u 6 0) (m := (m : Int)) h6.1 h6.2 (by omega) (by omega)
  rw [show ((m : Nat) : Int).toNat = m from rfl] at c6
  refine ⟨fun k hk => ?_, by rw [s1 9 (by decide) (by decide) (by decide) (by decide), s1 10 (by decide) (by decide) (by decide) (by decide)]; exact b, ?_, by rw [s1 5 (by decide) (by decide) (by decide) (by decide)]; exact d, fun k hk => ?_, ?_⟩
  · rw [s2, s1 7 (by decide) (by decide) (by decide) (by decide), c6.2.2 k hk]
    have := a k hk
    by_cases z : k = m
    · rw [if_pos z, z]; omega
    · rw [if_neg z]; exact this
  · rw [s1 9 (by decide) (by decide) (by decide) (by decide), s1 10 (by decide) (by decide) (by decide) (by decide), s2, s1 7 (by decide) (by decide) (by decide) (by decide)]
    intro j hj
    have g := c j hj
    have r := hL j hj
    rw [c6.2.2 _ (by omega), if_neg (by omega)]
    exact g
  · have g := e k hk
    rw [s1 1 (by decide) (by decide) (by decide) (by decide)]
    by_cases z : k = m
    · subst z
      have q := sb_st (u := u) (m := k) (h12 k hk)
      refine ⟨by have := q 0 (by decide); rw [if_pos rfl] at this; rw [show (1 : Int) = ((0 : Nat) : Int) + 1 from rfl, this]; exact Int.le_refl _, fun j j1 j2 => ?_⟩
      rw [q j j2, if_neg (by omega)]
      by_cases z2 : j = 1
      · subst z2
        have := q 0 (by decide)
        rw [if_pos rfl] at this
        rw [show ((1 : Nat) : Int) = ((0 : Nat) : Int) + 1 from rfl, this]
        exact g.1
      · have q2 := q (j - 1) (by omega)
        rw [if_neg (by omega), show ((j - 1 : Nat) : Int) + 1 = (j : Int) by omega] at q2
        rw [q2]
        have g2 := g.2 (j - 1) (by omega) (by omega)
        rw [show ((j - 1 : Nat) : Int) + 1 = (j : Int) by omega] at g2
        exact g2
    · have q : ∀ b, sbX (stX u m) k b = sbX u k b := sb_cg (s4 k z) (fun j j1 j2 => s6 j (by have := h12 m hm; omega))
      exact ⟨by rw [q]; exact g.1, fun j j1 j2 => by rw [q, q]; exact g.2 j j1 j2⟩
  · unfold runX at hc9 ⊢
    rw [s1 9 (by decide) (by decide) (by decide) (by decide), s2, s1 7 (by decide) (by decide) (by decide) (by decide)]
    have hc : cnt (bor (setB (u 6 0) m) (u 7 0)) ≤ cnt (bor (u 6 0) (u 7 0)) + 1 := by
      have t : ∀ k, k < 6 → tb (bor (setB (u 6 0) m) (u 7 0)) k = if k = m then 1 else tb (bor (u 6 0) (u 7 0)) k := fun k hk => by
        rw [(bt_or c6.1 c6.2.1 h7.1 h7.2).2.2 k hk, (bt_or h6.1 h6.2 h7.1 h7.2).2.2 k hk, c6.2.2 k hk]
        by_cases z : k = m
        · rw [if_pos z, if_pos z, z, hr]; rfl
        · rw [if_neg z, if_neg z]
      have v := fun k => tb01 (bor (u 6 0) (u 7 0)) k
      have v0 := v 0
      have v1 := v 1
      have v2 := v 2
      have v3 := v 3
      have v4 := v 4
      have v5 := v 5
      unfold cnt
      rw [t 0 (by decide), t 1 (by decide), t 2 (by decide), t 3 (by decide), t 4 (by decide), t 5 (by decide)]
      rcases (show m = 0 ∨ m = 1 ∨ m = 2 ∨ m = 3 ∨ m = 4 ∨ m = 5 by omega) with rfl | rfl | rfl | rfl | rfl | rfl <;> simp <;> omega
    omega
theorem sp_at {u : Nat → Nat → Int} {m : Nat} (h : tb (runX u) m = 1) : (∀ f, f ≠ 6 → f ≠ 7 → f ≠ 14 → spX u m f = u f) ∧ spX u m 6 0 = clrB (u 6 0) m ∧ spX u m 7 0 = clrB (u 7 0) m ∧ (∀ k, k ≠ m → spX u m 14 k = u 14 k) ∧ spX u m 14 m = u 1 0 := by
  unfold spX
  rw [show ((m : Nat) : Int).toNat = m from rfl, if_pos h]
  refine ⟨fun f a b c => by rw [fuf c, fuf b, fuf a], ?_, ?_, fun k hk => ?_, fu_at _ _ _ _⟩
  · rw [fu_ne (by omega), fu_ne (by decide), fu_at]
  · rw [fu_ne (by omega), fu_at]
  · rw [fu_ne (by omega), fu_ne (by omega), fu_ne (by omega)]
theorem rs_sp {u : Nat → Nat → Int} {D : Nat → Int} (h : RS u D) {m : Nat} (hm : m < 6) (h6 : 0 ≤ u 6 0 ∧ u 6 0 < 64) (h7 : 0 ≤ u 7 0 ∧ u 7 0 < 64) (hr : tb (runX u) m = 1) : RS (spX u m) (dsp D m (u 1 0)) := by
  have hh := h
  obtain ⟨a, b, c, d⟩ := h
  obtain ⟨p1, p2, p3, p4, p5, p6⟩ := d m hm
  obtain ⟨s1, s2, s3, s4, s5⟩ := sp_at hr
  have c6 := (bt_clr (s := u 6 0) (m := (m : Int)) h6.1 h6.2 (by omega) (by omega)).2.2
  have c7 := (bt_clr (s := u 7 0) (m := (m : Int)) h7.1 h7.2 (by omega) (by omega)).2.2
  rw [show ((m : Nat) : Int).toNat = m from rfl] at c6 c7
  have hd : ∀ j, j ≠ 17 + 14 * m → j ≠ 21 + 14 * m → dsp D m (u 1 0) j = D j := fun j x y => by unfold dsp; rw [fup_ne y, fup_ne x]
  refine rs_own hh hm (fun j hj j7 j9 => hd j (by omega) (by omega)) (by rw [hd _ (by omega) (by omega), s1 12 (by decide) (by decide) (by decide)]; exact b.2.2.2.1) (by rw [hd _ (by omega) (by omega), s1 8 (by decide) (by decide) (by decide)]; exact b.2.2.2.2.2.1) (fun f hf => s1 f (by omega) (by omega) (by omega))
    (fun k hk e => ⟨by rw [s2, c6 k hk, if_neg e], by rw [s3, c7 k hk, if_neg e], by rw [s1 5 (by decide) (by decide) (by decide)], by rw [s1 11 (by decide) (by decide) (by decide)], by rw [s1 12 (by decide) (by decide) (by decide)], s4 k e, fun j j1 j2 => by rw [s1 13 (by decide) (by decide) (by decide)]⟩) ⟨?_, ?_, ?_, ?_, ?_, fun q hq => ?_⟩
  · rw [s2, s3, c6 m hm, c7 m hm, if_pos rfl, if_pos rfl]
    unfold dsp
    rw [fup_ne (by omega), fup_at]
    rfl
  · rw [hd _ (by omega) (by omega), s1 11 (by decide) (by decide) (by decide)]; exact p2
  · rw [hd _ (by omega) (by omega), s1 12 (by decide) (by decide) (by decide)]; exact p3
  · rw [hd _ (by omega) (by omega), s1 5 (by decide) (by decide) (by decide)]; exact p4
  · rw [s5]
    unfold dsp
    rw [fup_at]
    exact Or.inl rfl
  · rw [hd _ (by omega) (by omega), sb_cg (u := u) (by rw [s1 12 (by decide) (by decide) (by decide)]) (fun j _ _ => by rw [s1 13 (by decide) (by decide) (by decide)])]; exact p6 q hq
theorem run_sp {u : Nat → Nat → Int} {m : Nat} (hm : m < 6) (h6 : 0 ≤ u 6 0 ∧ u 6 0 < 64) (h7 : 0 ≤ u 7 0 ∧ u 7 0 < 64) (hr : tb (runX u) m = 1) : runX (spX u m) = clrB (runX u) m := by
  obtain ⟨s1, s2, s3, s4, s5⟩ := sp_at hr
  have c6 := bt_clr (s := u 6 0) (m := (m : Int)) h6.1 h6.2 (by omega) (by omega)
  have c7 := bt_clr (s := u 7 0) (m := (m : Int)) h7.1 h7.2 (by omega) (by omega)
  have hb := bt_or h6.1 h6.2 h7.1 h7.2
  have cr := bt_clr (s := bor (u 6 0) (u 7 0)) (m := (m : Int)) hb.1 hb.2.1 (by omega) (by omega)
  have ho := bt_or c6.1 c6.2.1 c7.1 c7.2.1
  unfold runX
  rw [s2, s3]
  refine bt_ext ho.1 ho.2.1 cr.1 cr.2.1 (fun k hk => ?_)
  rw [ho.2.2 k hk, cr.2.2 k hk, c6.2.2 k hk, c7.2.2 k hk, hb.2.2 k hk]
  split <;> rfl
theorem su_sp {n : Int} {u : Nat → Nat → Int} (h : SU n u) {m : Nat} (hm : m < 6) (h6 : 0 ≤ u 6 0 ∧ u 6 0 < 64) (h7 : 0 ≤ u 7 0 ∧ u 7 0 < 64) (hr : tb (runX u) m = 1) (hL : ∀ j : Nat, (j : Int) < u 9 0 → 0 ≤ u 10 j ∧ u 10 j < 6) : SU n (spX u m) := by
  obtain ⟨a, b, c, d, e, f⟩ := h
  have hrs := run_sp hm h6 h7 hr
  obtain ⟨s1, s2, s3, s4, s5⟩ := sp_at hr
  have c6 := bt_clr (s := u 6 0) (m := (m : Int)) h6.1 h6.2 (by omega) (by omega)
  have c7 := bt_clr (s := u 7 0) (m := (m : Int)) h7.1 h7.2 (by omega) (by omega)
  have hb := bt_or h6.1 h6.2 h7.1 h7.2
  have hcc := cnt_clr (s := bor (u 6 0) (u 7 0)) (m := (m : Int)) hb.1 hb.2.1 (by omega) (by omega) hr
  rw [show ((m : Nat) : Int).toNat = m from rfl] at c6 c7
  have sq : ∀ k b, sbX (spX u m) k b = sbX u k b := fun k b => by unfold sbX; rw [s1 12 (by decide) (by decide) (by decide), s1 13 (by decide) (by decide) (by decide)]
  refine ⟨fun k hk => ?_, by rw [s1 9 (by decide) (by decide) (by decide), s1 10 (by decide) (by decide) (by decide)]; exact b, ?_, by rw [s1 5 (by decide) (by decide) (by decide)]; exact d, fun k hk => ?_, ?_⟩
  · rw [s2, s3, c6.2.2 k hk, c7.2.2 k hk]
    have := a k hk
    split <;> omega
  · rw [s1 9 (by decide) (by decide) (by decide), s1 10 (by decide) (by decide) (by decide), s2, s3]
    intro j hj
    have g := c j hj
    have r := hL j hj
    rw [c6.2.2 _ (by omega), c7.2.2 _ (by omega)]
    split
    · exact ⟨rfl, rfl⟩
    · exact g
  · rw [s1 1 (by decide) (by decide) (by decide), sq]
    have g := e k hk
    exact ⟨g.1, fun j j1 j2 => by rw [sq, sq]; exact g.2 j j1 j2⟩
  · rw [hrs, s1 9 (by decide) (by decide) (by decide)]
    have : cnt (clrB (runX u) m) = cnt (runX u) - 1 := hcc
    omega
