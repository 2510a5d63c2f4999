/-! A STATE and the reference's row that stands for it -/
def RM (u : Nat → Nat → Int) (D : Nat → Int) (m : Nat) : Prop :=
  D (17 + 14 * m) = tb (u 6 0) m + 2 * tb (u 7 0) m ∧ D (18 + 14 * m) = u 11 m ∧ D (19 + 14 * m) = u 12 m ∧ D (20 + 14 * m) = tb (u 5 0) m ∧ nev (u 14 m) (D (21 + 14 * m)) ∧ ∀ k : Nat, k < 9 → nev (sbX u m ((k : Int) + 1)) (D (22 + 14 * m + k))
def RS (u : Nat → Nat → Int) (D : Nat → Int) : Prop := (∀ j, j < 4 → D j = u 0 j) ∧ (D 4 = u 1 0 ∧ D 5 = u 2 0 ∧ D 6 = u 3 0 ∧ D 7 = sumN (u 12) 6 ∧ D 8 = u 4 0 ∧ nev (u 8 0) (D 9) ∧ D 10 = u 9 0) ∧
  (∀ j : Nat, j < 6 → (j : Int) < u 9 0 → D (11 + j) = u 10 j) ∧ ∀ m, m < 6 → RM u D m
def SU (n : Int) (u : Nat → Nat → Int) : Prop := (∀ m, m < 6 → tb (u 6 0) m + tb (u 7 0) m ≤ 1) ∧ (∀ i j : Nat, i < j → (j : Int) < u 9 0 → u 10 i ≠ u 10 j) ∧ (∀ j : Nat, (j : Int) < u 9 0 → tb (u 6 0) (u 10 j).toNat = 0 ∧ tb (u 7 0) (u 10 j).toNat = 0) ∧
  (∀ k : Nat, n ≤ (k : Int) → k < 6 → tb (u 5 0) k = 0) ∧ (∀ m : Nat, m < 6 → sbX u m 1 ≤ u 1 0 ∧ ∀ k : Nat, 1 ≤ k → k ≤ 8 → sbX u m ((k : Int) + 1) ≤ sbX u m k) ∧ u 9 0 + cnt (runX u) ≤ 6
theorem sb_cg {u v : Nat → Nat → Int} {m : Nat} (h12 : v 12 m = u 12 m) (h13 : ∀ j, 9 * m ≤ j → j < 9 * m + 9 → v 13 j = u 13 j) (b : Int) : sbX v m b = sbX u m b := by
  unfold sbX
  rw [show ((m : Nat) : Int).toNat = m from rfl, h12]
  split
  · rfl
  · exact h13 _ (by omega) (by omega)
theorem rm_cg {u v : Nat → Nat → Int} {D E : Nat → Int} {m : Nat} (h : RM u D m) (hD : ∀ j, 17 + 14 * m ≤ j → j ≤ 30 + 14 * m → E j = D j) (h6 : tb (v 6 0) m = tb (u 6 0) m) (h7 : tb (v 7 0) m = tb (u 7 0) m) (h5 : tb (v 5 0) m = tb (u 5 0) m)
    (h11 : v 11 m = u 11 m) (h12 : v 12 m = u 12 m) (h14 : v 14 m = u 14 m) (h13 : ∀ j, 9 * m ≤ j → j < 9 * m + 9 → v 13 j = u 13 j) : RM v E m := by
  obtain ⟨a, b, c, d, e, f⟩ := h
  refine ⟨?_, ?_, ?_, ?_, ?_, fun k hk => ?_⟩
  · rw [hD _ (by omega) (by omega), h6, h7]; exact a
  · rw [hD _ (by omega) (by omega), h11]; exact b
  · rw [hD _ (by omega) (by omega), h12]; exact c
  · rw [hD _ (by omega) (by omega), h5]; exact d
  · rw [hD _ (by omega) (by omega), h14]; exact e
  · rw [hD _ (by omega) (by omega), sb_cg h12 h13]; exact f k hk
/-- two states that only differ in ups, downs, energy, told -/
theorem rs_misc {u v : Nat → Nat → Int} {D E : Nat → Int} (h : RS u D) (hv : ∀ f, 5 ≤ f → v f = u f) (hE : ∀ j, 9 ≤ j → E j = D j) (h0 : ∀ j, j < 4 → E j = v 0 j) (h1 : E 4 = v 1 0) (h2 : E 5 = v 2 0) (h3 : E 6 = v 3 0) (h7 : E 7 = D 7) (h4 : E 8 = v 4 0) : RS v E := by
  obtain ⟨a, b, c, d⟩ := h
  refine ⟨h0, ⟨h1, h2, h3, ?_, h4, ?_, ?_⟩, ?_, fun m hm => ?_⟩
  · rw [h7, hv 12 (by decide)]; exact b.2.2.2.1
  · rw [hE 9 (by decide), hv 8 (by decide)]; exact b.2.2.2.2.2.1
  · rw [hE 10 (by decide), hv 9 (by decide)]; exact b.2.2.2.2.2.2
  · rw [hv 9 (by decide), hv 10 (by decide)]
    intro j h6 hj
    rw [hE _ (by omega)]
    exact c j h6 hj
  · exact rm_cg (d m hm) (fun j _ _ => hE j (by omega)) (by rw [hv 6 (by decide)]) (by rw [hv 7 (by decide)]) (by rw [hv 5 (by decide)]) (by rw [hv 11 (by decide)]) (by rw [hv 12 (by decide)]) (by rw [hv 14 (by decide)]) (fun j _ _ => by rw [hv 13 (by decide)])
theorem su_misc {n : Int} {u v : Nat → Nat → Int} (h : SU n u) (hv : ∀ f, 5 ≤ f → v f = u f) (h1 : u 1 0 ≤ v 1 0) : SU n v := by
  obtain ⟨a, b, c, d, e, f⟩ := h
  refine ⟨?_, ?_, ?_, ?_, ?_, ?_⟩
  · rw [hv 6 (by decide), hv 7 (by decide)]; exact a
  · rw [hv 9 (by decide), hv 10 (by decide)]; exact b
  · rw [hv 9 (by decide), hv 10 (by decide), hv 6 (by decide), hv 7 (by decide)]; exact c
  · rw [hv 5 (by decide)]; exact d
  · intro m hm
    have q : ∀ b, sbX v m b = sbX u m b := sb_cg (by rw [hv 12 (by decide)]) (fun j _ _ => by rw [hv 13 (by decide)])
    have g := e m hm
    refine ⟨by rw [q]; omega, fun k k1 k2 => by rw [q, q]; exact g.2 k k1 k2⟩
  · show v 9 0 + cnt (bor (v 6 0) (v 7 0)) ≤ 6
    rw [hv 9 (by decide), hv 6 (by decide), hv 7 (by decide)]; exact f
/-- a change within one machine's own numbers -/
theorem rs_own {u v : Nat → Nat → Int} {D E : Nat → Int} (h : RS u D) {m : Nat} (hm : m < 6) (hE : ∀ j, ¬ (17 + 14 * m ≤ j ∧ j ≤ 30 + 14 * m) → j ≠ 7 → j ≠ 9 → E j = D j) (h7 : E 7 = sumN (v 12) 6) (h9 : nev (v 8 0) (E 9))
    (hv : ∀ f, f < 5 ∨ f = 9 ∨ f = 10 → v f = u f) (ho : ∀ k, k < 6 → k ≠ m → tb (v 6 0) k = tb (u 6 0) k ∧ tb (v 7 0) k = tb (u 7 0) k ∧ tb (v 5 0) k = tb (u 5 0) k ∧ v 11 k = u 11 k ∧ v 12 k = u 12 k ∧ v 14 k = u 14 k ∧ ∀ j, 9 * k ≤ j → j < 9 * k + 9 → v 13 j = u 13 j)
    (hM : RM v E m) : RS v E := by
  obtain ⟨a, b, c, d⟩ := h
  refine ⟨fun j hj => ?_, ⟨?_, ?_, ?_, h7, ?_, h9, ?_⟩, ?_, fun k hk => ?_⟩
  · rw [hE j (by omega) (by omega) (by omega), hv 0 (by decide)]; exact a j hj
  · rw [hE 4 (by omega) (by omega) (by omega), hv 1 (by decide)]; exact b.1
  · rw [hE 5 (by omega) (by omega) (by omega), hv 2 (by decide)]; exact b.2.1
  · rw [hE 6 (by omega) (by omega) (by omega), hv 3 (by decide)]; exact b.2.2.1
  · rw [hE 8 (by omega) (by omega) (by omega), hv 4 (by decide)]; exact b.2.2.2.2.1
  · rw [hE 10 (by omega) (by omega) (by omega), hv 9 (by decide)]; exact b.2.2.2.2.2.2
  · rw [hv 9 (by decide), hv 10 (by decide)]
    intro j h6 hj
    rw [hE _ (by omega) (by omega) (by omega)]
    exact c j h6 hj
  · by_cases e : k = m
    · rw [e]; exact hM
    · obtain ⟨o1, o2, o3, o4, o5, o6, o7⟩ := ho k hk e
      exact rm_cg (d k hk) (fun j _ _ => hE j (by omega) (by omega) (by omega)) o1 o2 o3 o4 o5 o6 o7
theorem fuf {u : Nat → Nat → Int} {f j g : Nat} {v : Int} (h : g ≠ f) : fu u f j v g = u g := by
  funext i
  exact fu_ne (fun z => h z.1)
/-- hours -/
theorem rs_hr {u : Nat → Nat → Int} {D : Nat → Int} (h : RS u D) {m : Nat} (hm : m < 6) : RS (hrX u m) (fup D (18 + 14 * m) (D (18 + 14 * m) + tb (runX u) m)) := by
  have hh := h
  obtain ⟨a, b, c, d⟩ := h
  have ef : ∀ f, f ≠ 11 → hrX u m f = u f := fun f hf => fuf hf
  obtain ⟨p1, p2, p3, p4, p5, p6⟩ := d m hm
  refine rs_own hh hm (fun j hj _ _ => fup_ne (by omega)) (by rw [fup_ne (by omega), ef 12 (by decide)]; exact b.2.2.2.1) (by rw [fup_ne (by omega), ef 8 (by decide)]; exact b.2.2.2.2.2.1) (fun f hf => ef f (by omega))
    (fun k hk e => ⟨by rw [ef 6 (by decide)], by rw [ef 7 (by decide)], by rw [ef 5 (by decide)], fu_ne (fun z => e z.2), by rw [ef 12 (by decide)], by rw [ef 14 (by decide)], fun j _ _ => by rw [ef 13 (by decide)]⟩) ⟨?_, ?_, ?_, ?_, ?_, fun q hq => ?_⟩
  · rw [fup_ne (by omega), ef 6 (by decide), ef 7 (by decide)]; exact p1
  · rw [fup_at, p2]; exact (fu_at u 11 m (u 11 m + tb (runX u) m)).symm
  · rw [fup_ne (by omega), ef 12 (by decide)]; exact p3
  · rw [fup_ne (by omega), ef 5 (by decide)]; exact p4
  · rw [fup_ne (by omega), ef 14 (by decide)]; exact p5
  · rw [fup_ne (by omega), sb_cg (v := hrX u m) (u := u) (by rw [ef 12 (by decide)]) (fun j _ _ => by rw [ef 13 (by decide)])]; exact p6 q hq
theorem su_hr {n : Int} {u : Nat → Nat → Int} (h : SU n u) (m : Int) : SU n (hrX u m) := by
  have ef : ∀ f, f ≠ 11 → hrX u m f = u f := fun f hf => fuf hf
  obtain ⟨a, b, c, d, e, f⟩ := h
  have q : ∀ k b, sbX (hrX u m) k b = sbX u k b := fun k b => by unfold sbX; rw [ef 12 (by decide), ef 13 (by decide)]
  refine ⟨by rw [ef 6 (by decide), ef 7 (by decide)]; exact a, by rw [ef 9 (by decide), ef 10 (by decide)]; exact b, by rw [ef 9 (by decide), ef 10 (by decide), ef 6 (by decide), ef 7 (by decide)]; exact c, by rw [ef 5 (by decide)]; exact d, fun k hk => ?_, by unfold runX; rw [ef 9 (by decide), ef 6 (by decide), ef 7 (by decide)]; exact f⟩
  have g := e k hk
  exact ⟨by rw [q, ef 1 (by decide)]; exact g.1, fun j j1 j2 => by rw [q, q]; exact g.2 j j1 j2⟩
/-- it comes on -/
theorem rs_co {u : Nat → Nat → Int} {D : Nat → Int} (h : RS u D) {m : Nat} (hm : m < 6) (h6 : 0 ≤ u 6 0 ∧ u 6 0 < 64) (h7 : 0 ≤ u 7 0 ∧ u 7 0 < 64) (hs : tb (u 6 0) m + tb (u 7 0) m ≤ 1) : RS (coX u m) (fup D (17 + 14 * m) (D (17 + 14 * m) + if tb (u 6 0) m = 1 ∧ 3 ≤ u 1 0 - sbX u m 1 then 1 else 0)) := by
  have hh := h
  obtain ⟨a, b, c, d⟩ := h
  obtain ⟨p1, p2, p3, p4, p5, p6⟩ := d m hm
  have c6 := (bt_clr (s := u 6 0) (m := (m : Int)) h6.1 h6.2 (by omega) (by omega)).2.2
  have c7 := (bt_set (s := u 7 0) (m := (m : Int)) h7.1 h7.2 (by omega) (by omega)).2.2
  unfold coX
  rw [show ((m : Nat) : Int).toNat = m from rfl] at c6 c7 ⊢
  have t6 := tb01 (u 6 0) m
  have t7 := tb01 (u 7 0) m
  split
  · rename_i q
    have ef : ∀ f, f ≠ 6 → f ≠ 7 → fu (fu u 6 0 (clrB (u 6 0) m)) 7 0 (setB (u 7 0) m) f = u f := fun f x y => by rw [fuf y, fuf x]
    have e6 : fu (fu u 6 0 (clrB (u 6 0) m)) 7 0 (setB (u 7 0) m) 6 0 = clrB (u 6 0) m := by rw [fu_ne (by decide), fu_at]
    have e7 : fu (fu u 6 0 (clrB (u 6 0) m)) 7 0 (setB (u 7 0) m) 7 0 = setB (u 7 0) m := fu_at _ _ _ _
    refine rs_own hh hm (fun j hj _ _ => fup_ne (by omega)) (by rw [fup_ne (by omega), ef 12 (by decide) (by decide)]; exact b.2.2.2.1) (by rw [fup_ne (by omega), ef 8 (by decide) (by decide)]; exact b.2.2.2.2.2.1) (fun f hf => ef f (by omega) (by omega))
      (fun k hk e => ⟨by rw [e6, c6 k hk, if_neg e], by rw [e7, c7 k hk, if_neg e], by rw [ef 5 (by decide) (by decide)], by rw [ef 11 (by decide) (by decide)], by rw [ef 12 (by decide) (by decide)], by rw [ef 14 (by decide) (by decide)], fun j _ _ => by rw [ef 13 (by decide) (by decide)]⟩) ⟨?_, ?_, ?_, ?_, ?_, fun k hk => ?_⟩
    · rw [fup_at, e6, e7, c6 m hm, c7 m hm, if_pos rfl, if_pos rfl, p1]; omega
    · rw [fup_ne (by omega), ef 11 (by decide) (by decide)]; exact p2
    · rw [fup_ne (by omega), ef 12 (by decide) (by decide)]; exact p3
    · rw [fup_ne (by omega), ef 5 (by decide) (by decide)]; exact p4
    · rw [fup_ne (by omega), ef 14 (by decide) (by decide)]; exact p5
    · rw [fup_ne (by omega), sb_cg (u := u) (by rw [ef 12 (by decide) (by decide)]) (fun j _ _ => by rw [ef 13 (by decide) (by decide)])]; exact p6 k hk
  · rw [Int.add_zero]
    have : fup D (17 + 14 * m) (D (17 + 14 * m)) = D := by
      funext j
      by_cases e : j = 17 + 14 * m
      · rw [e, fup_at]
      · rw [fup_ne e]
    rw [this]
    exact hh
theorem cnt_ext {s t : Int} (h : ∀ k, k < 6 → tb s k = tb t k) : cnt s = cnt t := by
  unfold cnt
  rw [h 0 (by decide), h 1 (by decide), h 2 (by decide), h 3 (by decide), h 4 (by decide), h 5 (by decide)]
theorem su_co {n : Int} {u : Nat → Nat → Int} (h : SU n u) {m : Nat} (hm : m < 6) (h6 : 0 ≤ u 6 0 ∧ u 6 0 < 64) (h7 : 0 ≤ u 7 0 ∧ u 7 0 < 64) (hL : ∀ j : Nat, (j : Int) < u 9 0 → 0 ≤ u 10 j ∧ u 10 j < 6) : SU n (coX u m) := by
  have c6 := bt_clr (s := u 6 0) (m := (m : Int)) h6.1 h6.2 (by omega) (by omega)
  have c7 := bt_set (s := u 7 0) (m := (m : Int)) h7.1 h7.2 (by omega) (by omega)
  unfold coX
  rw [show ((m : Nat) : Int).toNat = m from rfl] at c6 c7 ⊢
  split
  · rename_i q
    obtain ⟨a, b, c, d, e, f⟩ := h
    have ef : ∀ f, f ≠ 6 → f ≠ 7 → fu (fu u 6 0 (clrB (u 6 0) m)) 7 0 (setB (u 7 0) m) f = u f := fun f x y => by rw [fuf y, fuf x]
    have e6 : fu (fu u 6 0 (clrB (u 6 0) m)) 7 0 (setB (u 7 0) m) 6 0 = clrB (u 6 0) m := by rw [fu_ne (by decide), fu_at]
    have e7 : fu (fu u 6 0 (clrB (u 6 0) m)) 7 0 (setB (u 7 0) m) 7 0 = setB (u 7 0) m := fu_at _ _ _ _
    have sq : ∀ k b, sbX (fu (fu u 6 0 (clrB (u 6 0) m)) 7 0 (setB (u 7 0) m)) k b = sbX u k b := fun k b => by unfold sbX; rw [ef 12 (by decide) (by decide), ef 13 (by decide) (by decide)]
    refine ⟨fun k hk => ?_, by rw [ef 9 (by decide) (by decide), ef 10 (by decide) (by decide)]; exact b, ?_, by rw [ef 5 (by decide) (by decide)]; exact d, fun k hk => ?_, ?_⟩
    · rw [e6, e7, c6.2.2 k hk, c7.2.2 k hk]
      have := a k hk
      split <;> omega
    · rw [ef 9 (by decide) (by decide), ef 10 (by decide) (by decide), e6, e7]
      intro j hj
      have g := c j hj
      have r := hL j hj
      rw [c6.2.2 _ (by omega), c7.2.2 _ (by omega)]
      have hne : (u 10 j).toNat ≠ m := by
        intro z
        rw [z] at g
        omega
      rw [if_neg hne, if_neg hne]
      exact g
    · have g := e k hk
      exact ⟨by rw [sq, ef 1 (by decide) (by decide)]; exact g.1, fun j j1 j2 => by rw [sq, sq]; exact g.2 j j1 j2⟩
    · unfold runX
      rw [ef 9 (by decide) (by decide), e6, e7]
      have hc : cnt (bor (clrB (u 6 0) m) (setB (u 7 0) m)) = cnt (bor (u 6 0) (u 7 0)) := cnt_ext (fun k hk => by
        rw [(bt_or c6.1 c6.2.1 c7.1 c7.2.1).2.2 k hk, (bt_or h6.1 h6.2 h7.1 h7.2).2.2 k hk, c6.2.2 k hk, c7.2.2 k hk]
        by_cases z : k = m
        · rw [if_pos z, if_pos z, z, q.1]
          have := tb01 (u 7 0) m
          omega
        · rw [if_neg z, if_neg z])
      rw [hc]
      exact f
  · exact h
