/-! the list -/
theorem tol_ok (f : Nat → Int) (m : Int) : ∀ k, (∀ j, k ≤ j → (tol f m k).1 j = f j) ∧ (∀ j, j < (tol f m k).2 → ∃ q, q < k ∧ (tol f m k).1 j = f q ∧ f q ≠ m) ∧ ((∀ i j, i < j → j < k → f i ≠ f j) → ∀ i j, i < j → j < (tol f m k).2 → (tol f m k).1 i ≠ (tol f m k).1 j) ∧ ((∃ q, q < k ∧ f q = m) → (tol f m k).2 < k)
  | 0 => ⟨fun _ _ => rfl, fun j hj => absurd hj (Nat.not_lt_zero _), fun _ i j _ h => absurd h (Nat.not_lt_zero _), fun ⟨q, h, _⟩ => absurd h (Nat.not_lt_zero _)⟩
  | k + 1 => by
    obtain ⟨a, b, c, d⟩ := tol_ok f m k
    have hle := tol_le f m k
    unfold tol
    by_cases e : (tol f m k).1 k = m
    · rw [if_pos e]
      refine ⟨fun j hj => a j (by omega), fun j hj => ?_, fun h => c (fun i j h1 h2 => h i j h1 (by omega)), fun _ => by omega⟩
      obtain ⟨q, q1, q2⟩ := b j hj
      exact ⟨q, by omega, q2⟩
    · rw [if_neg e]
      have ek : (tol f m k).1 k = f k := a k (Nat.le_refl _)
      refine ⟨fun j hj => ?_, fun j hj => ?_, fun h i j h1 h2 => ?_, fun ⟨q, q1, q2⟩ => ?_⟩
      · show fup (tol f m k).1 (tol f m k).2 _ j = f j
        rw [fup_ne (by omega)]
        exact a j (by omega)
      · show ∃ q, q < k + 1 ∧ fup (tol f m k).1 (tol f m k).2 ((tol f m k).1 k) j = f q ∧ f q ≠ m
        by_cases z : j = (tol f m k).2
        · rw [z, fup_at]
          exact ⟨k, by omega, ek, fun w => e (ek.trans w)⟩
        · have hj2 : j < (tol f m k).2 + 1 := hj
          obtain ⟨q, q1, q2⟩ := b j (by omega)
          rw [fup_ne z]
          exact ⟨q, by omega, q2⟩
      · show fup (tol f m k).1 (tol f m k).2 ((tol f m k).1 k) i ≠ fup (tol f m k).1 (tol f m k).2 ((tol f m k).1 k) j
        have h3 : j < (tol f m k).2 + 1 := h2
        rw [fup_ne (show i ≠ (tol f m k).2 by omega)]
        by_cases z : j = (tol f m k).2
        · rw [z, fup_at, ek]
          obtain ⟨q, q1, q2, q3⟩ := b i (by omega)
          rw [q2]
          exact h q k q1 (by omega)
        · rw [fup_ne z]
          exact c (fun i j h1 h2 => h i j h1 (by omega)) i j h1 (by omega)
      · show (tol f m k).2 + 1 < k + 1
        rcases Nat.lt_or_ge q k with w | w
        · have := d ⟨q, w, q2⟩
          omega
        · have : q = k := by omega
          rw [this] at q2
          exact absurd (ek.trans q2) e
theorem tol_cg {f g : Nat → Int} {m : Int} : ∀ k N, k ≤ N → (∀ j, j < N → f j = g j) → (tol f m k).2 = (tol g m k).2 ∧ ∀ j, j < N → (tol f m k).1 j = (tol g m k).1 j
  | 0, N, _, h => ⟨rfl, h⟩
  | k + 1, N, hk, h => by
    obtain ⟨a, b⟩ := tol_cg (m := m) k N (by omega) h
    have hle := tol_le g m k
    have e := b k (by omega)
    unfold tol
    rw [e, a]
    by_cases z : (tol g m k).1 k = m
    · rw [if_pos z, if_pos z]
      exact ⟨a, b⟩
    · rw [if_neg z, if_neg z]
      refine ⟨rfl, fun j hj => ?_⟩
      show fup (tol f m k).1 (tol g m k).2 _ j = fup (tol g m k).1 (tol g m k).2 _ j
      by_cases y : j = (tol g m k).2
      · rw [y, fup_at, fup_at]
      · rw [fup_ne y, fup_ne y, b j hj]
/-- the row's list while one is taken off it -/
def dul (D : Nat → Int) (m : Int) (k : Nat) : Nat → Int := fun j => if 11 ≤ j ∧ j < 17 then (tol (fun i => D (11 + i)) m k).1 (j - 11) else D j
def dun (D : Nat → Int) (m : Int) : Nat → Int := fup (dul D m (D 10).toNat) 10 ((tol (fun i => D (11 + i)) m (D 10).toNat).2 : Int)
theorem tk_at (u : Nat → Nat → Int) (m : Int) : (∀ f, f ≠ 9 → f ≠ 10 → tkX u m f = u f) ∧ tkX u m 9 0 = ((tol (u 10) m (u 9 0).toNat).2 : Int) ∧ tkX u m 10 = (tol (u 10) m (u 9 0).toNat).1 := by
  unfold tkX
  refine ⟨fun f a b => ?_, fu_at _ _ _ _, ?_⟩
  · rw [fuf a]
    funext j
    exact if_neg b
  · rw [fuf (by decide)]
    funext j
    exact if_pos rfl
/-- only the list has changed -/
theorem rs_list {u v : Nat → Nat → Int} {D E : Nat → Int} (h : RS u D) (hv : ∀ f, f ≠ 9 → f ≠ 10 → v f = u f) (hE : ∀ j, j < 10 ∨ 17 ≤ j → E j = D j) (h10 : E 10 = v 9 0) (hl : ∀ j : Nat, j < 6 → (j : Int) < v 9 0 → E (11 + j) = v 10 j) : RS v E := by
  obtain ⟨a, b, c, d⟩ := h
  refine ⟨fun j hj => by rw [hE j (by omega), hv 0 (by decide) (by decide)]; exact a j hj, ⟨?_, ?_, ?_, ?_, ?_, ?_, h10⟩, hl, fun m hm => ?_⟩
  · rw [hE _ (by omega), hv 1 (by decide) (by decide)]; exact b.1
  · rw [hE _ (by omega), hv 2 (by decide) (by decide)]; exact b.2.1
  · rw [hE _ (by omega), hv 3 (by decide) (by decide)]; exact b.2.2.1
  · rw [hE _ (by omega), hv 12 (by decide) (by decide)]; exact b.2.2.2.1
  · rw [hE _ (by omega), hv 4 (by decide) (by decide)]; exact b.2.2.2.2.1
  · rw [hE _ (by omega), hv 8 (by decide) (by decide)]; exact b.2.2.2.2.2.1
  · exact rm_cg (d m hm) (fun j _ _ => hE j (by omega)) (by rw [hv 6 (by decide) (by decide)]) (by rw [hv 7 (by decide) (by decide)]) (by rw [hv 5 (by decide) (by decide)]) (by rw [hv 11 (by decide) (by decide)]) (by rw [hv 12 (by decide) (by decide)]) (by rw [hv 14 (by decide) (by decide)]) (fun j _ _ => by rw [hv 13 (by decide) (by decide)])
theorem rs_tk {u : Nat → Nat → Int} {D : Nat → Int} (h : RS u D) (h9 : 0 ≤ u 9 0 ∧ u 9 0 ≤ 6) (m : Int) : RS (tkX u m) (dun D m) := by
  obtain ⟨s1, s2, s3⟩ := tk_at u m
  have e10 := h.2.1.2.2.2.2.2.2
  have hl := h.2.2.1
  obtain ⟨t1, t2⟩ := tol_cg (f := fun i => D (11 + i)) (g := u 10) (m := m) (u 9 0).toNat (u 9 0).toNat (Nat.le_refl _) (fun j hj => hl j (by omega) (by omega))
  have hle := tol_le (u 10) m (u 9 0).toNat
  refine rs_list h s1 (fun j hj => ?_) ?_ (fun j h6 hj => ?_)
  · unfold dun dul
    rw [fup_ne (by omega), if_neg (by omega)]
  · unfold dun
    rw [fup_at, s2, e10, t1]
  · rw [s2] at hj
    unfold dun dul
    rw [fup_ne (by omega), if_pos (by omega), show 11 + j - 11 = j by omega, s3, e10]
    exact t2 j (by omega)
/-- whoever is taken off is no longer on the list -/
theorem su_tk {n : Int} {u : Nat → Nat → Int} (h : SU n u) (h9 : 0 ≤ u 9 0 ∧ u 9 0 ≤ 6) (m : Int) : SU n (tkX u m) ∧ (∀ j : Nat, (j : Int) < tkX u m 9 0 → tkX u m 10 j ≠ m ∧ ∃ q : Nat, (q : Int) < u 9 0 ∧ tkX u m 10 j = u 10 q) ∧ tkX u m 9 0 ≤ u 9 0 ∧ ((∃ q : Nat, (q : Int) < u 9 0 ∧ u 10 q = m) → tkX u m 9 0 < u 9 0) := by
  obtain ⟨a, b, c, d, e, f⟩ := h
  obtain ⟨s1, s2, s3⟩ := tk_at u m
  obtain ⟨t1, t2, t3, t4⟩ := tol_ok (u 10) m (u 9 0).toNat
  have hle := tol_le (u 10) m (u 9 0).toNat
  have hm : ∀ j : Nat, (j : Int) < tkX u m 9 0 → tkX u m 10 j ≠ m ∧ ∃ q : Nat, (q : Int) < u 9 0 ∧ tkX u m 10 j = u 10 q := fun j hj => by
    rw [s2] at hj
    obtain ⟨q, q1, q2, q3⟩ := t2 j (by omega)
    rw [s3, q2]
    exact ⟨q3, q, by omega, rfl⟩
  have sq : ∀ k b, sbX (tkX u m) k b = sbX u k b := fun k b => by unfold sbX; rw [s1 12 (by decide) (by decide), s1 13 (by decide) (by decide)]
  refine ⟨⟨by rw [s1 6 (by decide) (by decide), s1 7 (by decide) (by decide)]; exact a, fun i j h1 h2 => ?_, fun j hj => ?_, by rw [s1 5 (by decide) (by decide)]; exact d, fun k hk => ?_, ?_⟩, hm, by rw [s2]; omega, fun ⟨q, q1, q2⟩ => ?_⟩
  · rw [s2] at h2
    rw [s3]
    exact t3 (fun i j h1 h2 => b i j h1 (by omega)) i j h1 (by omega)
  · obtain ⟨-, q, q1, q2⟩ := hm j hj
    rw [q2, s1 6 (by decide) (by decide), s1 7 (by decide) (by decide)]
    exact c q q1
  · rw [s1 1 (by decide) (by decide), sq]
    have g := e k hk
    exact ⟨g.1, fun j j1 j2 => by rw [sq, sq]; exact g.2 j j1 j2⟩
  · unfold runX at f ⊢
    rw [s1 6 (by decide) (by decide), s1 7 (by decide) (by decide), s2]
    omega
  · rw [s2]
    have := t4 ⟨q, by omega, q2⟩
    omega
theorem pt_at (u : Nat → Nat → Int) (m : Int) : (∀ f, f ≠ 9 → f ≠ 10 → ptX u m f = u f) ∧ ptX u m 9 0 = u 9 0 + 1 ∧ ptX u m 10 (u 9 0).toNat = m ∧ ∀ j, j ≠ (u 9 0).toNat → ptX u m 10 j = u 10 j := by
  unfold ptX
  refine ⟨fun f a b => by rw [fuf a, fuf b], fu_at _ _ _ _, ?_, fun j hj => ?_⟩
  · rw [fu_ne (by omega), fu_at]
  · rw [fu_ne (by omega), fu_ne (fun z => hj z.2)]
theorem rs_pt {u : Nat → Nat → Int} {D : Nat → Int} (h : RS u D) (h9 : 0 ≤ u 9 0 ∧ u 9 0 < 6) (m : Int) : RS (ptX u m) (fup (fup D (11 + D 10).toNat m) 10 (D 10 + 1)) := by
  obtain ⟨s1, s2, s3, s4⟩ := pt_at u m
  have e10 := h.2.1.2.2.2.2.2.2
  have hl := h.2.2.1
  refine rs_list h s1 (fun j hj => ?_) ?_ (fun j h6 hj => ?_)
  · rw [fup_ne (by omega), fup_ne (by omega)]
  · rw [fup_at, s2, e10]
  · rw [s2] at hj
    rw [fup_ne (by omega)]
    by_cases e : j = (u 9 0).toNat
    · rw [e, s3, show 11 + (u 9 0).toNat = (11 + D 10).toNat by omega, fup_at]
    · rw [fup_ne (by omega), s4 j e]
      exact hl j h6 (by omega)
theorem su_pt {n : Int} {u : Nat → Nat → Int} (h : SU n u) (h9 : 0 ≤ u 9 0 ∧ u 9 0 < 6) {m : Nat} (hm6 : tb (u 6 0) m = 0) (hm7 : tb (u 7 0) m = 0) (hnl : ∀ j : Nat, (j : Int) < u 9 0 → u 10 j ≠ m) (hc : u 9 0 + cnt (runX u) ≤ 5) : SU n (ptX u m) := by
  obtain ⟨a, b, c, d, e, f⟩ := h
  obtain ⟨s1, s2, s3, s4⟩ := pt_at u m
  have sq : ∀ k b, sbX (ptX u m) k b = sbX u k b := fun k b => by unfold sbX; rw [s1 12 (by decide) (by decide), s1 13 (by decide) (by decide)]
  refine ⟨by rw [s1 6 (by decide) (by decide), s1 7 (by decide) (by decide)]; exact a, fun i j h1 h2 => ?_, fun j hj => ?_, by rw [s1 5 (by decide) (by decide)]; exact d, fun k hk => ?_, ?_⟩
  · rw [s2] at h2
    rw [s4 i (by omega)]
    by_cases z : j = (u 9 0).toNat
    · rw [z, s3]
      exact hnl i (by omega)
    · rw [s4 j z]
      exact b i j h1 (by omega)
  · rw [s2] at hj
    rw [s1 6 (by decide) (by decide), s1 7 (by decide) (by decide)]
    by_cases z : j = (u 9 0).toNat
    · rw [z, s3]
      exact ⟨hm6, hm7⟩
    · rw [s4 j z]
      exact c j (by omega)
  · rw [s1 1 (by decide) (by decide), sq]
    have g := e k hk
    exact ⟨g.1, fun j j1 j2 => by rw [sq, sq]; exact g.2 j j1 j2⟩
  · unfold runX at hc ⊢
    rw [s1 6 (by decide) (by decide), s1 7 (by decide) (by decide), s2]
    omega
/-- locks -/
theorem rs_lk {u : Nat → Nat → Int} {D : Nat → Int} (h : RS u D) {m : Nat} (hm : m < 6) {s is : Int} (hs : ∀ k, k < 6 → tb s k = if k = m then is else tb (u 5 0) k) : RS (fu u 5 0 s) (fup D (20 + 14 * m) is) := by
  have hh := h
  obtain ⟨a, b, c, d⟩ := h
  have ef : ∀ f, f ≠ 5 → fu u 5 0 s f = u f := fun f hf => fuf hf
  have e5 : fu u 5 0 s 5 0 = s := fu_at _ _ _ _
  obtain ⟨p1, p2, p3, p4, p5, p6⟩ := d m hm
  refine rs_own hh hm (fun j hj _ _ => fup_ne (by omega)) (by rw [fup_ne (by omega), ef 12 (by decide)]; exact b.2.2.2.1) (by rw [fup_ne (by omega), ef 8 (by decide)]; exact b.2.2.2.2.2.1) (fun f hf => ef f (by omega))
    (fun k hk e => ⟨by rw [ef 6 (by decide)], by rw [ef 7 (by decide)], by rw [e5, hs k hk, if_neg e], by rw [ef 11 (by decide)], by rw [ef 12 (by decide)], by rw [ef 14 (by decide)], fun j _ _ => by rw [ef 13 (by decide)]⟩) ⟨?_, ?_, ?_, ?_, ?_, fun q hq => ?_⟩
  · rw [fup_ne (by omega), ef 6 (by decide), ef 7 (by decide)]; exact p1
  · rw [fup_ne (by omega), ef 11 (by decide)]; exact p2
  · rw [fup_ne (by omega), ef 12 (by decide)]; exact p3
  · rw [fup_at, e5, hs m hm, if_pos rfl]
  · rw [fup_ne (by omega), ef 14 (by decide)]; exact p5
  · rw [fup_ne (by omega), sb_cg (u := u) (by rw [ef 12 (by decide)]) (fun j _ _ => by rw [ef 13 (by decide)])]; exact p6 q hq
theorem su_lk {n : Int} {u : Nat → Nat → Int} (h : SU n u) {s : Int} (hs : ∀ k : Nat, n ≤ (k : Int) → k < 6 → tb s k = 0) : SU n (fu u 5 0 s) := by
  obtain ⟨a, b, c, d, e, f⟩ := h
  have ef : ∀ f, f ≠ 5 → fu u 5 0 s f = u f := fun f hf => fuf hf
  have sq : ∀ k b, sbX (fu u 5 0 s) k b = sbX u k b := fun k b => by unfold sbX; rw [ef 12 (by decide), ef 13 (by decide)]
  refine ⟨by rw [ef 6 (by decide), ef 7 (by decide)]; exact a, by rw [ef 9 (by decide), ef 10 (by decide)]; exact b, by rw [ef 9 (by decide), ef 10 (by decide), ef 6 (by decide), ef 7 (by decide)]; exact c, by rw [fu_at]; exact hs, fun k hk => ?_, by unfold runX; rw [ef 9 (by decide), ef 6 (by decide), ef 7 (by decide)]; exact f⟩
  rw [ef 1 (by decide), sq]
  have g := e k hk
  exact ⟨g.1, fun j j1 j2 => by rw [sq, sq]; exact g.2 j j1 j2⟩
