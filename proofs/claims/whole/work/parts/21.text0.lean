/-! THE TEXT: pure -/
def ltX (t : Nat → Int) (L p : Int) : Int := if 0 ≤ p ∧ p < L then t p.toNat else 32
abbrev figX (t : Nat → Int) (L p : Int) : Prop := 48 ≤ ltX t L p ∧ ltX t L p ≤ 57
def nvX (t : Nat → Int) (L p : Int) : Int := if figX t L (p + 1) then (ltX t L p - 48) * 10 + ltX t L (p + 1) - 48 else ltX t L p - 48
def neX (t : Nat → Int) (L p : Int) : Int := if figX t L (p + 1) then p + 2 else p + 1
def sepX (N k : Nat) : Int := if k + 1 < N then 44 else 59
def mcX (t : Nat → Int) (p m : Int) : Int := if t p.toNat = 99 then m + 1 else m
theorem mcX_in (t : Nat → Int) (p m : Int) : m ≤ mcX t p m ∧ mcX t p m ≤ m + 1 := by
  unfold mcX
  split <;> omega
theorem sepX_in (N k : Nat) : sepX N k = 44 ∨ sepX N k = 59 := by
  unfold sepX
  split <;> omega
/-- behind k numbers of N, each within its bounds; -4: they are not so -/
def rqX (t : Nat → Int) (L : Int) (N : Nat) (lo hi : Nat → Int) (p0 : Int) : Nat → Int
  | 0 => p0
  | k + 1 => if rqX t L N lo hi p0 k = -4 then -4 else
      if figX t L (rqX t L N lo hi p0 k) ∧ ltX t L (neX t L (rqX t L N lo hi p0 k)) = sepX N k ∧ lo k ≤ nvX t L (rqX t L N lo hi p0 k) ∧ nvX t L (rqX t L N lo hi p0 k) ≤ hi k then neX t L (rqX t L N lo hi p0 k) + 1 else -4
abbrev loX (a : Nat) : Nat → Int := fun k => (slX a).getD k 0
def kNX (c : Int) : Nat := if c = 99 then 6 else if c = 114 then 4 else 3
def kAX (c : Int) : Nat := if c = 99 then 3 else if c = 114 then 5 else 7
/-- the k-th place within the item that begins at p, and the number there -/
def ipX (t : Nat → Int) (L p : Int) (k : Nat) : Int := rqX t L (kNX (ltX t L p)) (loX (kAX (ltX t L p))) (loX (kAX (ltX t L p) + 1)) (p + 1) k
def ivX (t : Nat → Int) (L p : Int) (k : Nat) : Int := nvX t L (ipX t L p k)
/-- behind the item that begins at p; -4: it is not so -/
def itX (t : Nat → Int) (L p : Int) : Int :=
  if ltX t L p = 99 then (if ivX t L p 0 ≤ ivX t L p 1 then ipX t L p 6 else -4) else if ltX t L p = 114 then ipX t L p 4 else if ltX t L p = 104 then ipX t L p 3 else -4
/-- place, machines and fault behind k items -/
def scX (t : Nat → Int) (L : Int) : Nat → Int × Int × Int
  | 0 => (0, 0, -4)
  | k + 1 => if (scX t L k).2.2 ≠ -4 ∨ L ≤ (scX t L k).1 then scX t L k else
      if itX t L (scX t L k).1 = -4 ∨ 6 < mcX t (scX t L k).1 (scX t L k).2.1 then ((scX t L k).1, (scX t L k).2.1, (scX t L k).1)
      else (itX t L (scX t L k).1, mcX t (scX t L k).1 (scX t L k).2.1, -4)
def cntC (t : Nat → Int) : Nat → Int
  | 0 => 0
  | k + 1 => cntC t k + (if t k = 99 then 1 else 0)
def tmX (u : Nat → Nat → Int) (v : Nat → Int) : Nat → Nat → Int :=
  if u 0 0 < 6 then fu (fu (fu (fu (fu (fu (fu u 1 (u 0 0).toNat (v 0)) 2 (u 0 0).toNat (v 1)) 3 (u 0 0).toNat (v 2)) 4 (u 0 0).toNat (v 3)) 5 (u 0 0).toNat (v 4)) 6 (u 0 0).toNat (v 5)) 0 0 (u 0 0 + 1) else u
def taX (u : Nat → Nat → Int) (c : Int) (v : Nat → Int) : Nat → Nat → Int :=
  if c = 99 then tmX u v else if c = 114 then fu (fu (fu (fu u 7 0 (v 0)) 8 0 (v 1)) 9 0 (v 2)) 10 0 (v 3) else if c = 104 then fu (fu (fu u 11 0 (v 0)) 12 0 (v 1)) 13 0 (v 2) else u
def p0X (u : Nat → Nat → Int) : Nat → Nat → Int := fu (fu (fu (fu (fu (fu (fu (fu u 0 0 0) 7 0 5) 8 0 3) 9 0 3) 10 0 1) 11 0 90) 12 0 60) 13 0 2
/-- the plant behind k items -/
def plX (t : Nat → Int) (L : Int) (u : Nat → Nat → Int) : Nat → Nat → Nat → Int
  | 0 => p0X u
  | k + 1 => if L ≤ (scX t L k).1 then plX t L u k else taX (plX t L u k) (t (scX t L k).1.toNat) (ivX t L (scX t L k).1)
theorem ltX_in {t : Nat → Int} {L : Int} (ht : ∀ j : Nat, j < 200 → 0 ≤ t j ∧ t j ≤ 126) (hL : L ≤ 200) (p : Int) : 0 ≤ ltX t L p ∧ ltX t L p ≤ 126 := by
  unfold ltX
  split
  · rename_i h; exact ht p.toNat (by omega)
  · omega
theorem nvX_in {t : Nat → Int} {L p : Int} (h : figX t L p) : 0 ≤ nvX t L p ∧ nvX t L p ≤ 99 := by
  unfold nvX
  have h1 := h.1
  have h2 := h.2
  split
  · rename_i q; have := q.1; have := q.2; omega
  · omega
theorem rqX_ge {t : Nat → Int} {L : Int} {N : Nat} {lo hi : Nat → Int} {p0 : Int} : ∀ k, rqX t L N lo hi p0 k = -4 ∨ p0 + k ≤ rqX t L N lo hi p0 k
  | 0 => Or.inr (by show p0 + 0 ≤ p0; omega)
  | k + 1 => by
    have ih := rqX_ge (t := t) (L := L) (N := N) (lo := lo) (hi := hi) (p0 := p0) k
    unfold rqX
    split
    · exact Or.inl rfl
    · split
      · right
        unfold neX
        split <;> omega
      · exact Or.inl rfl
theorem rqX_le {t : Nat → Int} {L : Int} {N : Nat} {lo hi : Nat → Int} {p0 : Int} (hL : 0 ≤ L) : ∀ k, rqX t L N lo hi p0 (k + 1) = -4 ∨ rqX t L N lo hi p0 (k + 1) ≤ L := by
  intro k
  unfold rqX
  split
  · exact Or.inl rfl
  · split
    · rename_i h
      right
      have h2 := h.2.1
      have h3 := sepX_in N k
      unfold ltX at h2
      split at h2
      · omega
      · omega
    · exact Or.inl rfl
theorem itX_in {t : Nat → Int} {L p : Int} (hL : 0 ≤ L) : itX t L p = -4 ∨ (p + 1 ≤ itX t L p ∧ itX t L p ≤ L) := by
  have key : ∀ k, 1 ≤ k → ipX t L p k = -4 ∨ (p + 1 ≤ ipX t L p k ∧ ipX t L p k ≤ L) := by
    intro k hk
    unfold ipX
    have a := rqX_ge (t := t) (L := L) (N := kNX (ltX t L p)) (lo := loX (kAX (ltX t L p))) (hi := loX (kAX (ltX t L p) + 1)) (p0 := p + 1) k
    obtain ⟨j, rfl⟩ : ∃ j, k = j + 1 := ⟨k - 1, by omega⟩
    have b := rqX_le (t := t) (L := L) (N := kNX (ltX t L p)) (lo := loX (kAX (ltX t L p))) (hi := loX (kAX (ltX t L p) + 1)) (p0 := p + 1) hL j
    omega
  unfold itX
  split
  · split
    · exact key 6 (by decide)
    · exact Or.inl rfl
  · split
    · exact key 4 (by decide)
    · split
      · exact key 3 (by decide)
      · exact Or.inl rfl
theorem scX_in {t : Nat → Int} {L : Int} (hL : 0 ≤ L) : ∀ k, (0 ≤ (scX t L k).1 ∧ (scX t L k).1 ≤ L) ∧ (0 ≤ (scX t L k).2.1 ∧ (scX t L k).2.1 ≤ 6) ∧ ((scX t L k).2.2 = -4 → L ≤ (scX t L k).1 ∨ (k : Int) ≤ (scX t L k).1) ∧ ((scX t L k).2.2 = -4 ∨ (0 ≤ (scX t L k).2.2 ∧ (scX t L k).2.2 < L))
  | 0 => ⟨⟨Int.le_refl _, hL⟩, ⟨Int.le_refl _, by show (0 : Int) ≤ 6; decide⟩, fun _ => Or.inr (Int.le_refl _), Or.inl rfl⟩
  | k + 1 => by
    have ih := scX_in (t := t) hL k
    have ii := itX_in (t := t) (p := (scX t L k).1) hL
    unfold scX
    split
    · rename_i h
      refine ⟨ih.1, ih.2.1, fun h2 => ?_, ih.2.2.2⟩
      rcases h with h | h
      · exact absurd h2 h
      · exact Or.inl h
    · rename_i h
      have h1 : ¬ L ≤ (scX t L k).1 := fun z => h (Or.inr z)
      have h2 : (scX t L k).2.2 = -4 := Classical.not_not.mp (fun z => h (Or.inl z))
      have h3 := ih.2.2.1 h2
      split
      · rename_i q
        refine ⟨ih.1, ih.2.1, fun z => ?_, Or.inr ?_⟩
        · exact absurd z (by show ¬ (scX t L k).1 = -4; omega)
        · show 0 ≤ (scX t L k).1 ∧ (scX t L k).1 < L; omega
      · rename_i q
        have q1 : ¬ itX t L (scX t L k).1 = -4 := fun z => q (Or.inl z)
        have q2 : ¬ 6 < mcX t (scX t L k).1 (scX t L k).2.1 := fun z => q (Or.inr z)
        refine ⟨?_, ?_, fun _ => ?_, Or.inl rfl⟩
        · show 0 ≤ itX t L (scX t L k).1 ∧ itX t L (scX t L k).1 ≤ L; omega
        · show 0 ≤ mcX t (scX t L k).1 (scX t L k).2.1 ∧ mcX t (scX t L k).1 (scX t L k).2.1 ≤ 6
          have := ih.2.1
          have := mcX_in t (scX t L k).1 (scX t L k).2.1
          omega
        · right; show ((k + 1 : Nat) : Int) ≤ itX t L (scX t L k).1; omega
theorem scX_s (t : Nat → Int) (L : Int) (k : Nat) : scX t L (k + 1) = if (scX t L k).2.2 ≠ -4 ∨ L ≤ (scX t L k).1 then scX t L k else
      if itX t L (scX t L k).1 = -4 ∨ 6 < mcX t (scX t L k).1 (scX t L k).2.1 then ((scX t L k).1, (scX t L k).2.1, (scX t L k).1)
      else (itX t L (scX t L k).1, mcX t (scX t L k).1 (scX t L k).2.1, -4) := rfl
theorem rqX_s (t : Nat → Int) (L : Int) (N : Nat) (lo hi : Nat → Int) (p0 : Int) (k : Nat) : rqX t L N lo hi p0 (k + 1) = if rqX t L N lo hi p0 k = -4 then -4 else
      if figX t L (rqX t L N lo hi p0 k) ∧ ltX t L (neX t L (rqX t L N lo hi p0 k)) = sepX N k ∧ lo k ≤ nvX t L (rqX t L N lo hi p0 k) ∧ nvX t L (rqX t L N lo hi p0 k) ≤ hi k then neX t L (rqX t L N lo hi p0 k) + 1 else -4 := rfl
theorem rqX_dead {t : Nat → Int} {L : Int} {N : Nat} {lo hi : Nat → Int} {p0 : Int} (k : Nat) (h : rqX t L N lo hi p0 k = -4) : ∀ d : Nat, rqX t L N lo hi p0 (k + d) = -4
  | 0 => h
  | d + 1 => by
    have := rqX_dead k h d
    show rqX t L N lo hi p0 ((k + d) + 1) = -4
    rw [rqX_s, if_pos this]
theorem scX_stop {t : Nat → Int} {L : Int} (k : Nat) (h : (scX t L k).2.2 ≠ -4 ∨ L ≤ (scX t L k).1) : ∀ d : Nat, scX t L (k + d) = scX t L k
  | 0 => rfl
  | d + 1 => by
    have := scX_stop k h d
    show (if (scX t L (k + d)).2.2 ≠ -4 ∨ L ≤ (scX t L (k + d)).1 then scX t L (k + d) else _) = _
    rw [this, if_pos h]
theorem plX_stop {t : Nat → Int} {L : Int} {u : Nat → Nat → Int} (k : Nat) (h : L ≤ (scX t L k).1) : ∀ d : Nat, plX t L u (k + d) = plX t L u k
  | 0 => rfl
  | d + 1 => by
    have := plX_stop (u := u) k h d
    show (if L ≤ (scX t L (k + d)).1 then plX t L u (k + d) else _) = _
    rw [scX_stop k (Or.inr h) d, if_pos h, this]
/-- a text without fault has none at any place -/
theorem scX_ok {t : Nat → Int} {L : Int} (hf : (scX t L 200).2.2 = -4) (k : Nat) (hk : k ≤ 200) : (scX t L k).2.2 = -4 := by
  rcases Classical.em ((scX t L k).2.2 = -4) with h | h
  · exact h
  · have := scX_stop k (Or.inl h) (200 - k)
    rw [show k + (200 - k) = 200 by omega] at this
    rw [this] at hf
    exact hf
theorem scX_step {t : Nat → Int} {L : Int} (hL : 0 ≤ L) (hf : (scX t L 200).2.2 = -4) (k : Nat) (hk : k < 200) (h : ¬ L ≤ (scX t L k).1) : itX t L (scX t L k).1 ≠ -4 ∧ (scX t L (k + 1)).1 = itX t L (scX t L k).1 ∧ (scX t L (k + 1)).2.1 = mcX t (scX t L k).1 (scX t L k).2.1 := by
  have h1 := scX_ok hf k (by omega)
  have h2 := scX_ok hf (k + 1) (by omega)
  rw [scX_s] at h2 ⊢
  rw [if_neg (by rintro (z | z); exact z h1; exact h z)] at h2 ⊢
  split at h2
  · rename_i q
    rw [if_pos q]
    have h3 : (scX t L k).1 = -4 := h2
    have h4 := (scX_in (t := t) hL k).1.1
    omega
  · rename_i q
    rw [if_neg q]
    exact ⟨fun z => q (Or.inl z), rfl, rfl⟩
theorem nar_char {v : Int} (h0 : 0 ≤ v) (h1 : v ≤ 126) : narrow .char (.int (iI v)) = .int (iI v) := by
  have h : ∀ a : Fin 127, vp_nar .char (iI (a.val : Int)) = iI (a.val : Int) := by decide +kernel
  have h2 := h ⟨v.toNat, by omega⟩
  rw [show (((⟨v.toNat, by omega⟩ : Fin 127).val : Nat) : Int) = v by show ((v.toNat : Nat) : Int) = v; omega] at h2
  have h3 : narrow .char (.int (iI v)) = .int (vp_nar .char (iI v)) := rfl
  rw [h3, h2]
theorem j2c_eq {v : Int} (h0 : 0 ≤ v) (h1 : v ≤ 126) : j2c v = v := by
  have h : ∀ a : Fin 127, j2c (a.val : Int) = (a.val : Int) := by decide +kernel
  have h2 := h ⟨v.toNat, by omega⟩
  rw [show (((⟨v.toNat, by omega⟩ : Fin 127).val : Nat) : Int) = v by show ((v.toNat : Nat) : Int) = v; omega] at h2
  exact h2
