/-! items: what the reference reads is what the class reads -/
theorem rq_full {t : Nat → Int} {L : Int} {N : Nat} {lo hi : Nat → Int} {p0 : Int} (hp : p0 ≠ -4) {n : Nat} (h : rqX t L N lo hi p0 n ≠ -4) : ∀ k, k ≤ n → rqX t L N (fun _ => 0) (fun _ => 99) p0 k = rqX t L N lo hi p0 k := by
  intro k hk
  refine ((rq_iff hp k).1 (fun z => h ?_)).1
  have := rqX_dead k z (n - k)
  rw [show k + (n - k) = n by omega] at this
  exact this
theorem rq_99 {t : Nat → Int} {L : Int} {N : Nat} {p0 : Int} {n : Nat} (h : rqX t L N (fun _ => 0) (fun _ => 99) p0 n ≠ -4) : ∀ k, k < n → 0 ≤ nvX t L (rqX t L N (fun _ => 0) (fun _ => 99) p0 k) ∧ nvX t L (rqX t L N (fun _ => 0) (fun _ => 99) p0 k) ≤ 99 := by
  intro k hk
  have hk1 : rqX t L N (fun _ => 0) (fun _ => 99) p0 (k + 1) ≠ -4 := fun z => h (by
    have := rqX_dead (k + 1) z (n - (k + 1))
    rw [show k + 1 + (n - (k + 1)) = n by omega] at this
    exact this)
  rw [rqX_s] at hk1
  by_cases c : rqX t L N (fun _ => 0) (fun _ => 99) p0 k = -4
  · rw [if_pos c] at hk1; exact absurd rfl hk1
  · rw [if_neg c] at hk1
    by_cases d : figX t L (rqX t L N (fun _ => 0) (fun _ => 99) p0 k) ∧ ltX t L (neX t L (rqX t L N (fun _ => 0) (fun _ => 99) p0 k)) = sepX N k ∧ (0 : Int) ≤ nvX t L (rqX t L N (fun _ => 0) (fun _ => 99) p0 k) ∧ nvX t L (rqX t L N (fun _ => 0) (fun _ => 99) p0 k) ≤ 99
    · exact d.2.2
    · rw [if_neg d] at hk1; exact absurd rfl hk1
abbrev r0X (t : Nat → Int) (L : Int) (N : Nat) (p : Int) (k : Nat) : Int := rqX t L N (fun _ => 0) (fun _ => 99) (p + 1) k
theorem ip_eq {t : Nat → Int} {L p : Int} (k : Nat) {c : Int} (hc : ltX t L p = c) : ipX t L p k = rqX t L (kNX c) (loX (kAX c)) (loX (kAX c + 1)) (p + 1) k := by
  unfold ipX
  rw [hc]
/-- a machine's item -/
theorem it_c {t : Nat → Int} {L p : Int} (hp : 0 ≤ p) (hc : ltX t L p = 99) : (itX t L p ≠ -4 ↔ r0X t L 6 p 6 ≠ -4 ∧ (1 ≤ nvX t L (r0X t L 6 p 0) ∧ nvX t L (r0X t L 6 p 0) ≤ 40) ∧ (nvX t L (r0X t L 6 p 0) ≤ nvX t L (r0X t L 6 p 1) ∧ nvX t L (r0X t L 6 p 1) ≤ 80) ∧ (1 ≤ nvX t L (r0X t L 6 p 5) ∧ nvX t L (r0X t L 6 p 5) ≤ 40)) ∧
    (itX t L p ≠ -4 → itX t L p = r0X t L 6 p 6 ∧ ∀ k, k < 6 → ivX t L p k = nvX t L (r0X t L 6 p k)) := by
  have hp4 : p + 1 ≠ -4 := by omega
  have e : ∀ k, ipX t L p k = rqX t L 6 (loX 3) (loX 4) (p + 1) k := fun k => ip_eq k hc
  have hit : itX t L p = if ivX t L p 0 ≤ ivX t L p 1 then ipX t L p 6 else -4 := by unfold itX; rw [if_pos hc]
  have fw : itX t L p ≠ -4 → ivX t L p 0 ≤ ivX t L p 1 ∧ ipX t L p 6 ≠ -4 ∧ itX t L p = ipX t L p 6 := by
    intro h
    rw [hit] at h ⊢
    by_cases c : ivX t L p 0 ≤ ivX t L p 1
    · rw [if_pos c] at h ⊢; exact ⟨c, h, rfl⟩
    · rw [if_neg c] at h; exact absurd rfl h
  have eqs : ipX t L p 6 ≠ -4 → ∀ k, k ≤ 6 → r0X t L 6 p k = ipX t L p k := by
    intro h k hk
    rw [e]
    rw [e] at h
    exact rq_full hp4 h k hk
  refine ⟨⟨fun h => ?_, fun h => ?_⟩, fun h => ?_⟩
  · obtain ⟨a, b, c⟩ := fw h
    have q := eqs b
    have b2 := b
    rw [e] at b2
    obtain ⟨g1, g2⟩ := (rq_iff (lo := loX 3) (hi := loX 4) hp4 6).1 b2
    have k0 : (1 : Int) ≤ nvX t L (r0X t L 6 p 0) ∧ nvX t L (r0X t L 6 p 0) ≤ 40 := g2 0 (by decide)
    have k1 : (1 : Int) ≤ nvX t L (r0X t L 6 p 1) ∧ nvX t L (r0X t L 6 p 1) ≤ 80 := g2 1 (by decide)
    have k5 : (1 : Int) ≤ nvX t L (r0X t L 6 p 5) ∧ nvX t L (r0X t L 6 p 5) ≤ 40 := g2 5 (by decide)
    unfold ivX at a
    rw [← q 0 (by decide), ← q 1 (by decide)] at a
    exact ⟨by rw [q 6 (by decide)]; exact b, k0, ⟨a, k1.2⟩, k5⟩
  · obtain ⟨a, k0, k1, k5⟩ := h
    have r := rq_99 a
    have b : rqX t L 6 (loX 3) (loX 4) (p + 1) 6 ≠ -4 := (rq_iff (lo := loX 3) (hi := loX 4) hp4 6).2 a (fun j hj => by
      rcases (show j = 0 ∨ j = 1 ∨ j = 2 ∨ j = 3 ∨ j = 4 ∨ j = 5 by omega) with rfl | rfl | rfl | rfl | rfl | rfl
      · exact k0
      · exact ⟨Int.le_trans k0.1 k1.1, k1.2⟩
      · exact r 2 (by decide)
      · exact r 3 (by decide)
      · exact r 4 (by decide)
      · exact k5)
    rw [← e] at b
    have q := eqs b
    rw [hit, if_pos (by unfold ivX; rw [← q 0 (by decide), ← q 1 (by decide)]; exact k1.1)]
    exact b
  · obtain ⟨a, b, c⟩ := fw h
    have q := eqs b
    exact ⟨by rw [c, q 6 (by decide)], fun k hk => by unfold ivX; rw [q k (by omega)]⟩
theorem it_o {t : Nat → Int} {L p : Int} (hp : 0 ≤ p) {c : Int} {N A : Nat} (hc : ltX t L p = c) (h99 : c ≠ 99) (hN : kNX c = N) (hA : kAX c = A) (hi : itX t L p = ipX t L p N) : (itX t L p ≠ -4 ↔ r0X t L N p N ≠ -4 ∧ ∀ j, j < N → loX A j ≤ nvX t L (r0X t L N p j) ∧ nvX t L (r0X t L N p j) ≤ loX (A + 1) j) ∧
    (itX t L p ≠ -4 → itX t L p = r0X t L N p N ∧ ∀ k, k < N → ivX t L p k = nvX t L (r0X t L N p k)) := by
  have hp4 : p + 1 ≠ -4 := by omega
  have e : ∀ k, ipX t L p k = rqX t L N (loX A) (loX (A + 1)) (p + 1) k := fun k => by rw [ip_eq k hc, hN, hA]
  refine ⟨⟨fun h => ?_, fun h => ?_⟩, fun h => ?_⟩
  · rw [hi, e] at h
    obtain ⟨a, b⟩ := (rq_iff (lo := loX A) (hi := loX (A + 1)) hp4 N).1 h
    exact ⟨by show rqX t L N _ _ _ N ≠ -4; rw [a]; exact h, b⟩
  · rw [hi, e]
    exact (rq_iff (lo := loX A) (hi := loX (A + 1)) hp4 N).2 h.1 h.2
  · rw [hi, e] at h ⊢
    have q := rq_full hp4 h
    exact ⟨(q N (Nat.le_refl _)).symm, fun k hk => by unfold ivX; rw [e, ← q k (by omega)]⟩
