theorem plX_n {t : Nat → Int} {L : Int} {u : Nat → Nat → Int} (hL : 0 ≤ L) (hf : (scX t L 200).2.2 = -4) : ∀ k, k ≤ 200 → plX t L u k 0 0 = (scX t L k).2.1
  | 0, _ => by
    show p0X u 0 0 = 0
    simp [p0X, fu]
  | k + 1, h => by
    have ih := plX_n (u := u) hL hf k (by omega)
    show (if L ≤ (scX t L k).1 then plX t L u k else taX (plX t L u k) (t (scX t L k).1.toNat) (ivX t L (scX t L k).1)) 0 0 = _
    rcases Classical.em (L ≤ (scX t L k).1) with q | q
    · rw [if_pos q, ih, scX_s, if_pos (Or.inr q)]
    · obtain ⟨s1, s2, s3⟩ := scX_step hL hf k (by omega) q
      have h6 := (scX_in (t := t) hL (k + 1)).2.1.2
      rw [if_neg q, s3]
      unfold taX
      rw [s3] at h6
      unfold mcX at h6 ⊢
      by_cases c : t (scX t L k).1.toNat = 99
      · rw [if_pos c] at h6 ⊢
        rw [if_pos c]
        unfold tmX
        rw [if_pos (by omega), fu_at, ih]
      · rw [if_neg c] at h6 ⊢
        rw [if_neg c]
        split
        · simp [fu]; exact ih
        · split
          · simp [fu]; exact ih
          · exact ih
