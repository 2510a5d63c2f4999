/-! a text without fault: how many machines, and that their numbers are such as may be told -/
theorem rq_no {t : Nat → Int} {L : Int} {N : Nat} {lo hi : Nat → Int} {p0 : Int} : ∀ k, rqX t L N lo hi p0 k ≠ -4 → ∀ j : Int, p0 ≤ j → j < rqX t L N lo hi p0 k → ltX t L j ≠ 99
  | 0, _, j, h1, h2 => by
    have : j < p0 := h2
    omega
  | k + 1, h, j, h1, h2 => by
    rw [rqX_s] at h h2
    by_cases c : rqX t L N lo hi p0 k = -4
    · rw [if_pos c] at h; exact absurd rfl h
    · rw [if_neg c] at h h2
      by_cases d : figX t L (rqX t L N lo hi p0 k) ∧ ltX t L (neX t L (rqX t L N lo hi p0 k)) = sepX N k ∧ lo k ≤ nvX t L (rqX t L N lo hi p0 k) ∧ nvX t L (rqX t L N lo hi p0 k) ≤ hi k
      · rw [if_pos d] at h2
        rcases Int.lt_or_le j (rqX t L N lo hi p0 k) with e | e
        · exact rq_no k c j h1 e
        · have f1 := d.1.1
          have f2 := d.1.2
          have s := sepX_in N k
          by_cases g : figX t L (rqX t L N lo hi p0 k + 1)
          · have hn : neX t L (rqX t L N lo hi p0 k) = rqX t L N lo hi p0 k + 2 := by unfold neX; rw [if_pos g]
            have g1 := g.1
            have g2 := g.2
            have d2 := d.2.1
            rw [hn] at h2 d2
            rcases (show j = rqX t L N lo hi p0 k ∨ j = rqX t L N lo hi p0 k + 1 ∨ j = rqX t L N lo hi p0 k + 2 by omega) with z | z | z <;> rw [z] <;> omega
          · have hn : neX t L (rqX t L N lo hi p0 k) = rqX t L N lo hi p0 k + 1 := by unfold neX; rw [if_neg g]
            have d2 := d.2.1
            rw [hn] at h2 d2
            rcases (show j = rqX t L N lo hi p0 k ∨ j = rqX t L N lo hi p0 k + 1 by omega) with z | z <;> rw [z] <;> omega
      · rw [if_neg d] at h; exact absurd rfl h
theorem cntC_rng {t : Nat → Int} {p : Nat} : ∀ q : Nat, p ≤ q → (∀ j, p ≤ j → j < q → t j ≠ 99) → cntC t q = cntC t p
  | 0, h, _ => by rw [show p = 0 by omega]
  | q + 1, h, hn => by
    by_cases e : p = q + 1
    · rw [e]
    · show cntC t q + (if t q = 99 then 1 else 0) = cntC t p
      rw [if_neg (hn q (by omega) (by omega)), Int.add_zero]
      exact cntC_rng q (by omega) (fun j a b => hn j a (by omega))
theorem it_no {t : Nat → Int} {L p : Int} (h : itX t L p ≠ -4) : ∀ j : Int, p + 1 ≤ j → j < itX t L p → ltX t L j ≠ 99 := by
  intro j h1 h2
  unfold itX at h h2
  by_cases a : ltX t L p = 99
  · rw [if_pos a] at h h2
    by_cases b : ivX t L p 0 ≤ ivX t L p 1
    · rw [if_pos b] at h h2; exact rq_no 6 h j h1 h2
    · rw [if_neg b] at h; exact absurd rfl h
  · rw [if_neg a] at h h2
    by_cases b : ltX t L p = 114
    · rw [if_pos b] at h h2; exact rq_no 4 h j h1 h2
    · rw [if_neg b] at h h2
      by_cases c : ltX t L p = 104
      · rw [if_pos c] at h h2; exact rq_no 3 h j h1 h2
      · rw [if_neg c] at h; exact absurd rfl h
theorem sc_cnt {t : Nat → Int} {L : Int} (hL : 0 ≤ L) (hf : (scX t L 200).2.2 = -4) : ∀ k, k ≤ 200 → cntC t (scX t L k).1.toNat = (scX t L k).2.1
  | 0, _ => rfl
  | k + 1, hk => by
    have ih := sc_cnt hL hf k (by omega)
    have hin := scX_in (t := t) hL k
    by_cases q : L ≤ (scX t L k).1
    · rw [scX_s, if_pos (Or.inr q)]
      exact ih
    · obtain ⟨s1, s2, s3⟩ := scX_step hL hf k (by omega) q
      rw [s2, s3]
      have ii := itX_in (t := t) (p := (scX t L k).1) hL
      have hn := it_no s1
      generalize (scX t L k).1 = p at *
      have e1 : cntC t (itX t L p).toNat = cntC t (p.toNat + 1) := cntC_rng _ (by omega) (fun j a b => by
        have h := hn (j : Int) (by omega) (by omega)
        unfold ltX at h
        rw [if_pos ⟨by omega, by omega⟩] at h
        exact h)
      rw [e1]
      show cntC t p.toNat + (if t p.toNat = 99 then 1 else 0) = _
      unfold mcX
      rw [ih]
      split <;> omega
theorem text_cnt {t : Nat → Int} {L : Int} (hL : 0 ≤ L) (h2 : L ≤ 200) (hf : (scX t L 200).2.2 = -4) : cntC t L.toNat = (scX t L 200).2.1 := by
  have h := sc_cnt hL hf 200 (Nat.le_refl _)
  have hin := scX_in (t := t) hL 200
  have h3 := hin.2.2.1 hf
  have e : (scX t L 200).1 = L := by omega
  rw [e] at h
  exact h
/-- numbers of a plant as a text tells them; there may be no machine yet -/
def PW (u : Nat → Nat → Int) : Prop := (0 ≤ u 0 0 ∧ u 0 0 ≤ 6) ∧ (∀ k : Nat, (k : Int) < u 0 0 → (1 ≤ u 1 k ∧ u 1 k ≤ 40) ∧ (u 1 k ≤ u 2 k ∧ u 2 k ≤ 80) ∧ (0 ≤ u 3 k ∧ u 3 k ≤ 99) ∧ (0 ≤ u 4 k ∧ u 4 k ≤ 99) ∧ (0 ≤ u 5 k ∧ u 5 k ≤ 99) ∧ (1 ≤ u 6 k ∧ u 6 k ≤ 40)) ∧
  (0 ≤ u 7 0 ∧ u 7 0 ≤ 30) ∧ (0 ≤ u 8 0 ∧ u 8 0 ≤ 30) ∧ (1 ≤ u 9 0 ∧ u 9 0 ≤ 9) ∧ (0 ≤ u 10 0 ∧ u 10 0 ≤ 9) ∧ (50 ≤ u 11 0 ∧ u 11 0 ≤ 99) ∧ (1 ≤ u 12 0 ∧ u 12 0 ≤ 99) ∧ (0 ≤ u 13 0 ∧ u 13 0 ≤ 9)
theorem pw_0 (u : Nat → Nat → Int) : PW (p0X u) := by
  have e : p0X u 0 0 = 0 := by simp [p0X, fu]
  refine ⟨by rw [e]; decide, fun k hk => by omega, ?_⟩
  simp [p0X, fu]
theorem pw_ta {t : Nat → Int} {L p : Int} (hp : 0 ≤ p) (hpL : p < L) {u : Nat → Nat → Int} (h : PW u) (hi : itX t L p ≠ -4) (hn : t p.toNat = 99 → u 0 0 < 6) : PW (taX u (t p.toNat) (ivX t L p)) := by
  have hlt : ltX t L p = t p.toNat := by unfold ltX; rw [if_pos ⟨hp, hpL⟩]
  obtain ⟨a, b, c⟩ := h
  by_cases h99 : t p.toNat = 99
  · obtain ⟨i1, i2⟩ := it_c (t := t) (L := L) hp (hlt.trans h99)
    obtain ⟨g0, g1, g2, g3⟩ := i1.mp hi
    have r := rq_99 g0
    obtain ⟨-, v⟩ := i2 hi
    have v0 := v 0 (by decide)
    have v1 := v 1 (by decide)
    have v2 := v 2 (by decide)
    have v3 := v 3 (by decide)
    have v4 := v 4 (by decide)
    have v5 := v 5 (by decide)
    have r2 := r 2 (by decide)
    have r3 := r 3 (by decide)
    have r4 := r 4 (by decide)
    have hu := hn h99
    unfold taX tmX
    rw [if_pos h99, if_pos hu]
    obtain ⟨n, en⟩ : ∃ n : Nat, n = (u 0 0).toNat := ⟨_, rfl⟩
    rw [← en]
    refine ⟨by rw [fu_at]; omega, fun k hk => ?_, ?_⟩
    · rw [fu_at] at hk
      by_cases e : k = n
      · subst e
        simp only [fu]
        simp
        rw [v0, v1, v2, v3, v4, v5]
        exact ⟨g1, g2, r2, r3, r4, g3⟩
      · have := b k (by omega)
        simp only [fu]
        simp [e]
        exact this
    · simp only [fu]
      simp
      exact c
  · by_cases h114 : t p.toNat = 114
    · have hi2 : itX t L p = ipX t L p 4 := by unfold itX; rw [if_neg (by rw [hlt]; exact h99), if_pos (by rw [hlt]; exact h114)]
      obtain ⟨i1, i2⟩ := it_o (t := t) (L := L) hp (c := 114) (N := 4) (A := 5) (hlt.trans h114) (by decide) rfl rfl hi2
      obtain ⟨-, g⟩ := i1.mp hi
      obtain ⟨-, v⟩ := i2 hi
      have g0 : (0 : Int) ≤ _ ∧ _ ≤ (30 : Int) := g 0 (by decide)
      have g1 : (0 : Int) ≤ _ ∧ _ ≤ (30 : Int) := g 1 (by decide)
      have g2 : (1 : Int) ≤ _ ∧ _ ≤ (9 : Int) := g 2 (by decide)
      have g3 : (0 : Int) ≤ _ ∧ _ ≤ (9 : Int) := g 3 (by decide)
      rw [← v 0 (by decide)] at g0
      rw [← v 1 (by decide)] at g1
      rw [← v 2 (by decide)] at g2
      rw [← v 3 (by decide)] at g3
      unfold taX
      rw [if_neg h99, if_pos h114]
      refine ⟨by simp [fu]; exact a, fun k hk => ?_, ?_⟩
      · have hk2 : (k : Int) < u 0 0 := by simpa [fu] using hk
        have := b k hk2
        simp only [fu]
        simp
        exact this
      · simp only [fu]
        simp
        exact ⟨g0, g1, g2, g3, c.2.2.2.2⟩
    · by_cases h104 : t p.toNat = 104
      · have hi2 : itX t L p = ipX t L p 3 := by unfold itX; rw [if_neg (by rw [hlt]; exact h99), if_neg (by rw [hlt]; exact h114), if_pos (by rw [hlt]; exact h104)]
        obtain ⟨i1, i2⟩ := it_o (t := t) (L := L) hp (c := 104) (N := 3) (A := 7) (hlt.trans h104) (by decide) rfl rfl hi2
        obtain ⟨-, g⟩ := i1.mp hi
        obtain ⟨-, v⟩ := i2 hi
        have g0 : (50 : Int) ≤ _ ∧ _ ≤ (99 : Int) := g 0 (by decide)
        have g1 : (1 : Int) ≤ _ ∧ _ ≤ (99 : Int) := g 1 (by decide)
        have g2 : (0 : Int) ≤ _ ∧ _ ≤ (9 : Int) := g 2 (by decide)
        rw [← v 0 (by decide)] at g0
        rw [← v 1 (by decide)] at g1
        rw [← v 2 (by decide)] at g2
        unfold taX
        rw [if_neg h99, if_neg h114, if_pos h104]
        refine ⟨by simp [fu]; exact a, fun k hk => ?_, ?_⟩
        · have hk2 : (k : Int) < u 0 0 := by simpa [fu] using hk
          have := b k hk2
          simp only [fu]
          simp
          exact this
        · simp only [fu]
          simp
          exact ⟨c.1, c.2.1, c.2.2.1, c.2.2.2.1, g0, g1, g2⟩
      · exfalso
        apply hi
        unfold itX
        rw [if_neg (by rw [hlt]; exact h99), if_neg (by rw [hlt]; exact h114), if_neg (by rw [hlt]; exact h104)]
theorem pw_pl {t : Nat → Int} {L : Int} {u : Nat → Nat → Int} (hL : 0 ≤ L) (hf : (scX t L 200).2.2 = -4) : ∀ k, k ≤ 200 → PW (plX t L u k)
  | 0, _ => pw_0 u
  | k + 1, hk => by
    have ih := pw_pl (u := u) hL hf k (by omega)
    have hn := plX_n (u := u) hL hf k (by omega)
    have hin := scX_in (t := t) hL k
    show PW (if L ≤ (scX t L k).1 then plX t L u k else taX (plX t L u k) (t (scX t L k).1.toNat) (ivX t L (scX t L k).1))
    by_cases q : L ≤ (scX t L k).1
    · rw [if_pos q]; exact ih
    · rw [if_neg q]
      obtain ⟨s1, s2, s3⟩ := scX_step hL hf k (by omega) q
      have h6 := (scX_in (t := t) hL (k + 1)).2.1.2
      refine pw_ta hin.1.1 (by omega) ih s1 (fun c => ?_)
      rw [s3] at h6
      unfold mcX at h6
      rw [if_pos c] at h6
      omega
theorem pv_pl {t : Nat → Int} {L : Int} {u : Nat → Nat → Int} (hL : 0 ≤ L) (hf : (scX t L 200).2.2 = -4) (hm : (scX t L 200).2.1 ≠ 0) : PV (plX t L u 200) := by
  have h := pw_pl (u := u) hL hf 200 (Nat.le_refl _)
  have hn := plX_n (u := u) hL hf 200 (Nat.le_refl _)
  have h0 := (scX_in (t := t) hL 200).2.1
  exact ⟨⟨by omega, h.1.2⟩, h.2⟩
