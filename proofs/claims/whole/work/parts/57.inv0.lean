/-! BOTH WORLDS side by side -/
def HSt (n : Int) (u : Nat → Nat → Int) (D : Nat → Int) : Prop := SV (9 * u 1 0) n u ∧ u 1 0 ≤ 9999 ∧ SU n u ∧ RS u D
abbrev pcX (w : Wd) (c : Nat) : Nat := 5 + ((w 9 1 0 - w 9 0 0 + c) % 4).toNat
def PastI (w x : Wd) : Prop := ((0 ≤ w 9 1 0 ∧ w 9 1 0 < 4) ∧ (0 ≤ w 9 0 0 ∧ w 9 0 0 ≤ 4)) ∧ x 20 8 0 = w 9 0 0 ∧ ∀ c : Nat, (c : Int) < w 9 0 0 → HSt (w 2 0 0) (w (pcX w c)) (fun k => x 20 7 (101 * c + k))
def TextI (w x : Wd) : Prop := ((0 ≤ w 1 0 0 ∧ w 1 0 0 ≤ 200) ∧ (∀ j : Nat, j < 200 → 0 ≤ w 1 1 j ∧ w 1 1 j ≤ 126) ∧ (∀ j : Nat, j < 6 → 0 ≤ w 1 2 j ∧ w 1 2 j ≤ 99)) ∧ x 20 1 0 = w 1 0 0 ∧ (∀ j : Nat, (j : Int) < w 1 0 0 → x 20 0 j = w 1 1 j) ∧ ∀ j : Nat, j < 6 → 0 ≤ x 20 9 j ∧ x 20 9 j ≤ 99
def INV (w x : Wd) : Prop := (PV (w 2) ∧ PlR (w 2) (x 20 4)) ∧ HSt (w 2 0 0) (w 3) (x 20 5) ∧ PastI w x ∧ ((ShC (w 2) (w 11) ∧ ShC (w 2) (w 12) ∧ BsC (w 2) (w 13)) ∧ TbC (w 2) (x 20)) ∧ TextI w x
theorem inv_xi {w x : Wd} (h : INV w x) : XI w := by
  obtain ⟨⟨a, b⟩, ⟨c, d, e, f⟩, ⟨g, i, j⟩, ⟨k, l⟩, ⟨m, n⟩⟩ := h
  exact ⟨a, c, d, e.2.2.2.2.2, g, k, m⟩
theorem hst_inS {n : Int} {u v : Nat → Nat → Int} {D E : Nat → Int} (h : HSt n u D) (e : ∀ f j, inS f j → v f j = u f j) (hE : ∀ j, j < 101 → E j = D j) : HSt n v E := by
  obtain ⟨a, b, c, d⟩ := h
  have e1 : v 1 0 = u 1 0 := e 1 0 (Or.inr (Or.inl ⟨by decide, by decide, rfl⟩))
  have h9 := a.2.2.2.1.2.2
  exact ⟨by rw [e1]; exact sv_inS a e, by rw [e1]; exact b, su_inS c h9 e, rs_D (rs_inS d h9 e) hE⟩
/-- the state was kept on both sides -/
theorem past_keep {w w2 x x2 : Wd} {P : Nat → Prop} (hs : HSt (w 2 0 0) (w 3) (x 20 5)) (h : PastI w x) (a : KP w w2 P) (hP : ∀ o, P o → 9 < o) (b : NoteR x x2) : PastI w2 x2 := by
  obtain ⟨⟨h1, h2⟩, h3, h4⟩ := h
  obtain ⟨a1, a2, a3, a4⟩ := a
  obtain ⟨b1, b2⟩ := b
  have e2 : w2 2 = w 2 := a4 2 (by decide) (by omega) (by decide) (fun z => by have := hP _ z; omega)
  refine ⟨⟨by rw [a2]; omega, by rw [a3]; omega⟩, by rw [b1, a3, h3], fun c hc => ?_⟩
  rw [a3] at hc
  rw [e2]
  rw [h3] at b2
  by_cases e : (c : Int) + 1 = min 4 (w 9 0 0 + 1)
  · have ep : pcX w2 c = 5 + (w 9 1 0).toNat := by unfold pcX; rw [a2, a3]; omega
    rw [ep]
    refine hst_inS hs a1 (fun k hk => ?_)
    show x2 20 7 (101 * c + k) = x 20 5 k
    rw [b2 c k hc hk, if_pos e]
  · by_cases e4 : w 9 0 0 = 4
    · have g := h4 (c + 1) (by omega)
      have ep : pcX w2 c = pcX w (c + 1) := by unfold pcX; rw [a2, a3]; omega
      have eo : w2 (pcX w2 c) = w (pcX w (c + 1)) := by
        rw [ep]
        exact a4 _ (by unfold pcX; omega) (by unfold pcX; omega) (by unfold pcX; omega) (fun z => by have := hP _ z; unfold pcX at this; omega)
      rw [eo]
      refine hst_inS g (fun _ _ _ => rfl) (fun k hk => ?_)
      show x2 20 7 (101 * c + k) = x 20 7 (101 * (c + 1) + k)
      rw [b2 c k hc hk, if_neg e, if_pos e4]
    · have g := h4 c (by omega)
      have ep : pcX w2 c = pcX w c := by unfold pcX; rw [a2, a3]; omega
      have eo : w2 (pcX w2 c) = w (pcX w c) := by
        rw [ep]
        exact a4 _ (by unfold pcX; omega) (by unfold pcX; omega) (by unfold pcX; omega) (fun z => by have := hP _ z; unfold pcX at this; omega)
      rw [eo]
      refine hst_inS g (fun _ _ _ => rfl) (fun k hk => ?_)
      show x2 20 7 (101 * c + k) = x 20 7 (101 * c + k)
      rw [b2 c k hc hk, if_neg e, if_neg e4]
/-- a change of the state that was kept first: what is left to show -/
theorem inv_chg {w w2 x x2 : Wd} {P : Nat → Prop} (h : INV w x) (a : KP w w2 P) (hP : ∀ o, P o → o = 11) (hsh : ShC (w 2) (w2 11)) (b : NoteR x x2) (c : MF x x2) (d : TbC (w 2) (x2 20)) (hn : HSt (w 2 0 0) (w2 3) (x2 20 5)) : INV w2 x2 := by
  obtain ⟨⟨p1, p2⟩, hs, hp, ⟨⟨k1, k2, k3⟩, k4⟩, ⟨t0, t1, t2, t3⟩⟩ := h
  have hP9 : ∀ o, P o → 9 < o := fun o z => by rw [hP o z]; decide
  have fr : ∀ o, o ≠ 3 → o ≠ 5 + (w 9 1 0).toNat → o ≠ 9 → o ≠ 11 → w2 o = w o := fun o z1 z2 z3 z4 => a.2.2.2 o z1 z2 z3 (fun z => z4 (hP o z))
  have hnx := hp.1.1
  have e2 := fr 2 (by decide) (by omega) (by decide) (by decide)
  have e1 := fr 1 (by decide) (by omega) (by decide) (by decide)
  have e12 := fr 12 (by decide) (by omega) (by decide) (by decide)
  have e13 := fr 13 (by decide) (by omega) (by decide) (by decide)
  refine ⟨⟨by rw [e2]; exact p1, by rw [e2, c.2.2.1]; exact p2⟩, by rw [e2]; exact hn, past_keep hs hp a hP9 b, ⟨⟨by rw [e2]; exact hsh, by rw [e2, e12]; exact k2, by rw [e2, e13]; exact k3⟩, by rw [e2]; exact d⟩, ⟨by rw [e1]; exact t0, by rw [e1, c.2.1]; exact t1, by rw [e1, c.1]; exact t2, by rw [c.2.2.2]; exact t3⟩⟩
/-- nothing but what is reckoned has changed -/
theorem inv_same {w w2 x x2 : Wd} (h : INV w x) (a : ∀ o, o < 10 → o ≠ 4 → w2 o = w o) (c1 : ShC (w 2) (w2 11)) (c2 : ShC (w 2) (w2 12)) (c3 : BsC (w 2) (w2 13)) (b : ∀ f, f = 0 ∨ f = 1 ∨ f = 4 ∨ f = 7 ∨ f = 8 ∨ f = 9 → x2 20 f = x 20 f) (b5 : ∀ j, j < 101 → x2 20 5 j = x 20 5 j) (d : TbC (w 2) (x2 20)) : INV w2 x2 := by
  obtain ⟨⟨p1, p2⟩, hs, ⟨q1, q2, q3⟩, ⟨⟨k1, k2, k3⟩, k4⟩, ⟨t0, t1, t2, t3⟩⟩ := h
  have e2 := a 2 (by decide) (by decide)
  have e1 := a 1 (by decide) (by decide)
  have e3 := a 3 (by decide) (by decide)
  have e9 := a 9 (by decide) (by decide)
  refine ⟨⟨by rw [e2]; exact p1, by rw [e2, b 4 (by decide)]; exact p2⟩, by rw [e2, e3]; exact hst_inS hs (fun _ _ _ => rfl) b5, ⟨by rw [e9]; exact q1, by rw [e9, b 8 (by decide)]; exact q2, fun c hc => ?_⟩, ⟨⟨by rw [e2]; exact c1, by rw [e2]; exact c2, by rw [e2]; exact c3⟩, by rw [e2]; exact d⟩, ⟨by rw [e1]; exact t0, by rw [e1, b 1 (by decide)]; exact t1, by rw [e1, b 0 (by decide)]; exact t2, by rw [b 9 (by decide)]; exact t3⟩⟩
  rw [e9] at hc
  have ep : pcX w2 c = pcX w c := by unfold pcX; rw [e9]
  rw [ep, e2, a _ (by unfold pcX; omega) (by unfold pcX; omega), b 7 (by decide)]
  exact q3 c hc
