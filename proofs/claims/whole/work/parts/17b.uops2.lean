theorem ne_ob {G : Ly} {o a b c : Nat} (h : gOb G o = some b) (h' : gOb G a = some c) (hbc : b ≠ c) : o ≠ a := by
  rintro rfl
  rw [h] at h'
  exact hbc (Option.some.inj h')
theorem up_set2 (w : Wd) (o f j : Nat) (u : Nat → Nat → Int) (v : Int) : up (setO w o u) o f j v = setO w o (fu u f j v) := by
  rw [up_setO, setO_at, setO_setO]
theorem upA_set2 (w : Wd) (o f : Nat) (u : Nat → Nat → Int) (g : Nat → Int) : upA (setO w o u) o f g = setO w o (fuA u f g) := by
  rw [upA_setO, setO_at, setO_setO]
theorem st_eq (w : Wd) (o : Nat) (m : Int) : up (up (up (up w o 6 0 (bor (w o 6 0) (bshl 1 m))) o 13 (m * 9 + w o 12 m.toNat % 9).toNat (w o 1 0)) o 12 m.toNat (w o 12 m.toNat + 1)) o 8 0 (w o 1 0) = setO w o (stX (w o) m) := by
  unfold stX
  rw [up_setO w o 6 0, up_set2, up_set2, up_set2]
theorem sp_eq {w w2 : Wd} {o : Nat} {m : Int} (h : (tb (bor (w o 6 0) (w o 7 0)) m.toNat = 1 ∧ w2 = up (up (up w o 6 0 (band (w o 6 0) (bxor (bshl 1 m) (-1)))) o 7 0 (band (w o 7 0) (bxor (bshl 1 m) (-1)))) o 14 m.toNat (w o 1 0)) ∨ (tb (bor (w o 6 0) (w o 7 0)) m.toNat = 0 ∧ w2 = w)) : w2 = setO w o (spX (w o) m) := by
  unfold spX
  rcases h with ⟨h1, h2⟩ | ⟨h1, h2⟩
  · rw [if_pos h1, h2, up_setO w o 6 0, up_set2, up_set2]
  · rw [if_neg (fun z => absurd (z.symm.trans h1) (by decide)), h2, setO_self]
theorem tk_eq (w : Wd) (o : Nat) (m : Int) : up (upA w o 10 (tol (w o 10) m (w o 9 0).toNat).1) o 9 0 ((tol (w o 10) m (w o 9 0).toNat).2 : Int) = setO w o (tkX (w o) m) := by
  unfold tkX
  rw [upA_setO, up_set2]
theorem pt_eq (w : Wd) (o : Nat) (m : Int) : up (up w o 10 (w o 9 0).toNat m) o 9 0 (w o 9 0 + 1) = setO w o (ptX (w o) m) := by
  unfold ptX
  rw [up_setO w o 10, up_set2]
abbrev madeX (pl u : Nat → Nat → Int) : Int := max (sumB (u 7 0) (pl 1) (pl 0 0).toNat) (min (sumB (u 7 0) (pl 2) (pl 0 0).toNat) (u 0 0))
abbrev liftX (u : Nat → Nat → Int) : Int := max 0 (u 0 2 - u 0 3)
theorem made_can {pl u : Nat → Nat → Int} (h : PV pl) : CanX pl (u 7 0) (madeX pl u) ∧ (0 ≤ u 0 0 → u 0 0 ≤ 480 → 0 ≤ madeX pl u ∧ madeX pl u ≤ 480) := by
  have hb : ∀ j, j < (pl 0 0).toNat → pl 1 j ≤ pl 2 j := fun j hj => by have := h.2.1 j (by omega); omega
  have a2 := sumB_lt (s := u 7 0) (f := pl 1) (g := pl 2) _ hb
  have a3 := pv_least h (u 7 0)
  have a4 := pv_most h (u 7 0)
  unfold CanX madeX
  omega
/-- the power of what those that are on make now -/
def PowX (pl u : Nat → Nat → Int) (z : Int) : Prop := ∃ v, BestC pl (pkX pl (liftX u)) (u 7 0) (pl 0 0).toNat (madeX pl u) v ∧ z = v / 4398046511104
theorem pow_l {v : Int} (h0 : 0 ≤ v) (h1 : v ≤ 543038435999514624) : l2j (lshr v 42) = v / 4398046511104 ∧ 0 ≤ v / 4398046511104 ∧ v / 4398046511104 ≤ 123473 := by
  rw [lshr_eq (by unfold InL; omega) (by decide) (by decide)]
  have e : (2 : Int) ^ (42 : Int).toNat = 4398046511104 := rfl
  rw [e, l2j_eq (by unfold InR; omega)]
  omega
theorem prt_l {v m : Int} (h0 : 0 ≤ v) (h1 : v ≤ 543038435999514624) (hm : 0 ≤ m) (hm2 : m < 6) : band (l2j (lshr v (7 * (5 - m)))) 127 = v / 2 ^ (7 * (5 - m.toNat)) % 128 := by
  rw [lshr_eq (by unfold InL; omega) (by omega) (by omega), show (7 * (5 - m)).toNat = 7 * (5 - m.toNat) by omega, l2j_and]
  exact Int.ediv_nonneg h0 (Int.le_of_lt (Int.pow_pos (by decide)))
theorem psel {P : Prop} [Decidable P] {a b : Int} (h : P) : (if P then a else b) = a := if_pos h
theorem nsel {P : Prop} [Decidable P] {a b : Int} (h : ¬ P) : (if P then a else b) = b := if_neg h
theorem of_one {P : Prop} [Decidable P] (h : ¬ ((if P then (1 : Int) else 0) = 0)) : P := by
  by_cases q : P
  · exact q
  · exact absurd (if_neg q) h
theorem of_zero {P : Prop} [Decidable P] (h : (if P then (1 : Int) else 0) = 0) : ¬ P := by
  intro q
  rw [if_pos q] at h
  exact absurd h (by decide)
theorem in01 {P : Prop} [Decidable P] : InR (if P then (1 : Int) else 0) := by
  split <;> exact ⟨by decide, by decide⟩
