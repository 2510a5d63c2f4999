/-! changes of a world, and their reading -/
def upA (w : Wd) (o f : Nat) (g : Nat → Int) : Wd := fun o' f' j' => if o' = o ∧ f' = f then g j' else w o' f' j'
theorem upA_at (w : Wd) (o f : Nat) (g : Nat → Int) : upA w o f g o f = g := by funext j; exact if_pos ⟨rfl, rfl⟩
theorem upA_atj (w : Wd) (o f j : Nat) (g : Nat → Int) : upA w o f g o f j = g j := if_pos ⟨rfl, rfl⟩
theorem upA_ne {w : Wd} {o f o' f' : Nat} {g : Nat → Int} (h : ¬ (o' = o ∧ f' = f)) : upA w o f g o' f' = w o' f' := by funext j; exact if_neg h
theorem upA_nej {w : Wd} {o f o' f' j' : Nat} {g : Nat → Int} (h : ¬ (o' = o ∧ f' = f)) : upA w o f g o' f' j' = w o' f' j' := if_neg h
def fup (g : Nat → Int) (k : Nat) (v : Int) : Nat → Int := fun j => if j = k then v else g j
theorem fup_at (g : Nat → Int) (k : Nat) (v : Int) : fup g k v k = v := if_pos rfl
theorem fup_ne {g : Nat → Int} {k j : Nat} {v : Int} (h : j ≠ k) : fup g k v j = g j := if_neg h
theorem up_upA (w : Wd) (o f k : Nat) (g : Nat → Int) (v : Int) : up (upA w o f g) o f k v = upA w o f (fup g k v) := by
  funext o' f' j'
  unfold up upA fup
  by_cases h : o' = o ∧ f' = f
  · obtain ⟨rfl, rfl⟩ := h
    simp
  · rw [if_neg h, if_neg h, if_neg (fun z => h ⟨z.1, z.2.1⟩)]
theorem upA_self (w : Wd) (o f : Nat) : upA w o f (w o f) = w := by
  funext o' f' j'
  unfold upA
  split
  · rename_i h; rw [h.1, h.2]
  · rfl
theorem upA_upA (w : Wd) (o f : Nat) (g h : Nat → Int) : upA (upA w o f g) o f h = upA w o f h := by
  funext o' f' j'
  unfold upA
  split <;> rfl
theorem up_eq_upA (w : Wd) (o f k : Nat) (v : Int) : up w o f k v = upA w o f (fup (w o f) k v) := by
  rw [← up_upA, upA_self]
def fillN (g : Nat → Int) (v : Int) (n : Nat) : Nat → Int := fun j => if j < n then v else g j
theorem fillN_0 (g : Nat → Int) (v : Int) : fillN g v 0 = g := by funext j; exact if_neg (Nat.not_lt_zero _)
theorem fillN_suc (g : Nat → Int) (v : Int) (n : Nat) : fup (fillN g v n) n v = fillN g v (n + 1) := by
  funext j
  unfold fup fillN
  by_cases h : j = n
  · rw [if_pos h, if_pos (by omega)]
  · rw [if_neg h]
    by_cases h2 : j < n
    · rw [if_pos h2, if_pos (by omega)]
    · rw [if_neg h2, if_neg (by omega)]
def sumN (f : Nat → Int) : Nat → Int
  | 0 => 0
  | k + 1 => sumN f k + f k
theorem sumN_suc {f : Nat → Int} {k : Int} (h : 0 ≤ k) : sumN f (k + 1).toNat = sumN f k.toNat + f k.toNat := by
  rw [show (k + 1).toNat = k.toNat + 1 by omega]; rfl
/-- a machine is taken off a list, in place -/
def tol (f : Nat → Int) (m : Int) : Nat → (Nat → Int) × Nat
  | 0 => (f, 0)
  | k + 1 => if (tol f m k).1 k = m then tol f m k else (fup (tol f m k).1 (tol f m k).2 ((tol f m k).1 k), (tol f m k).2 + 1)
theorem tol_le (f : Nat → Int) (m : Int) : ∀ k, (tol f m k).2 ≤ k
  | 0 => Nat.le_refl _
  | k + 1 => by
    have := tol_le f m k
    unfold tol
    split
    · omega
    · show (tol f m k).2 + 1 ≤ k + 1; omega
/-- the first place of a number in a list, or -4 -/
def pil (f : Nat → Int) (m : Int) (n : Nat) : Nat → Int
  | 0 => -4
  | k + 1 => if f (n - (k + 1)) = m then ((n - (k + 1) : Nat) : Int) else pil f m n k
/-- the plant's numbers are such as a text can tell -/
def PV (u : Nat → Nat → Int) : Prop := (1 ≤ u 0 0 ∧ u 0 0 ≤ 6) ∧ (∀ k : Nat, (k : Int) < u 0 0 → (1 ≤ u 1 k ∧ u 1 k ≤ 40) ∧ (u 1 k ≤ u 2 k ∧ u 2 k ≤ 80) ∧ (0 ≤ u 3 k ∧ u 3 k ≤ 99) ∧ (0 ≤ u 4 k ∧ u 4 k ≤ 99) ∧ (0 ≤ u 5 k ∧ u 5 k ≤ 99) ∧ (1 ≤ u 6 k ∧ u 6 k ≤ 40)) ∧
  (0 ≤ u 7 0 ∧ u 7 0 ≤ 30) ∧ (0 ≤ u 8 0 ∧ u 8 0 ≤ 30) ∧ (1 ≤ u 9 0 ∧ u 9 0 ≤ 9) ∧ (0 ≤ u 10 0 ∧ u 10 0 ≤ 9) ∧ (50 ≤ u 11 0 ∧ u 11 0 ≤ 99) ∧ (1 ≤ u 12 0 ∧ u 12 0 ≤ 99) ∧ (0 ≤ u 13 0 ∧ u 13 0 ≤ 9)
theorem pv_sum {u : Nat → Nat → Int} (h : PV u) {f : Nat} {B : Int} (hB : 0 ≤ B) (hf : ∀ k : Nat, (k : Int) < u 0 0 → 0 ≤ u f k ∧ u f k ≤ B) (s : Int) : 0 ≤ sumB s (u f) (u 0 0).toNat ∧ sumB s (u f) (u 0 0).toNat ≤ 6 * B := by
  obtain ⟨h1, h2⟩ := sumB_le (s := s) (f := u f) (B := B) (u 0 0).toNat (fun k hk => hf k (by omega))
  refine ⟨h1, Int.le_trans h2 ?_⟩
  rw [Int.mul_comm]
  exact Int.mul_le_mul_of_nonneg_right (by have := h.1.2; omega) hB
theorem pv_least {u : Nat → Nat → Int} (h : PV u) (s : Int) : 0 ≤ sumB s (u 1) (u 0 0).toNat ∧ sumB s (u 1) (u 0 0).toNat ≤ 240 := pv_sum h (f := 1) (B := 40) (by decide) (fun k hk => by have := (h.2.1 k hk).1; omega) s
theorem pv_most {u : Nat → Nat → Int} (h : PV u) (s : Int) : 0 ≤ sumB s (u 2) (u 0 0).toNat ∧ sumB s (u 2) (u 0 0).toNat ≤ 480 := pv_sum h (f := 2) (B := 80) (by decide) (fun k hk => by have := h.2.1 k hk; omega) s
theorem pv_flow {u : Nat → Nat → Int} (h : PV u) (s : Int) : 0 ≤ sumB s (u 6) (u 0 0).toNat ∧ sumB s (u 6) (u 0 0).toNat ≤ 240 := pv_sum h (f := 6) (B := 40) (by decide) (fun k hk => by have := h.2.1 k hk; omega) s
theorem bxor_nn {a b : Int} (ha : 0 ≤ a) (ha2 : a ≤ 2147483647) (hb : 0 ≤ b) (hb2 : b ≤ 2147483647) : 0 ≤ bxor a b := by
  have h1 : (iI a).toInt = a := iI_to ⟨by omega, ha2⟩
  have h2 : (iI b).toInt = b := iI_to ⟨by omega, hb2⟩
  have m1 : (iI a).toBitVec.msb = false := by
    rw [BitVec.msb_eq_toInt, decide_eq_false_iff_not]
    show ¬ (iI a).toInt < 0
    omega
  have m2 : (iI b).toBitVec.msb = false := by
    rw [BitVec.msb_eq_toInt, decide_eq_false_iff_not]
    show ¬ (iI b).toInt < 0
    omega
  have m3 : (iI a ^^^ iI b).toBitVec.msb = false := by
    rw [Int32.toBitVec_xor, BitVec.msb_xor, m1, m2]; rfl
  rw [BitVec.msb_eq_toInt, decide_eq_false_iff_not] at m3
  have : ¬ (iI a ^^^ iI b).toInt < 0 := m3
  unfold bxor
  omega
