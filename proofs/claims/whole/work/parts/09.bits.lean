/-! BITS of a set of machines -/
def tb (s : Int) (m : Nat) : Int := s / 2 ^ m % 2
theorem tb01 (s : Int) (m : Nat) : tb s m = 0 ∨ tb s m = 1 := by
  unfold tb
  omega
theorem fin1 {P : Int → Prop} (h : ∀ a : Fin 64, P (a.val : Int)) {s : Int} (h0 : 0 ≤ s) (h1 : s < 64) : P s := by
  have := h ⟨s.toNat, by omega⟩
  have e : ((s.toNat : Nat) : Int) = s := by omega
  rwa [e] at this
theorem fin2 {P : Int → Int → Prop} (h : ∀ a : Fin 64, ∀ b : Fin 6, P (a.val : Int) (b.val : Int)) {s m : Int} (h0 : 0 ≤ s) (h1 : s < 64) (h2 : 0 ≤ m) (h3 : m < 6) : P s m := by
  have := h ⟨s.toNat, by omega⟩ ⟨m.toNat, by omega⟩
  have e : ((s.toNat : Nat) : Int) = s := by omega
  have e2 : ((m.toNat : Nat) : Int) = m := by omega
  rwa [e, e2] at this
theorem finB {P : Int → Int → Prop} (h : ∀ a : Fin 64, ∀ b : Fin 64, P (a.val : Int) (b.val : Int)) {s m : Int} (h0 : 0 ≤ s) (h1 : s < 64) (h2 : 0 ≤ m) (h3 : m < 64) : P s m := by
  have := h ⟨s.toNat, by omega⟩ ⟨m.toNat, by omega⟩
  have e : ((s.toNat : Nat) : Int) = s := by omega
  have e2 : ((m.toNat : Nat) : Int) = m := by omega
  rwa [e, e2] at this
theorem bt_shr {s m : Int} (h0 : 0 ≤ s) (h1 : s < 64) (h2 : 0 ≤ m) (h3 : m < 6) : band (bshr s m) 1 = tb s m.toNat :=
  fin2 (P := fun s m => band (bshr s m) 1 = tb s m.toNat) (by decide +kernel) h0 h1 h2 h3
theorem bt_and {s m : Int} (h0 : 0 ≤ s) (h1 : s < 64) (h2 : 0 ≤ m) (h3 : m < 6) : (band s (bshl 1 m) = 0 ↔ tb s m.toNat = 0) ∧ 0 ≤ band s (bshl 1 m) ∧ band s (bshl 1 m) < 64 :=
  fin2 (P := fun s m => (band s (bshl 1 m) = 0 ↔ tb s m.toNat = 0) ∧ 0 ≤ band s (bshl 1 m) ∧ band s (bshl 1 m) < 64) (by decide +kernel) h0 h1 h2 h3
theorem bt_set {s m : Int} (h0 : 0 ≤ s) (h1 : s < 64) (h2 : 0 ≤ m) (h3 : m < 6) : 0 ≤ bor s (bshl 1 m) ∧ bor s (bshl 1 m) < 64 ∧ ∀ k, k < 6 → tb (bor s (bshl 1 m)) k = if k = m.toNat then 1 else tb s k :=
  fin2 (P := fun s m => 0 ≤ bor s (bshl 1 m) ∧ bor s (bshl 1 m) < 64 ∧ ∀ k, k < 6 → tb (bor s (bshl 1 m)) k = if k = m.toNat then 1 else tb s k) (by decide +kernel) h0 h1 h2 h3
theorem bt_clr {s m : Int} (h0 : 0 ≤ s) (h1 : s < 64) (h2 : 0 ≤ m) (h3 : m < 6) : 0 ≤ band s (bxor (bshl 1 m) (-1)) ∧ band s (bxor (bshl 1 m) (-1)) < 64 ∧ ∀ k, k < 6 → tb (band s (bxor (bshl 1 m) (-1))) k = if k = m.toNat then 0 else tb s k :=
  fin2 (P := fun s m => 0 ≤ band s (bxor (bshl 1 m) (-1)) ∧ band s (bxor (bshl 1 m) (-1)) < 64 ∧ ∀ k, k < 6 → tb (band s (bxor (bshl 1 m) (-1))) k = if k = m.toNat then 0 else tb s k) (by decide +kernel) h0 h1 h2 h3
theorem bt_later {s m : Int} (h0 : 0 ≤ s) (h1 : s < 64) (h2 : 0 ≤ m) (h3 : m < 6) : 0 ≤ band s (-(bshl 2 m)) ∧ band s (-(bshl 2 m)) < 64 ∧ ∀ k, k < 6 → tb (band s (-(bshl 2 m))) k = if k ≤ m.toNat then 0 else tb s k :=
  fin2 (P := fun s m => 0 ≤ band s (-(bshl 2 m)) ∧ band s (-(bshl 2 m)) < 64 ∧ ∀ k, k < 6 → tb (band s (-(bshl 2 m))) k = if k ≤ m.toNat then 0 else tb s k) (by decide +kernel) h0 h1 h2 h3
theorem bt_seen {s m : Int} (h0 : 0 ≤ s) (h1 : s < 64) (h2 : 0 ≤ m) (h3 : m < 6) : 0 ≤ band s (bshl 2 m - 1) ∧ band s (bshl 2 m - 1) < 64 ∧ ∀ k, k < 6 → tb (band s (bshl 2 m - 1)) k = if k ≤ m.toNat then tb s k else 0 :=
  fin2 (P := fun s m => 0 ≤ band s (bshl 2 m - 1) ∧ band s (bshl 2 m - 1) < 64 ∧ ∀ k, k < 6 → tb (band s (bshl 2 m - 1)) k = if k ≤ m.toNat then tb s k else 0) (by decide +kernel) h0 h1 h2 h3
theorem bt_or {s t : Int} (h0 : 0 ≤ s) (h1 : s < 64) (h2 : 0 ≤ t) (h3 : t < 64) : 0 ≤ bor s t ∧ bor s t < 64 ∧ ∀ k, k < 6 → tb (bor s t) k = max (tb s k) (tb t k) :=
  finB (P := fun s t => 0 ≤ bor s t ∧ bor s t < 64 ∧ ∀ k, k < 6 → tb (bor s t) k = max (tb s k) (tb t k)) (by decide +kernel) h0 h1 h2 h3
theorem bt_and2 {s t : Int} (h0 : 0 ≤ s) (h1 : s < 64) (h2 : 0 ≤ t) (h3 : t < 64) : 0 ≤ band s t ∧ band s t < 64 ∧ ∀ k, k < 6 → tb (band s t) k = min (tb s k) (tb t k) :=
  finB (P := fun s t => 0 ≤ band s t ∧ band s t < 64 ∧ ∀ k, k < 6 → tb (band s t) k = min (tb s k) (tb t k)) (by decide +kernel) h0 h1 h2 h3
theorem bt_open {s t : Int} (h0 : 0 ≤ s) (h1 : s < 64) (h2 : 0 ≤ t) (h3 : t < 64) : 0 ≤ band s (bxor t (-1)) ∧ band s (bxor t (-1)) < 64 ∧ ∀ k, k < 6 → tb (band s (bxor t (-1))) k = if tb t k = 1 then 0 else tb s k :=
  finB (P := fun s t => 0 ≤ band s (bxor t (-1)) ∧ band s (bxor t (-1)) < 64 ∧ ∀ k, k < 6 → tb (band s (bxor t (-1))) k = if tb t k = 1 then 0 else tb s k) (by decide +kernel) h0 h1 h2 h3
theorem bt_ext {s t : Int} (h0 : 0 ≤ s) (h1 : s < 64) (h2 : 0 ≤ t) (h3 : t < 64) (h : ∀ k, k < 6 → tb s k = tb t k) : s = t :=
  finB (P := fun s t => (∀ k, k < 6 → tb s k = tb t k) → s = t) (by decide +kernel) h0 h1 h2 h3 h
theorem bt_one {m : Int} (h2 : 0 ≤ m) (h3 : m < 6) : bshl 1 m = 2 ^ m.toNat ∧ 1 ≤ bshl 1 m ∧ bshl 1 m ≤ 32 :=
  fin2 (P := fun _ m => bshl 1 m = 2 ^ m.toNat ∧ 1 ≤ bshl 1 m ∧ bshl 1 m ≤ 32) (by decide +kernel) (s := 0) (by decide) (by decide) h2 h3
theorem bt_all : ∀ n : Int, 0 ≤ n → n ≤ 6 → 0 ≤ bshl 1 n - 1 ∧ bshl 1 n - 1 < 64 ∧ bshl 1 n = 2 ^ n.toNat ∧ ∀ k, k < 6 → tb (bshl 1 n - 1) k = if k < n.toNat then 1 else 0 := by
  intro n h0 h1
  have h : ∀ a : Fin 7, 0 ≤ bshl 1 (a.val : Int) - 1 ∧ bshl 1 (a.val : Int) - 1 < 64 ∧ bshl 1 (a.val : Int) = 2 ^ a.val ∧ ∀ k, k < 6 → tb (bshl 1 (a.val : Int) - 1) k = if k < a.val then 1 else 0 := by decide +kernel
  have h2 := h ⟨n.toNat, by omega⟩
  have e : ((n.toNat : Nat) : Int) = n := by omega
  rwa [e] at h2
def cnt (s : Int) : Int := tb s 0 + tb s 1 + tb s 2 + tb s 3 + tb s 4 + tb s 5
/-- a sum over the machines of a set -/
def sumB (s : Int) (f : Nat → Int) : Nat → Int
  | 0 => 0
  | k + 1 => sumB s f k + (if tb s k = 1 then f k else 0)
theorem sumB_suc {s : Int} {f : Nat → Int} {k : Int} (h : 0 ≤ k) : sumB s f (k + 1).toNat = sumB s f k.toNat + (if tb s k.toNat = 1 then f k.toNat else 0) := by
  have e : (k + 1).toNat = k.toNat + 1 := by omega
  rw [e]
  rfl
theorem sumB_le {s : Int} {f : Nat → Int} {B : Int} : ∀ n : Nat, (∀ k, k < n → 0 ≤ f k ∧ f k ≤ B) → 0 ≤ sumB s f n ∧ sumB s f n ≤ B * n
  | 0, _ => by simp [sumB]
  | n + 1, h => by
    obtain ⟨h1, h2⟩ := sumB_le (s := s) n (fun k hk => h k (by omega))
    obtain ⟨h3, h4⟩ := h n (by omega)
    have e : B * ((n + 1 : Nat) : Int) = B * (n : Int) + B := by
      rw [show ((n + 1 : Nat) : Int) = (n : Int) + 1 by omega, Int.mul_add, Int.mul_one]
    unfold sumB
    split <;> omega
theorem sumB_congr {s t : Int} {f g : Nat → Int} : ∀ n : Nat, (∀ k, k < n → tb s k = tb t k) → (∀ k, k < n → tb s k = 1 → f k = g k) → sumB s f n = sumB t g n
  | 0, _, _ => rfl
  | n + 1, h1, h2 => by
    unfold sumB
    rw [sumB_congr n (fun k hk => h1 k (by omega)) (fun k hk => h2 k (by omega)), ← h1 n (by omega)]
    by_cases q : tb s n = 1
    · rw [if_pos q, if_pos q, h2 n (by omega) q]
    · rw [if_neg q, if_neg q]
