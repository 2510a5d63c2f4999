/-! THE BEST SET: a share in which a machine makes nothing or a load within its bounds -/
def feS (pl : Nat → Nat → Int) (s : Int) (x : Nat → Int) (k : Nat) : Prop := ∀ m, m < k → x m = 0 ∨ (tb s m = 1 ∧ pl 1 m ≤ x m ∧ x m ≤ pl 2 m)
def cz (c : Nat → Int → Int) (x : Nat → Int) : Nat → Int := fun m => if x m = 0 then 0 else c m (x m)
def BestS (pl : Nat → Nat → Int) (c : Nat → Int → Int) (s : Int) (k : Nat) (t v : Int) : Prop :=
  ((∃ x, feS pl s x k ∧ sumN x k = t ∧ sumN (cz c x) k = v ∧ v < 1073741824) ∨ (v = 1073741824 ∧ ∀ x, feS pl s x k → sumN x k ≠ t)) ∧ ∀ x, feS pl s x k → sumN x k = t → v ≤ sumN (cz c x) k
def bkX (pl : Nat → Nat → Int) (lift : Int) (m : Nat) (x : Int) : Int := pwX pl lift m x * 512 + 64 + 2 ^ m
theorem sumN_s (f : Nat → Int) (k : Nat) : sumN f (k + 1) = sumN f k + f k := rfl
theorem sumN_le {f : Nat → Int} {B : Int} : ∀ n : Nat, (∀ k, k < n → 0 ≤ f k ∧ f k ≤ B) → 0 ≤ sumN f n ∧ sumN f n ≤ B * n
  | 0, _ => by simp [sumN]
  | n + 1, h => by
    obtain ⟨h1, h2⟩ := sumN_le (f := f) n (fun k hk => h k (by omega))
    obtain ⟨h3, h4⟩ := h n (by omega)
    have e : B * ((n + 1 : Nat) : Int) = B * (n : Int) + B := by
      rw [show ((n + 1 : Nat) : Int) = (n : Int) + 1 by omega, Int.mul_add, Int.mul_one]
    rw [sumN_s]
    omega
theorem p2m : ∀ m : Nat, m < 6 → 1 ≤ (2 : Int) ^ m ∧ (2 : Int) ^ m ≤ 32 := by decide +kernel
theorem bk_rng {pl : Nat → Nat → Int} (h : PV pl) {m : Nat} (hm : (m : Int) < pl 0 0) {x lift : Int} (hx : 0 ≤ x ∧ x ≤ 99) (hl : 0 ≤ lift ∧ lift ≤ 45) : 0 ≤ bkX pl lift m x ∧ bkX pl lift m x ≤ 10536032 := by
  have q := pw_rng h hm hx hl
  have q2 := p2m m (by have := h.1.2; omega)
  unfold bkX
  omega
theorem feS_rng {pl : Nat → Nat → Int} (h : PV pl) {s lift : Int} (hl : 0 ≤ lift ∧ lift ≤ 45) {k : Nat} (hk : (k : Int) ≤ pl 0 0) {x : Nat → Int} (hx : feS pl s x k) : 0 ≤ sumN (cz (bkX pl lift) x) k ∧ sumN (cz (bkX pl lift) x) k ≤ 63216192 := by
  have q := sumN_le (f := cz (bkX pl lift) x) (B := 10536032) k (fun m hm => by
    have hm2 : (m : Int) < pl 0 0 := by omega
    have h4 := h.2.1 m hm2
    unfold cz
    split
    · omega
    · rcases hx m hm with e | e
      · contradiction
      · exact bk_rng h hm2 (by omega) hl)
  have h6 := h.1.2
  omega
theorem feS_tot {pl : Nat → Nat → Int} (h : PV pl) {s : Int} {x : Nat → Int} : ∀ {k : Nat}, (k : Int) ≤ pl 0 0 → feS pl s x k → 0 ≤ sumN x k ∧ sumN x k ≤ sumB s (pl 2) k
  | 0, _, _ => ⟨Int.le_refl _, Int.le_refl _⟩
  | k + 1, hk, hx => by
    obtain ⟨h1, h2⟩ := feS_tot h (k := k) (by omega) (fun m hm => hx m (by omega))
    have h4 := h.2.1 k (by omega)
    rw [sumN_s, sumB_s]
    rcases hx k (by omega) with e | ⟨e, e1, e2⟩
    · rw [e]; split <;> omega
    · rw [if_pos e]; omega
theorem bs_0 {pl : Nat → Nat → Int} {c : Nat → Int → Int} {s t v : Int} (h : (t = 0 ∧ v = 0) ∨ (t ≠ 0 ∧ v = 1073741824)) : BestS pl c s 0 t v := by
  have e0 : ∀ f : Nat → Int, sumN f 0 = 0 := fun _ => rfl
  rcases h with ⟨rfl, rfl⟩ | ⟨h1, rfl⟩
  · exact ⟨Or.inl ⟨fun _ => 0, fun m hm => absurd hm (Nat.not_lt_zero _), rfl, rfl, by decide⟩, fun x _ _ => Int.le_refl _⟩
  · exact ⟨Or.inr ⟨rfl, fun x _ q => h1 (by rw [← q, e0])⟩, fun x _ q => absurd (by rw [← q, e0]) h1⟩
theorem cz_0 {c : Nat → Int → Int} {x : Nat → Int} {k : Nat} (h : x k = 0) : cz c x k = 0 := if_pos h
theorem cz_ne {c : Nat → Int → Int} {x : Nat → Int} {k : Nat} (h : x k ≠ 0) : cz c x k = c k (x k) := if_neg h
theorem cz_fup {c : Nat → Int → Int} {x : Nat → Int} {k : Nat} {v : Int} : sumN (cz c (fup x k v)) k = sumN (cz c x) k := sumN_congr k (fun m hm => by unfold cz; rw [fup_ne (by omega)])
theorem sN_fup {x : Nat → Int} {k : Nat} {v : Int} : sumN (fup x k v) k = sumN x k := sumN_congr k (fun m hm => fup_ne (by omega))
/-- nobody who makes t can use machine k -/
theorem bs_same {pl : Nat → Nat → Int} {c : Nat → Int → Int} {s t v : Int} {k : Nat} (h : BestS pl c s k t v) (hno : ∀ x, feS pl s x (k + 1) → sumN x (k + 1) = t → x k = 0) : BestS pl c s (k + 1) t v := by
  have back : ∀ x, feS pl s x (k + 1) → sumN x (k + 1) = t → feS pl s x k ∧ sumN x k = t ∧ sumN (cz c x) (k + 1) = sumN (cz c x) k := by
    intro x hx ht
    have e := hno x hx ht
    rw [sumN_s, e] at ht
    exact ⟨fun m hm => hx m (by omega), by omega, by rw [sumN_s, cz_0 e, Int.add_zero]⟩
  obtain ⟨h1, h2⟩ := h
  refine ⟨?_, fun x hx ht => ?_⟩
  · rcases h1 with ⟨x, a, b, d, e⟩ | ⟨a, b⟩
    · refine Or.inl ⟨fup x k 0, fun m hm => ?_, ?_, ?_, e⟩
      · by_cases q : m = k
        · subst q; exact Or.inl (fup_at _ _ _)
        · rw [fup_ne q]; exact a m (by omega)
      · rw [sumN_s, sN_fup, fup_at, b, Int.add_zero]
      · rw [sumN_s, cz_fup, cz_0 (fup_at _ _ _), d, Int.add_zero]
    · exact Or.inr ⟨a, fun x hx ht => b x (back x hx ht).1 (back x hx ht).2.1⟩
  · obtain ⟨a, b, d⟩ := back x hx ht
    rw [d]
    exact h2 x a b
theorem bs_add {pl : Nat → Nat → Int} {c : Nat → Int → Int} {s t z : Int} {k : Nat} {A : Int → Int} (hs : tb s k = 1) (hL : 1 ≤ pl 1 k) (ht : 0 ≤ t) (htot : ∀ x, feS pl s x k → 0 ≤ sumN x k) (hcr : ∀ x, feS pl s x (k + 1) → sumN (cz c x) (k + 1) < 1073741824) (hc0 : ∀ x, pl 1 k ≤ x → x ≤ pl 2 k → 0 ≤ c k x)
    (h0 : BestS pl c s k t (A t)) (hb : ∀ x, pl 1 k ≤ x → x ≤ min (pl 2 k) t → BestS pl c s k (t - x) (A (t - x)))
    (hmin : ∀ x, pl 1 k ≤ x → x ≤ min (pl 2 k) t → z ≤ A (t - x) + c k x) (hex : (∃ x, pl 1 k ≤ x ∧ x ≤ min (pl 2 k) t ∧ z = A (t - x) + c k x) ∨ z = 1073741824) (hz : z ≤ 1073741824) : BestS pl c s (k + 1) t (min (A t) z) := by
  have lower : ∀ x, feS pl s x (k + 1) → sumN x (k + 1) = t → min (A t) z ≤ sumN (cz c x) (k + 1) := by
    intro x hx hxt
    have hxk : feS pl s x k := fun m hm => hx m (by omega)
    rw [sumN_s] at hxt ⊢
    rcases hx k (by omega) with e | ⟨e, e1, e2⟩
    · rw [cz_0 e]
      have := h0.2 x hxk (by omega)
      omega
    · have hne : x k ≠ 0 := by omega
      rw [cz_ne hne]
      have h1 := htot x hxk
      have h2 := (hb (x k) e1 (by omega)).2 x hxk (by omega)
      have h3 := hmin (x k) e1 (by omega)
      omega
  refine ⟨?_, lower⟩
  by_cases hv : min (A t) z < 1073741824
  · left
    by_cases hz2 : A t ≤ z
    · rcases h0.1 with ⟨x, a, b, d, e⟩ | ⟨a, b⟩
      · refine ⟨fup x k 0, fun m hm => ?_, ?_, ?_, hv⟩
        · by_cases q : m = k
          · subst q; exact Or.inl (fup_at _ _ _)
          · rw [fup_ne q]; exact a m (by omega)
        · rw [sumN_s, sN_fup, fup_at, b, Int.add_zero]
        · rw [sumN_s, cz_fup, cz_0 (fup_at _ _ _), d]
          omega
      · omega
    · rcases hex with ⟨x, q1, q2, q3⟩ | q
      · rcases (hb x q1 q2).1 with ⟨y, a, b, d, e⟩ | ⟨a, b⟩
        · refine ⟨fup y k x, fun m hm => ?_, ?_, ?_, hv⟩
          · by_cases q : m = k
            · subst q; rw [fup_at]; exact Or.inr ⟨hs, q1, by omega⟩
            · rw [fup_ne q]; exact a m (by omega)
          · rw [sumN_s, sN_fup, fup_at, b]
            omega
          · rw [sumN_s, cz_fup, cz_ne (by rw [fup_at]; omega), fup_at, d]
            omega
        · have := hc0 x q1 (by omega)
          omega
      · omega
  · right
    have hA : A t ≤ 1073741824 := by
      rcases h0.1 with ⟨x, a, b, d, e⟩ | ⟨a, b⟩ <;> omega
    refine ⟨by omega, fun x hx hxt => ?_⟩
    have h1 := lower x hx hxt
    have h2 := hcr x hx
    omega
/-- what is kept of the sets is right -/
def BsC (pl u : Nat → Nat → Int) : Prop := u 3 0 = 0 ∨ (u 3 0 = 1 ∧ (0 ≤ u 4 0 ∧ u 4 0 < 64) ∧ (0 ≤ u 5 0 ∧ u 5 0 ≤ 45) ∧ ∀ t : Int, 0 ≤ t → t ≤ 480 → BestS pl (bkX pl (u 5 0)) (u 4 0) (pl 0 0).toNat t (u 1 t.toNat))
theorem bsv {pl : Nat → Nat → Int} (h : PV pl) {s lift t v : Int} (hl : 0 ≤ lift ∧ lift ≤ 45) {k : Nat} (hk : (k : Int) ≤ pl 0 0) (hb : BestS pl (bkX pl lift) s k t v) : 0 ≤ v ∧ v ≤ 1073741824 := by
  rcases hb.1 with ⟨x, a, b, d, e⟩ | ⟨a, b⟩
  · have := feS_rng h hl hk a
    omega
  · omega
theorem sumB_seen {s seen : Int} {m : Nat} (hl : ∀ k, k < 6 → tb seen k = if k ≤ m then tb s k else 0) (f : Nat → Int) : ∀ n : Nat, n ≤ 6 → m + 1 ≤ n → sumB seen f n = sumB s f (m + 1) := by
  have low : ∀ n : Nat, n ≤ m + 1 → n ≤ 6 → sumB seen f n = sumB s f n := by
    intro n h1 h2
    exact sumB_congr n (fun k hk => by rw [hl k (by omega), if_pos (by omega)]) (fun _ _ _ => rfl)
  intro n
  induction n with
  | zero => intro _ h; omega
  | succ n ih =>
    intro h1 h2
    by_cases e : m + 1 = n + 1
    · rw [← e]
      exact low (m + 1) (Nat.le_refl _) (by omega)
    · rw [sumB_out (by rw [hl n (by omega), if_neg (by omega)]), ih (by omega) (by omega)]
