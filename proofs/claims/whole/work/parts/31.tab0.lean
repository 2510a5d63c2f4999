/-! THE REFERENCE'S TABLE: the least power of a set, machine by machine: pure -/
theorem best_uq {pl : Nat → Nat → Int} {c : Nat → Int → Int} {s t v v' : Int} {k : Nat} (h : BestC pl c s k t v) (h' : BestC pl c s k t v') : v = v' := by
  obtain ⟨⟨x, a, b, d⟩, e⟩ := h
  obtain ⟨⟨x', a', b', d'⟩, e'⟩ := h'
  have := e x' a' b'
  have := e' x a b
  omega
theorem can_fea {pl : Nat → Nat → Int} {s : Int} : ∀ (k : Nat) (t : Int), (∀ m, m < k → pl 1 m ≤ pl 2 m) → sumB s (pl 1) k ≤ t → t ≤ sumB s (pl 2) k → ∃ x, fea pl s x k ∧ sumN x k = t
  | 0, t, _, h1, h2 => ⟨fun _ => 0, fun m hm => absurd hm (Nat.not_lt_zero _), by unfold sumB at h1 h2; unfold sumN; omega⟩
  | k + 1, t, hb, h1, h2 => by
    unfold sumB at h1 h2
    have hk := hb k (by omega)
    rcases tb01 s k with q | q
    · rw [if_neg (by omega)] at h1 h2
      obtain ⟨x, a, b⟩ := can_fea (s := s) k t (fun m hm => hb m (by omega)) (by omega) (by omega)
      refine ⟨fup x k 0, fun m hm => ?_, ?_⟩
      · by_cases e : m = k
        · subst e
          exact ⟨fun z => by omega, fun _ => fup_at _ _ _⟩
        · rw [fup_ne e]
          exact a m (by omega)
      · unfold sumN
        rw [fup_at, sumN_congr (g := x) k (fun m hm => fup_ne (by omega)), b, Int.add_zero]
    · rw [if_pos q] at h1 h2
      have hbb := sumB_lt (s := s) (f := pl 1) (g := pl 2) k (fun j hj => hb j (by omega))
      obtain ⟨x, a, b⟩ := can_fea (s := s) k (t - max (pl 1 k) (t - sumB s (pl 2) k)) (fun m hm => hb m (by omega)) (by omega) (by omega)
      refine ⟨fup x k (max (pl 1 k) (t - sumB s (pl 2) k)), fun m hm => ?_, ?_⟩
      · by_cases e : m = k
        · subst e
          rw [fup_at]
          exact ⟨fun _ => ⟨by omega, by omega⟩, fun z => by omega⟩
        · rw [fup_ne e]
          exact a m (by omega)
      · unfold sumN
        rw [fup_at, sumN_congr (g := x) k (fun m hm => fup_ne (by omega)), b]
        omega
theorem best_ex {pl : Nat → Nat → Int} {c : Nat → Int → Int} {s t : Int} {k : Nat} (hc : ∀ x, fea pl s x k → 0 ≤ sumB s (fun m => c m (x m)) k) (hx : ∃ x, fea pl s x k ∧ sumN x k = t) : ∃ v, BestC pl c s k t v := by
  have key : ∀ N : Nat, (∃ x, fea pl s x k ∧ sumN x k = t ∧ sumB s (fun m => c m (x m)) k ≤ N) → ∃ v, BestC pl c s k t v := by
    intro N
    induction N with
    | zero =>
      rintro ⟨x, a, b, d⟩
      exact ⟨_, ⟨x, a, b, rfl⟩, fun y hy _ => by have := hc y hy; omega⟩
    | succ N ih =>
      rintro ⟨x, a, b, d⟩
      by_cases h : ∃ x, fea pl s x k ∧ sumN x k = t ∧ sumB s (fun m => c m (x m)) k ≤ N
      · exact ih h
      · exact ⟨_, ⟨x, a, b, rfl⟩, fun y hy hs => by
          rcases Int.lt_or_le (sumB s (fun m => c m (y m)) k) ((N : Int) + 1) with e | e
          · exact absurd ⟨y, hy, hs, by omega⟩ h
          · omega⟩
  obtain ⟨x, a, b⟩ := hx
  exact key (sumB s (fun m => c m (x m)) k).toNat ⟨x, a, b, by have := hc x a; omega⟩
theorem sB_ins {s r : Int} {f g : Nat → Int} {m : Nat} : ∀ n : Nat, m < n → tb s m = 1 → tb r m = 0 → (∀ k, k < n → k ≠ m → tb r k = tb s k) → (∀ k, k < n → k ≠ m → f k = g k) → sumB s f n = sumB r g n + f m
  | 0, h, _, _, _, _ => absurd h (Nat.not_lt_zero _)
  | n + 1, h, h1, h2, h3, h4 => by
    unfold sumB
    by_cases e : m = n
    · subst e
      rw [if_pos h1, if_neg (by omega), Int.add_zero, sumB_congr (t := r) (g := g) m (fun k hk => (h3 k (by omega) (by omega)).symm) (fun k hk _ => h4 k (by omega) (by omega))]
    · rw [sB_ins n (by omega) h1 h2 (fun k hk => h3 k (by omega)) (fun k hk => h4 k (by omega)), h3 n (by omega) (fun z => e z.symm), h4 n (by omega) (fun z => e z.symm)]
      omega
theorem sN_ins {f g : Nat → Int} {m : Nat} : ∀ n : Nat, m < n → (∀ k, k < n → k ≠ m → f k = g k) → sumN f n = sumN g n + (f m - g m)
  | 0, h, _ => absurd h (Nat.not_lt_zero _)
  | n + 1, h, h4 => by
    unfold sumN
    by_cases e : m = n
    · subst e
      rw [sumN_congr (g := g) m (fun k hk => h4 k (by omega) (by omega))]
      omega
    · rw [sN_ins n (by omega) (fun k hk => h4 k (by omega)), h4 n (by omega) (fun z => e z.symm)]
      omega
/-- r is s without m -/
def InsS (s r : Int) (m n : Nat) : Prop := m < n ∧ tb s m = 1 ∧ tb r m = 0 ∧ ∀ k, k < n → k ≠ m → tb r k = tb s k
theorem ins_out {pl : Nat → Nat → Int} {c : Nat → Int → Int} {s r : Int} {m n : Nat} (h : InsS s r m n) {y : Nat → Int} (hy : fea pl s y n) : (pl 1 m ≤ y m ∧ y m ≤ pl 2 m) ∧ fea pl r (fup y m 0) n ∧ sumN (fup y m 0) n = sumN y n - y m ∧ sumB r (fun k => c k (fup y m 0 k)) n = sumB s (fun k => c k (y k)) n - c m (y m) := by
  obtain ⟨h1, h2, h3, h4⟩ := h
  refine ⟨(hy m h1).1 h2, fun k hk => ?_, ?_, ?_⟩
  · by_cases e : k = m
    · subst e
      exact ⟨fun z => by omega, fun _ => fup_at _ _ _⟩
    · rw [fup_ne e, h4 k hk e]
      exact hy k hk
  · have := sN_ins (f := y) (g := fup y m 0) n h1 (fun k hk e => (fup_ne e).symm)
    rw [fup_at] at this
    omega
  · have := sB_ins (f := fun k => c k (y k)) (g := fun k => c k (fup y m 0 k)) n h1 h2 h3 h4 (fun k hk e => by rw [fup_ne e])
    omega
theorem ins_in {pl : Nat → Nat → Int} {c : Nat → Int → Int} {s r : Int} {m n : Nat} (h : InsS s r m n) {y : Nat → Int} {x : Int} (hx : pl 1 m ≤ x ∧ x ≤ pl 2 m) (hy : fea pl r y n) : fea pl s (fup y m x) n ∧ sumN (fup y m x) n = sumN y n + x ∧ sumB s (fun k => c k (fup y m x k)) n = sumB r (fun k => c k (y k)) n + c m x := by
  obtain ⟨h1, h2, h3, h4⟩ := h
  refine ⟨fun k hk => ?_, ?_, ?_⟩
  · by_cases e : k = m
    · subst e
      rw [fup_at]
      exact ⟨fun _ => hx, fun z => by omega⟩
    · rw [fup_ne e, ← h4 k hk e]
      exact hy k hk
  · have := sN_ins (f := fup y m x) (g := y) n h1 (fun k hk e => fup_ne e)
    rw [fup_at, (hy m h1).2 h3] at this
    omega
  · have := sB_ins (f := fun k => c k (fup y m x k)) (g := fun k => c k (y k)) n h1 h2 h3 h4 (fun k hk e => by rw [fup_ne e])
    rw [this, fup_at]
/-- v is the table's number for a set and a load -/
def TV (pl : Nat → Nat → Int) (lift s t v : Int) : Prop := (CanX pl s t ∧ BestC pl (pwX pl lift) s (pl 0 0).toNat t v) ∨ (¬ CanX pl s t ∧ v = 1000000000)
theorem pw_sum {pl : Nat → Nat → Int} (hp : PV pl) {lift s : Int} (hl : 0 ≤ lift ∧ lift ≤ 45) {x : Nat → Int} (hx : fea pl s x (pl 0 0).toNat) : 0 ≤ sumB s (fun m => pwX pl lift m (x m)) (pl 0 0).toNat ∧ sumB s (fun m => pwX pl lift m (x m)) (pl 0 0).toNat ≤ 123468 := by
  have h1 := sumB_le (s := s) (f := fun m => if tb s m = 1 then pwX pl lift m (x m) else 0) (B := 20578) (pl 0 0).toNat (fun k hk => by
    have hk2 := hp.2.1 k (by omega)
    show 0 ≤ (if tb s k = 1 then pwX pl lift k (x k) else 0) ∧ (if tb s k = 1 then pwX pl lift k (x k) else 0) ≤ 20578
    split
    · rename_i q
      have := (hx k hk).1 q
      exact pw_rng hp (by omega) ⟨by omega, by omega⟩ hl
    · omega)
  have h2 := sumB_congr (s := s) (t := s) (f := fun m => pwX pl lift m (x m)) (g := fun m => if tb s m = 1 then pwX pl lift m (x m) else 0) (pl 0 0).toNat (fun _ _ => rfl) (fun k hk q => (if_pos q).symm)
  rw [h2]
  have := hp.1
  omega
theorem tv_rng {pl : Nat → Nat → Int} (hp : PV pl) {lift s t v : Int} (hl : 0 ≤ lift ∧ lift ≤ 45) (h : TV pl lift s t v) : (0 ≤ v ∧ v ≤ 123468 ∧ CanX pl s t ∧ BestC pl (pwX pl lift) s (pl 0 0).toNat t v) ∨ (v = 1000000000 ∧ ¬ CanX pl s t) := by
  rcases h with ⟨a, b⟩ | ⟨a, b⟩
  · obtain ⟨x, h1, h2, h3⟩ := b.1
    have := pw_sum hp hl h1
    exact Or.inl ⟨by omega, by omega, a, b⟩
  · exact Or.inr ⟨b, a⟩
theorem fea_can {pl : Nat → Nat → Int} {s t : Int} {x : Nat → Int} (h : fea pl s x (pl 0 0).toNat) (ht : sumN x (pl 0 0).toNat = t) : CanX pl s t := by
  have := fea_sum h
  unfold CanX
  omega
theorem pv_lm {pl : Nat → Nat → Int} (hp : PV pl) : ∀ m, m < (pl 0 0).toNat → pl 1 m ≤ pl 2 m := fun m hm => by
  have := hp.2.1 m (by omega)
  omega
/-- a machine comes to a set -/
theorem tv_ins {pl : Nat → Nat → Int} (hp : PV pl) {lift s r load z : Int} (hl : 0 ≤ lift ∧ lift ≤ 45) {m : Nat} (hi : InsS s r m (pl 0 0).toNat) {A : Int → Int} (hA : ∀ t, 0 ≤ t → t ≤ 480 → TV pl lift r t (A t)) (hld : load ≤ 480)
    (hmin : ∀ x, pl 1 m ≤ x → x ≤ pl 2 m → x ≤ load → A (load - x) < 1000000000 → z ≤ A (load - x) + pwX pl lift m x)
    (hex : z = 1000000000 ∨ ∃ x, pl 1 m ≤ x ∧ x ≤ pl 2 m ∧ x ≤ load ∧ A (load - x) < 1000000000 ∧ z = A (load - x) + pwX pl lift m x) : TV pl lift s load z := by
  have hm := hp.2.1 m (by have := hi.1; omega)
  have low : ∀ y, fea pl s y (pl 0 0).toNat → sumN y (pl 0 0).toNat = load → z ≤ sumB s (fun k => pwX pl lift k (y k)) (pl 0 0).toNat ∧ z ≤ 200000 := by
    intro y hy hs
    obtain ⟨a, b, d, e⟩ := ins_out (c := pwX pl lift) hi hy
    have hc := fea_can b (t := load - y m) (by omega)
    have hc0 := (pv_least hp r).1
    have ht := hA (load - y m) (by unfold CanX at hc; omega) (by omega)
    rcases tv_rng hp hl ht with q | q
    · have := hmin (y m) a.1 a.2 (by unfold CanX at hc; omega) (by omega)
      have h2 := q.2.2.2.2 _ b (by omega)
      have h3 := pw_rng hp (m := m) (by have := hi.1; omega) (x := y m) ⟨by omega, by omega⟩ hl
      omega
    · exact absurd hc q.2
  rcases hex with h | ⟨x, h1, h2, h3, h4, h5⟩
  · refine Or.inr ⟨fun hc => ?_, h⟩
    obtain ⟨y, hy, hs⟩ := can_fea _ _ (pv_lm hp) hc.1 hc.2
    have := low y hy hs
    omega
  · rcases tv_rng hp hl (hA (load - x) (by omega) (by omega)) with q | q
    · obtain ⟨y, b1, b2, b3⟩ := q.2.2.2.1
      obtain ⟨c1, c2, c3⟩ := ins_in (c := pwX pl lift) hi ⟨h1, h2⟩ b1
      exact Or.inl ⟨fea_can c1 (by omega), ⟨_, c1, by omega, by omega⟩, fun y hy hs => (low y hy hs).1⟩
    · omega
theorem tb_0 (n : Nat) : tb 0 n = 0 := by
  unfold tb
  simp
theorem sumB_0 (f : Nat → Int) : ∀ n, sumB 0 f n = 0
  | 0 => rfl
  | n + 1 => by
    unfold sumB
    rw [sumB_0 f n, if_neg (by rw [tb_0]; decide)]
    rfl
theorem tv_0 {pl : Nat → Nat → Int} {lift t : Int} : TV pl lift 0 t (if t = 0 then 0 else 1000000000) := by
  have h : CanX pl 0 t ↔ t = 0 := by
    unfold CanX
    rw [sumB_0, sumB_0]
    omega
  by_cases e : t = 0
  · rw [if_pos e, e]
    refine Or.inl ⟨by unfold CanX; rw [sumB_0, sumB_0]; omega, ⟨fun _ => 0, fun m _ => ⟨fun q => absurd q (by rw [tb_0]; decide), fun _ => rfl⟩, ?_, sumB_0 _ _⟩, fun x _ _ => ?_⟩
    · generalize (pl 0 0).toNat = n
      induction n with
      | zero => rfl
      | succ n ih => unfold sumN; rw [ih]; rfl
    · rw [sumB_0]
      exact Int.le_refl _
  · rw [if_neg e]
    exact Or.inr ⟨fun z => e (h.mp z), rfl⟩
