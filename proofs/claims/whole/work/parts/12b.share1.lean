theorem sumB_s (s : Int) (f : Nat → Int) (k : Nat) : sumB s f (k + 1) = sumB s f k + (if tb s k = 1 then f k else 0) := rfl
theorem sumB_in {s : Int} {f : Nat → Int} {k : Nat} (h : tb s k = 1) : sumB s f (k + 1) = sumB s f k + f k := by rw [sumB_s, if_pos h]
theorem sumB_out {s : Int} {f : Nat → Int} {k : Nat} (h : tb s k = 0) : sumB s f (k + 1) = sumB s f k := by rw [sumB_s, if_neg (by omega), Int.add_zero]
def rowU (g : Nat → Int) (a b : Int) (c : Nat → Int) : Nat → Int := fun j => if a ≤ (j : Int) ∧ (j : Int) < b then c j else g j
theorem rowU_0 (g : Nat → Int) (a : Int) (c : Nat → Int) : rowU g a a c = g := by
  funext j
  exact if_neg (by omega)
theorem rowU_suc (g : Nat → Int) {a b : Int} (c : Nat → Int) (h : a ≤ b) (h0 : 0 ≤ b) : fup (rowU g a b c) b.toNat (c b.toNat) = rowU g a (b + 1) c := by
  funext j
  unfold fup rowU
  by_cases e : j = b.toNat
  · rw [if_pos e, if_pos (by omega), e]
  · rw [if_neg e]
    by_cases e2 : a ≤ (j : Int) ∧ (j : Int) < b
    · rw [if_pos e2, if_pos (by omega)]
    · rw [if_neg e2, if_neg (by omega)]
theorem rowU_in {g : Nat → Int} {a b x : Int} {c : Nat → Int} (h0 : 0 ≤ x) (h1 : a ≤ x) (h2 : x < b) : rowU g a b c x.toNat = c x.toNat := if_pos (by omega)
theorem p2s : ∀ m : Nat, m < 6 → 1 ≤ (2 : Int) ^ (7 * (5 - m)) ∧ (2 : Int) ^ (7 * (5 - m)) ≤ 34359738368 := by decide +kernel
theorem pk_rng {pl : Nat → Nat → Int} (h : PV pl) {m : Nat} (hm : (m : Int) < pl 0 0) {x lift : Int} (hx : 0 ≤ x ∧ x ≤ 99) (hl : 0 ≤ lift ∧ lift ≤ 45) : 0 ≤ pkX pl lift m x ∧ pkX pl lift m x ≤ 90506405999919104 ∧ x * 2 ^ (7 * (5 - m)) ≤ 3401614098432 := by
  have q := pw_rng h hm hx hl
  have q2 := p2s m (by have := h.1.2; omega)
  have q3 := mulb (a := x) (b := 2 ^ (7 * (5 - m))) (A := 99) (B := 34359738368) hx.1 hx.2 (by omega) q2.2
  unfold pkX
  omega
theorem best_rng {pl : Nat → Nat → Int} (h : PV pl) {s lift t v : Int} (hl : 0 ≤ lift ∧ lift ≤ 45) {k : Nat} (hk : (k : Int) ≤ pl 0 0) (hb : BestC pl (pkX pl lift) s k t v) : 0 ≤ v ∧ v ≤ 543038435999514624 := by
  obtain ⟨⟨x, h1, -, rfl⟩, -⟩ := hb
  have q := sumB_le (s := s) (f := fun m => pkX pl lift m (x m)) (B := 90506405999919104) k (fun m hm => by
    have hm2 : (m : Int) < pl 0 0 := by omega
    have h3 := h1 m hm
    have h4 := h.2.1 m hm2
    have hx : 0 ≤ x m ∧ x m ≤ 99 := by
      rcases tb01 s m with e | e
      · rw [h3.2 e]; omega
      · have := h3.1 e; omega
    have := pk_rng h hm2 hx hl
    exact ⟨this.1, this.2.1⟩)
  have h6 := h.1.2
  omega
theorem sumB_later {s later : Int} {m : Nat} (hl : ∀ k, k < 6 → tb later k = if k ≤ m then 0 else tb s k) (f : Nat → Int) : ∀ n : Nat, n ≤ 6 → m + 1 ≤ n → sumB later f n = sumB s f n - sumB s f (m + 1) := by
  have low : ∀ n : Nat, n ≤ m + 1 → n ≤ 6 → sumB later f n = 0 := by
    intro n
    induction n with
    | zero => intro _ _; rfl
    | succ n ih =>
      intro h1 h2
      rw [sumB_out (by rw [hl n (by omega), if_pos (by omega)]), ih (by omega) (by omega)]
  intro n
  induction n with
  | zero => intro _ h; omega
  | succ n ih =>
    intro h1 h2
    by_cases e : m + 1 = n + 1
    · have e2 : m = n := by omega
      subst e2
      rw [low (m + 1) (by omega) h1]
      omega
    · have h3 := ih (by omega) (by omega)
      have e1 : sumB later f (n + 1) = sumB later f n + (if tb later n = 1 then f n else 0) := rfl
      have e2 : sumB s f (n + 1) = sumB s f n + (if tb s n = 1 then f n else 0) := rfl
      rw [e1, e2, h3, hl n (by omega), if_neg (by omega : ¬ n ≤ m)]
      omega
/-- the loads that the first k machines may make together, so that the rest can make what is left -/
def lowK (pl : Nat → Nat → Int) (s load : Int) (k : Nat) : Int := max (sumB s (pl 1) k) (load - (sumB s (pl 2) (pl 0 0).toNat - sumB s (pl 2) k))
def highK (pl : Nat → Nat → Int) (s load : Int) (k : Nat) : Int := min (sumB s (pl 2) k) (load - (sumB s (pl 1) (pl 0 0).toNat - sumB s (pl 1) k))
/-- what the row of sums holds behind k machines -/
def ShI (pl u : Nat → Nat → Int) (k : Nat) : Prop := u 7 0 = lowK pl (u 4 0) (u 5 0) k ∧ u 8 0 = highK pl (u 4 0) (u 5 0) k ∧ ∀ t : Int, lowK pl (u 4 0) (u 5 0) k ≤ t → t ≤ highK pl (u 4 0) (u 5 0) k → BestC pl (pkX pl (u 6 0)) (u 4 0) k t (u 1 t.toNat)
theorem sumB_lt {s : Int} {f g : Nat → Int} : ∀ n : Nat, (∀ j, j < n → f j ≤ g j) → sumB s f n ≤ sumB s g n
  | 0, _ => Int.le_refl _
  | n + 1, h => by
    have h1 := sumB_lt (s := s) n (fun j hj => h j (by omega))
    have h2 := h n (by omega)
    unfold sumB
    split <;> omega
theorem sumB_mono {s : Int} {f g : Nat → Int} (k : Nat) : ∀ n : Nat, k ≤ n → (∀ j, j < n → 0 ≤ f j ∧ f j ≤ g j) → sumB s f k ≤ sumB s f n ∧ sumB s g k - sumB s f k ≤ sumB s g n - sumB s f n := by
  intro n
  induction n with
  | zero =>
    intro h _
    have : k = 0 := by omega
    subst this
    exact ⟨Int.le_refl _, Int.le_refl _⟩
  | succ n ih =>
    intro h hf
    by_cases e : k = n + 1
    · subst e
      exact ⟨Int.le_refl _, Int.le_refl _⟩
    · obtain ⟨h1, h2⟩ := ih (by omega) (fun j hj => hf j (by omega))
      have h4 := hf n (by omega)
      have e1 : sumB s f (n + 1) = sumB s f n + (if tb s n = 1 then f n else 0) := rfl
      have e2 : sumB s g (n + 1) = sumB s g n + (if tb s n = 1 then g n else 0) := rfl
      rw [e1, e2]
      split <;> omega
theorem win_in {pl : Nat → Nat → Int} (h : PV pl) {s load : Int} (h1 : sumB s (pl 1) (pl 0 0).toNat ≤ load) (h2 : load ≤ sumB s (pl 2) (pl 0 0).toNat) {k : Nat} (hk : k ≤ (pl 0 0).toNat) :
    0 ≤ lowK pl s load k ∧ lowK pl s load k ≤ highK pl s load k ∧ highK pl s load k ≤ 480 := by
  have hb : ∀ j, j < (pl 0 0).toNat → 0 ≤ pl 1 j ∧ pl 1 j ≤ pl 2 j := fun j hj => by have := h.2.1 j (by omega); omega
  have a1 := sumB_mono (s := s) (f := pl 1) (g := pl 2) k _ hk hb
  have a2 := sumB_lt (s := s) (f := pl 1) (g := pl 2) k (fun j hj => (hb j (by omega)).2)
  have a3 := sumB_le (s := s) (f := pl 1) (B := 40) k (fun j hj => by have := h.2.1 j (by omega); omega)
  have a4 := sumB_le (s := s) (f := pl 2) (B := 80) k (fun j hj => by have := h.2.1 j (by omega); omega)
  have := h.1.2
  unfold lowK highK
  omega
theorem win_0 {pl : Nat → Nat → Int} {s load : Int} (h1 : sumB s (pl 1) (pl 0 0).toNat ≤ load) (h2 : load ≤ sumB s (pl 2) (pl 0 0).toNat) : lowK pl s load 0 = 0 ∧ highK pl s load 0 = 0 := by
  have e1 : sumB s (pl 1) 0 = 0 := rfl
  have e2 : sumB s (pl 2) 0 = 0 := rfl
  unfold lowK highK
  rw [e1, e2]
  omega
theorem win_skip {pl : Nat → Nat → Int} {s load : Int} {k : Nat} (hs : tb s k = 0) : lowK pl s load (k + 1) = lowK pl s load k ∧ highK pl s load (k + 1) = highK pl s load k := by
  have e1 : sumB s (pl 1) (k + 1) = sumB s (pl 1) k := sumB_out hs
  have e2 : sumB s (pl 2) (k + 1) = sumB s (pl 2) k := sumB_out hs
  unfold lowK highK
  rw [e1, e2]
  exact ⟨rfl, rfl⟩
theorem win_add {pl : Nat → Nat → Int} {s load : Int} {k : Nat} (hs : tb s k = 1) (hL : pl 1 k ≤ pl 2 k) :
    lowK pl s load (k + 1) = max (lowK pl s load k + pl 1 k) (load - (sumB s (pl 2) (pl 0 0).toNat - sumB s (pl 2) (k + 1))) ∧ highK pl s load (k + 1) = min (highK pl s load k + pl 2 k) (load - (sumB s (pl 1) (pl 0 0).toNat - sumB s (pl 1) (k + 1))) := by
  have e1 : sumB s (pl 1) (k + 1) = sumB s (pl 1) k + pl 1 k := sumB_in hs
  have e2 : sumB s (pl 2) (k + 1) = sumB s (pl 2) k + pl 2 k := sumB_in hs
  unfold lowK highK
  rw [e1, e2]
  omega
/-- within the window of k + 1 machines no share of the first k is lost -/
theorem win_cov {pl : Nat → Nat → Int} {s load t : Int} {k : Nat} (hs : tb s k = 1) (h1 : lowK pl s load (k + 1) ≤ t) (h2 : t ≤ highK pl s load (k + 1)) :
    ∀ x, pl 1 k ≤ x → x ≤ pl 2 k → sumB s (pl 1) k ≤ t - x → t - x ≤ sumB s (pl 2) k → max (pl 1 k) (t - highK pl s load k) ≤ x ∧ x ≤ min (pl 2 k) (t - lowK pl s load k) := by
  have e1 : sumB s (pl 1) (k + 1) = sumB s (pl 1) k + pl 1 k := sumB_in hs
  have e2 : sumB s (pl 2) (k + 1) = sumB s (pl 2) k + pl 2 k := sumB_in hs
  intro x a b c d
  unfold lowK highK at *
  rw [e1, e2] at h1 h2
  omega
/-- there is a part for every load of the window -/
theorem win_ex {pl : Nat → Nat → Int} {s load t : Int} {k : Nat} (h : PV pl) (hk : k < (pl 0 0).toNat) (h3 : sumB s (pl 1) (pl 0 0).toNat ≤ load) (h4 : load ≤ sumB s (pl 2) (pl 0 0).toNat) (hs : tb s k = 1) (h1 : lowK pl s load (k + 1) ≤ t) (h2 : t ≤ highK pl s load (k + 1)) :
    max (pl 1 k) (t - highK pl s load k) ≤ min (pl 2 k) (t - lowK pl s load k) := by
  have w := win_in h h3 h4 (k := k) (by omega)
  have q := h.2.1 k (by omega)
  obtain ⟨a1, a2⟩ := win_add (load := load) hs (by omega : pl 1 k ≤ pl 2 k)
  rw [a1] at h1
  rw [a2] at h2
  omega
