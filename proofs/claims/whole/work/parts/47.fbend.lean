/-! the best set of the table and the least packed number are one -/
theorem mk_set (b : Nat → Int) (hb : ∀ k, b k = 0 ∨ b k = 1) : ∃ s : Int, 0 ≤ s ∧ s < 64 ∧ ∀ k, k < 6 → tb s k = b k := by
  refine ⟨b 0 + 2 * b 1 + 4 * b 2 + 8 * b 3 + 16 * b 4 + 32 * b 5, ?_, ?_, fun k hk => ?_⟩
  · have := hb 0; have := hb 1; have := hb 2; have := hb 3; have := hb 4; have := hb 5; omega
  · have := hb 0; have := hb 1; have := hb 2; have := hb 3; have := hb 4; have := hb 5; omega
  · have h0 := hb 0
    have h1 := hb 1
    have h2 := hb 2
    have h3 := hb 3
    have h4 := hb 4
    have h5 := hb 5
    rcases (show k = 0 ∨ k = 1 ∨ k = 2 ∨ k = 3 ∨ k = 4 ∨ k = 5 by omega) with rfl | rfl | rfl | rfl | rfl | rfl
    · show _ / 1 % 2 = _; omega
    · show _ / 2 % 2 = _; omega
    · show _ / 4 % 2 = _; omega
    · show _ / 8 % 2 = _; omega
    · show _ / 16 % 2 = _; omega
    · show _ / 32 % 2 = _; omega
theorem set_sum {s : Int} (h0 : 0 ≤ s) (h1 : s < 64) : sumN (fun k => if tb s k = 1 then (2 : Int) ^ k else 0) 6 = s :=
  fin1 (P := fun s => sumN (fun k => if tb s k = 1 then (2 : Int) ^ k else 0) 6 = s) (by decide +kernel) h0 h1
theorem set_cnt {s : Int} (h0 : 0 ≤ s) (h1 : s < 64) : sumN (fun k => if tb s k = 1 then (1 : Int) else 0) 6 = cnt s :=
  fin1 (P := fun s => sumN (fun k => if tb s k = 1 then (1 : Int) else 0) 6 = cnt s) (by decide +kernel) h0 h1
theorem bk_split {pl : Nat → Nat → Int} {lift s : Int} {x : Nat → Int} : ∀ n, sumB s (fun m => bkX pl lift m (x m)) n = sumB s (fun m => pwX pl lift m (x m)) n * 512 + 64 * sumB s (fun _ => 1) n + sumB s (fun m => 2 ^ m) n
  | 0 => rfl
  | n + 1 => by
    unfold sumB
    rw [bk_split n]
    by_cases h : tb s n = 1
    · rw [if_pos h, if_pos h, if_pos h, if_pos h]
      unfold bkX
      omega
    · rw [if_neg h, if_neg h, if_neg h, if_neg h]
      omega
theorem sB_6 {s : Int} (f : Nat → Int) {n : Nat} (hn : n ≤ 6) (hz : ∀ k, n ≤ k → k < 6 → tb s k = 0) : sumB s f n = sumN (fun k => if tb s k = 1 then f k else 0) 6 := by
  rw [sB_if]
  have h : ∀ d, n + d ≤ 6 → sumN (fun k => if tb s k = 1 then f k else 0) (n + d) = sumN (fun k => if tb s k = 1 then f k else 0) n := by
    intro d
    induction d with
    | zero => intro _; rfl
    | succ d ih =>
      intro hd
      show sumN _ (n + d) + (if tb s (n + d) = 1 then f (n + d) else 0) = _
      rw [ih (by omega), if_neg (by have := hz (n + d) (by omega) (by omega); omega), Int.add_zero]
  have := h (6 - n) (by omega)
  rw [show n + (6 - n) = 6 by omega] at this
  exact this.symm
/-- a share with a set, and its packed number -/
theorem set_val {pl : Nat → Nat → Int} (hp : PV pl) {lift s : Int} (h0 : 0 ≤ s) (h1 : s < 64) (hz : ∀ k : Nat, pl 0 0 ≤ (k : Int) → k < 6 → tb s k = 0) {x : Nat → Int} (hx : fea pl s x (pl 0 0).toNat) (hnz : ∀ m, m < (pl 0 0).toNat → (x m = 0 ↔ tb s m = 0)) :
    sumN (cz (bkX pl lift) x) (pl 0 0).toNat = sumB s (fun m => pwX pl lift m (x m)) (pl 0 0).toNat * 512 + 64 * cnt s + s := by
  have hp0 := hp.1
  have hz2 : ∀ k, (pl 0 0).toNat ≤ k → k < 6 → tb s k = 0 := fun k a b => hz k (by omega) b
  have e : sumN (cz (bkX pl lift) x) (pl 0 0).toNat = sumB s (fun m => bkX pl lift m (x m)) (pl 0 0).toNat := by
    rw [sB_if]
    refine sumN_congr _ (fun k hk => ?_)
    unfold cz
    have q := hnz k hk
    rcases tb01 s k with t | t
    · rw [if_pos (q.mpr t), if_neg (by omega)]
    · rw [if_neg (fun w => by have := q.mp w; omega), if_pos t]
  rw [e, bk_split, sB_6 (fun _ => 1) (by omega) hz2, sB_6 (fun m => 2 ^ m) (by omega) hz2, set_cnt h0 h1, set_sum h0 h1]
theorem fb_end {pl : Nat → Nat → Int} (hp : PV pl) {lift load lk best bp v : Int} (hl : 0 ≤ lift ∧ lift ≤ 45) (hk0 : 0 ≤ lk) (hk1 : lk < 64) (h : FB pl lift load lk (bshl 1 (pl 0 0)) best bp) (hv : BestS pl (bkX pl lift) (band (bshl 1 (pl 0 0) - 1) (bxor lk (-1))) (pl 0 0).toNat load v) :
    (v < 1073741824 → best = v % 64 ∧ bp = v / 512 ∧ best ≠ -4 ∧ 0 ≤ v) ∧ (¬ v < 1073741824 → best = -4) := by
  have hp0 := hp.1
  have ha := bt_all (pl 0 0) (by omega) hp0.2
  have ho := bt_open (s := bshl 1 (pl 0 0) - 1) (t := lk) ha.1 ha.2.1 hk0 hk1
  have hop : ∀ k, k < 6 → tb (band (bshl 1 (pl 0 0) - 1) (bxor lk (-1))) k = if tb lk k = 1 then 0 else if k < (pl 0 0).toNat then 1 else 0 := fun k hk => by rw [ho.2.2 k hk, ha.2.2.2 k hk]
  -- from a set to a share of the kind
  have toS : ∀ s y, 0 ≤ s → s < bshl 1 (pl 0 0) → band s lk = 0 → fea pl s y (pl 0 0).toNat → feS pl (band (bshl 1 (pl 0 0) - 1) (bxor lk (-1))) y (pl 0 0).toNat ∧ sumN (cz (bkX pl lift) y) (pl 0 0).toNat = sumB s (fun m => pwX pl lift m (y m)) (pl 0 0).toNat * 512 + 64 * cnt s + s := by
    intro s y s0 s1 sb hy
    have hb := (bt_and2 (s := s) (t := lk) s0 (by omega) hk0 hk1).2.2
    refine ⟨fun m hm => ?_, set_val hp s0 (by omega) (fun k a b => tb_big (by omega) (by omega) s0 s1 a) hy (fun m hm => ?_)⟩
    · rcases tb01 s m with t | t
      · exact Or.inl ((hy m hm).2 t)
      · have q := hb m (by omega)
        rw [sb, tb_0, t] at q
        have t2 := tb01 lk m
        exact Or.inr ⟨by rw [hop m (by omega), if_neg (by omega), if_pos hm], (hy m hm).1 t⟩
    · have b := hp.2.1 m (by omega)
      rcases tb01 s m with t | t
      · exact ⟨fun _ => t, fun _ => (hy m hm).2 t⟩
      · have := (hy m hm).1 t
        exact ⟨fun w => by omega, fun w => by omega⟩
  -- and back
  have toX : ∀ x, feS pl (band (bshl 1 (pl 0 0) - 1) (bxor lk (-1))) x (pl 0 0).toNat → ∃ s, (0 ≤ s ∧ s < bshl 1 (pl 0 0)) ∧ band s lk = 0 ∧ fea pl s x (pl 0 0).toNat := by
    intro x hx
    obtain ⟨s, s0, s1, s2⟩ := mk_set (fun k => if k < (pl 0 0).toNat ∧ x k ≠ 0 then 1 else 0) (fun k => by
      by_cases c : k < (pl 0 0).toNat ∧ x k ≠ 0
      · exact Or.inr (if_pos c)
      · exact Or.inl (if_neg c))
    have s3 : ∀ k, k < 6 → tb s k = if k < (pl 0 0).toNat ∧ x k ≠ 0 then 1 else 0 := s2
    have sn := on_in hp s0 s1 (fun k a b => by rw [s3 k b, if_neg (by omega)])
    refine ⟨s, sn, ?_, fun m hm => ⟨fun t => ?_, fun t => ?_⟩⟩
    · have hb := bt_and2 (s := s) (t := lk) s0 s1 hk0 hk1
      refine bt_ext hb.1 hb.2.1 (by decide) (by decide) (fun k hk => ?_)
      rw [hb.2.2 k hk, tb_0, s3 k hk]
      have t2 := tb01 lk k
      by_cases c : k < (pl 0 0).toNat ∧ x k ≠ 0
      · rw [if_pos c]
        rcases hx k c.1 with w | w
        · exact absurd w c.2
        · have q := w.1
          rw [hop k hk] at q
          by_cases d : tb lk k = 1
          · rw [if_pos d] at q; omega
          · omega
      · rw [if_neg c]
        omega
    · rw [s3 m (by omega)] at t
      by_cases c : m < (pl 0 0).toNat ∧ x m ≠ 0
      · rcases hx m hm with w | w
        · exact absurd w c.2
        · exact w.2
      · rw [if_neg c] at t; omega
    · rw [s3 m (by omega)] at t
      by_cases c : x m = 0
      · exact c
      · rw [if_pos ⟨hm, c⟩] at t; omega
  obtain ⟨hv1, hv2⟩ := hv
  refine ⟨fun hlt => ?_, fun hge => ?_⟩
  · rcases hv1 with ⟨x, x1, x2, x3, -⟩ | ⟨q, -⟩
    · obtain ⟨s, s1, s2, s3⟩ := toX x x1
      obtain ⟨-, sv⟩ := toS s x s1.1 s1.2 s2 s3
      have hcan := fea_can s3 x2
      obtain ⟨p, hpp⟩ := best_ex (c := pwX pl lift) (fun y hy => (pw_sum hp hl hy).1) ⟨x, s3, x2⟩
      have px := hpp.2 x s3 x2
      obtain ⟨y, y1, y2, y3⟩ := hpp.1
      obtain ⟨ya, yb⟩ := toS s y s1.1 s1.2 s2 y1
      have vy := hv2 y ya y2
      have pr := pw_sum hp hl y1
      have c0 := cnt_rng s1.1 (show s < 64 by omega)
      rcases h with ⟨a, b, c⟩ | ⟨a, b, c, d, e⟩
      · exact absurd hcan (c s s1.1 s1.2 s2)
      · have e1 := e s p s1.1 s1.2 s2 hcan hpp
        obtain ⟨z, z1, z2, z3⟩ := d.1
        obtain ⟨za, zb⟩ := toS best z a.1 a.2 b z1
        have vz := hv2 z za z2
        have c1 := cnt_rng a.1 (show best < 64 by omega)
        have a2 := a.2
        have s12 := s1.2
        omega
    · omega
  · rcases hv1 with ⟨x, x1, x2, x3, x4⟩ | ⟨-, q⟩
    · omega
    · rcases h with ⟨a, b, c⟩ | ⟨a, b, c, d, e⟩
      · exact a
      · obtain ⟨z, z1, z2, z3⟩ := d.1
        exact absurd z2 (q z (toS best z a.1 a.2 b z1).1)
