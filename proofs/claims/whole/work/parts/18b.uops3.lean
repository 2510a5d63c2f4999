theorem flX_stop (pl u : Nat → Nat → Int) (k : Nat) (h : (flX pl u k).2 = 0) : ∀ d : Nat, flX pl u (k + d) = flX pl u k
  | 0 => rfl
  | d + 1 => by
    have := flX_stop pl u k h d
    show (if (flX pl u (k + d)).2 = 0 then flX pl u (k + d) else _) = _
    rw [this, if_pos h]
theorem cnt_clr {s m : Int} (h0 : 0 ≤ s) (h1 : s < 64) (h2 : 0 ≤ m) (h3 : m < 6) (h : tb s m.toNat = 1) : cnt (clrB s m) = cnt s - 1 :=
  fin2 (P := fun s m => tb s m.toNat = 1 → cnt (clrB s m) = cnt s - 1) (by decide +kernel) h0 h1 h2 h3 h
theorem set_ne0 {s : Int} (h0 : 0 ≤ s) (h1 : s < 64) (h : s ≠ 0) : ∃ k, k < 6 ∧ tb s k = 1 :=
  fin1 (P := fun s => s ≠ 0 → ∃ k, k < 6 ∧ tb s k = 1) (by decide +kernel) h0 h1 h
theorem cnt_rng {s : Int} (h0 : 0 ≤ s) (h1 : s < 64) : 0 ≤ cnt s ∧ cnt s ≤ 6 :=
  fin1 (P := fun s => 0 ≤ cnt s ∧ cnt s ≤ 6) (by decide +kernel) h0 h1
theorem gr_mem {pl : Nat → Nat → Int} (hp : PV pl) (s : Int) : ∀ n : Nat, (n : Int) ≤ pl 0 0 → (((grX pl s n).1 = 0 ∧ (grX pl s n).2 = 0 ∧ ∀ k, k < n → tb s k = 0) ∨ (0 ≤ (grX pl s n).1 ∧ (grX pl s n).1 < n ∧ tb s (grX pl s n).1.toNat = 1 ∧ 0 < (grX pl s n).2))
  | 0, _ => Or.inl ⟨rfl, rfl, fun k hk => absurd hk (Nat.not_lt_zero _)⟩
  | n + 1, h => by
    have ih := gr_mem hp s n (by omega)
    have q := hp.2.1 n (by omega)
    unfold grX
    split
    · rename_i c
      right
      exact ⟨by show 0 ≤ (n : Int); omega, by show (n : Int) < _; omega, by show tb s ((n : Int)).toNat = 1; rw [show ((n : Int)).toNat = n by omega]; exact c.1, by show 0 < pl 2 n; omega⟩
    · rename_i c
      rcases ih with ⟨a, b, d⟩ | ⟨a, b, d, e⟩
      · left
        refine ⟨a, b, fun k hk => ?_⟩
        by_cases e : k = n
        · subst e
          rcases tb01 s k with z | z
          · exact z
          · exact absurd ⟨z, by omega⟩ c
        · exact d k (by omega)
      · right
        exact ⟨a, by omega, d, e⟩
theorem grt_ok {pl : Nat → Nat → Int} (hp : PV pl) {s : Int} (h0 : 0 ≤ s) (h1 : s < 64) (h : s ≠ 0) (hn : ∀ k : Nat, pl 0 0 ≤ (k : Int) → k < 6 → tb s k = 0) :
    0 ≤ (grX pl s (pl 0 0).toNat).1 ∧ (grX pl s (pl 0 0).toNat).1 < pl 0 0 ∧ tb s (grX pl s (pl 0 0).toNat).1.toNat = 1 := by
  have hp0 := hp.1
  rcases gr_mem hp s (pl 0 0).toNat (by omega) with ⟨a, b, d⟩ | ⟨a, b, d, e⟩
  · obtain ⟨k, k1, k2⟩ := set_ne0 h0 h1 h
    exfalso
    rcases Int.lt_or_le (k : Int) (pl 0 0) with z | z
    · have := d k (by omega); omega
    · have := hn k z k1; omega
  · exact ⟨a, by omega, d⟩
/-- the set that is left and what is listed, as the dip goes on -/
theorem fl_inv {pl u : Nat → Nat → Int} (hp : PV pl) {B : Int} (hS : SV B (pl 0 0) u) (hl : u 9 0 + cnt (runX u) ≤ 6) : ∀ k, SV B (pl 0 0) (flX pl u k).1 ∧ (0 ≤ (flX pl u k).2 ∧ (flX pl u k).2 < 64) ∧ (∀ j : Nat, pl 0 0 ≤ (j : Int) → j < 6 → tb (flX pl u k).2 j = 0) ∧ (flX pl u k).1 9 0 + cnt (flX pl u k).2 ≤ 6
  | 0 => by
    have c := hS.2.2.1
    obtain ⟨r1, r2, r3⟩ := bt_or (s := u 6 0) (t := u 7 0) (by omega) (by omega) (by omega) (by omega)
    refine ⟨hS, ⟨r1, r2⟩, fun j hj hj6 => ?_, hl⟩
    have := hS.2.2.2.2.2.2.2 j hj hj6
    show tb (bor (u 6 0) (u 7 0)) j = 0
    rw [r3 j hj6, this.1, this.2]
    rfl
  | k + 1 => by
    have ih := fl_inv hp hS hl k
    unfold flX
    split
    · exact ih
    · rename_i c
      obtain ⟨i1, i2, i3, i4⟩ := ih
      obtain ⟨g1, g2, g3⟩ := grt_ok hp i2.1 i2.2 c i3
      have hp0 := hp.1
      have hc := cnt_clr i2.1 i2.2 g1 (by omega) g3
      obtain ⟨r1, r2, r3⟩ := bt_clr i2.1 i2.2 g1 (show _ < 6 by omega)
      have hcr := cnt_rng r1 r2
      have hsp := sv_sp i1 g1 (show _ < 6 by omega)
      have e9 : (spX (flX pl u k).1 (grX pl (flX pl u k).2 (pl 0 0).toNat).1) 9 0 = (flX pl u k).1 9 0 := by
        unfold spX
        split
        · simp [fu]
        · rfl
      have hci := cnt_rng i2.1 i2.2
      have hc1 : 0 ≤ cnt (clrB (flX pl u k).2 (grX pl (flX pl u k).2 (pl 0 0).toNat).1) := hcr.1
      refine ⟨sv_pt hsp (by rw [e9]; omega) g1 g2, ⟨r1, r2⟩, fun j hj hj6 => ?_, ?_⟩
      · show tb (clrB _ _) j = 0
        rw [r3 j hj6]
        split
        · rfl
        · exact i3 j hj hj6
      · have e10 : ptX (spX (flX pl u k).1 (grX pl (flX pl u k).2 (pl 0 0).toNat).1) (grX pl (flX pl u k).2 (pl 0 0).toNat).1 9 0 = (flX pl u k).1 9 0 + 1 := by
          unfold ptX
          rw [fu_at, e9]
        show ptX (spX (flX pl u k).1 (grX pl (flX pl u k).2 (pl 0 0).toNat).1) (grX pl (flX pl u k).2 (pl 0 0).toNat).1 9 0 + cnt (clrB (flX pl u k).2 (grX pl (flX pl u k).2 (pl 0 0).toNat).1) ≤ 6
        rw [e10, hc]
        omega
theorem sv_lp {n B e : Int} {u : Nat → Nat → Int} (hn6 : n ≤ 6) (hS : SV B n u) : ∀ k : Nat, (k : Int) ≤ n → SV (B + 1 + k) n (lpX (tkE u e) k)
  | 0, _ => by
    have := sv_tick (e := e) hS
    exact sv_mono this (by omega)
  | k + 1, h => by
    have ih := sv_lp (e := e) hn6 hS k (by omega)
    unfold lpX
    exact sv_mono (sv_co (sv_hr ih (by omega) (by omega)) (by omega) (by omega) (by omega)) (by omega)
