def FrS (o : Nat) (w w2 : Wd) : Prop := ∀ o' f j, ¬ (o' = o ∧ (f = 1 ∨ f = 2 ∨ f = 7 ∨ f = 8)) → w2 o' f j = w o' f j
def CanX (pl : Nat → Nat → Int) (s t : Int) : Prop := sumB s (pl 1) (pl 0 0).toNat ≤ t ∧ t ≤ sumB s (pl 2) (pl 0 0).toNat
/-- what is kept of the last share is right -/
def ShC (pl u : Nat → Nat → Int) : Prop := u 3 0 = 0 ∨ (u 3 0 = 1 ∧ (0 ≤ u 4 0 ∧ u 4 0 < 64) ∧ (0 ≤ u 5 0 ∧ u 5 0 ≤ 480) ∧ (0 ≤ u 6 0 ∧ u 6 0 ≤ 45) ∧ CanX pl (u 4 0) (u 5 0) ∧ BestC pl (pkX pl (u 6 0)) (u 4 0) (pl 0 0).toNat (u 5 0) (u 1 (u 5 0).toNat))
theorem win_n {pl : Nat → Nat → Int} {s load : Int} (h1 : sumB s (pl 1) (pl 0 0).toNat ≤ load) (h2 : load ≤ sumB s (pl 2) (pl 0 0).toNat) : lowK pl s load (pl 0 0).toNat = load ∧ highK pl s load (pl 0 0).toNat = load := by
  unfold lowK highK
  omega
theorem sh_step {pl : Nat → Nat → Int} {A : Nat → Int} (hp : PV pl) {k : Nat} (hk : k < (pl 0 0).toNat) {s load lift t z : Int} (hl : 0 ≤ lift ∧ lift ≤ 45) (hc1 : sumB s (pl 1) (pl 0 0).toNat ≤ load) (hc2 : load ≤ sumB s (pl 2) (pl 0 0).toNat)
    (hs : tb s k = 1) (h1 : lowK pl s load (k + 1) ≤ t) (h2 : t ≤ highK pl s load (k + 1)) (hI : ∀ t, lowK pl s load k ≤ t → t ≤ highK pl s load k → BestC pl (pkX pl lift) s k t (A t.toNat))
    (hmin : ∀ x, max (pl 1 k) (t - highK pl s load k) ≤ x → x ≤ min (pl 2 k) (t - lowK pl s load k) → z ≤ A (t - x).toNat + pkX pl lift k x)
    (hex : (∃ x, max (pl 1 k) (t - highK pl s load k) ≤ x ∧ x ≤ min (pl 2 k) (t - lowK pl s load k) ∧ z = A (t - x).toNat + pkX pl lift k x) ∨ z = 9223372036854775807) : BestC pl (pkX pl lift) s (k + 1) t z := by
  have hq := hp.2.1 k (by omega)
  have he := win_ex hp hk hc1 hc2 hs h1 h2
  have hex2 : ∃ x, max (pl 1 k) (t - highK pl s load k) ≤ x ∧ x ≤ min (pl 2 k) (t - lowK pl s load k) ∧ z = A (t - x).toNat + pkX pl lift k x := by
    rcases hex with h | h
    · exact h
    · exfalso
      have h3 := hmin _ (Int.le_refl _) he
      have h4 := best_rng hp hl (by omega) (hI (t - max (pl 1 k) (t - highK pl s load k)) (by omega) (by omega))
      have h5 := pk_rng hp (m := k) (by omega) (x := max (pl 1 k) (t - highK pl s load k)) (lift := lift) (by omega) hl
      omega
  refine best_add (A := fun t => A t.toNat) hs (fun x a b => hI (t - x) (by omega) (by omega)) (by omega) (by omega) (win_cov hs h1 h2) hex2 hmin
