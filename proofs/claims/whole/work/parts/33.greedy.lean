/-! THE REFERENCE'S SHARE: machine by machine the least load that leaves the least power: pure -/
def cdX (x : Nat → Int) (m : Nat) : Int := x m * 2 ^ (7 * (5 - m))
theorem pk_split {pl : Nat → Nat → Int} {lift s : Int} {x : Nat → Int} : ∀ n, sumB s (fun m => pkX pl lift m (x m)) n = sumB s (fun m => pwX pl lift m (x m)) n * 4398046511104 + sumB s (cdX x) n
  | 0 => rfl
  | n + 1 => by
    unfold sumB
    rw [pk_split n]
    by_cases h : tb s n = 1
    · rw [if_pos h, if_pos h, if_pos h]
      unfold pkX cdX
      omega
    · rw [if_neg h, if_neg h, if_neg h]
      omega
theorem pow_p (k : Nat) : (0 : Int) < 2 ^ k := Int.pow_pos (by decide)
theorem code_lt {s : Int} {x : Nat → Int} {j : Nat} (hz : ∀ k, k < j → tb s k = 0)   : ∀ n, j ≤ n → n ≤ 6 → (∀ k, k < n → tb s k = 1 → 0 ≤ x k ∧ x k ≤ 127) → 0 ≤ sumB s (cdX x) n ∧ sumB s (cdX x) n ≤ 2 ^ (7 * (6 - j)) - 2 ^ (7 * (6 - n)) := by
  intro n h1 h2 hx
  induction n with
  | zero =>
    have : j = 0 := by omega
    subst this
    exact ⟨Int.le_refl _, by show (0 : Int) ≤ _; omega⟩
  | succ n ih =>
    by_cases e : j = n + 1
    · have h0 : sumB s (cdX x) (n + 1) = 0 := by
        have := sumB_congr (s := s) (t := 0) (f := cdX x) (g := cdX x) (n + 1) (fun k hk => by rw [hz k (by omega), tb_0]) (fun _ _ _ => rfl)
        rw [this, sumB_0]
      rw [h0, e]
      omega
    · have hh := ih (by omega) (by omega) (fun k hk => hx k (by omega))
      unfold sumB
      have e2 : (2 : Int) ^ (7 * (6 - n)) = 128 * 2 ^ (7 * (6 - (n + 1))) := by
        rw [show 7 * (6 - n) = 7 * (6 - (n + 1)) + 7 by omega, Int.pow_add]
        omega
      have hp := pow_p (7 * (6 - (n + 1)))
      by_cases h : tb s n = 1
      · rw [if_pos h]
        have hxn := hx n (by omega) h
        unfold cdX at hh ⊢
        rw [show 7 * (5 - n) = 7 * (6 - (n + 1)) by omega]
        have q := mulb (a := x n) (b := 2 ^ (7 * (6 - (n + 1)))) (A := 127) (B := 2 ^ (7 * (6 - (n + 1)))) hxn.1 hxn.2 (by omega) (Int.le_refl _)
        omega
      · rw [if_neg h]
        omega
theorem fea_127 {pl : Nat → Nat → Int} (hp : PV pl) {s : Int} {x : Nat → Int} (h : fea pl s x (pl 0 0).toNat) : ∀ k, k < (pl 0 0).toNat → tb s k = 1 → 0 ≤ x k ∧ x k ≤ 127 := by
  intro k hk hb
  have h1 := (h k hk).1 hb
  have h2 := hp.2.1 k (by omega)
  omega
/-- of the least packed share, the machine with the lowest number -/
theorem greedy {pl : Nat → Nat → Int} (hp : PV pl) {lift s r left v all : Int} (hl : 0 ≤ lift ∧ lift ≤ 45) {k : Nat} (hi : InsS s r k (pl 0 0).toNat) (hlow : ∀ j, j ≤ k → tb r j = 0)
    {A : Int → Int} (hA : ∀ t, 0 ≤ t → t ≤ 480 → TV pl lift r t (A t)) (hl0 : left ≤ 480) (hall : TV pl lift s left all) (hv : BestC pl (pkX pl lift) s (pl 0 0).toNat left v) :
    ∃ x v', (pl 1 k ≤ x ∧ x ≤ pl 2 k) ∧ (x ≤ left ∧ A (left - x) < 1000000000 ∧ pwX pl lift k x + A (left - x) = all) ∧ (∀ y, pl 1 k ≤ y → y < x → ¬ (y ≤ left ∧ A (left - y) < 1000000000 ∧ pwX pl lift k y + A (left - y) = all)) ∧ BestC pl (pkX pl lift) r (pl 0 0).toNat (left - x) v' ∧ v = v' + pkX pl lift k x := by
  have hp0 := hp.1
  have hk := hi.1
  have hpk := hp.2.1 k (by omega)
  obtain ⟨⟨y, y1, y2, y3⟩, hmin⟩ := hv
  have hn6 : (pl 0 0).toNat ≤ 6 := by omega
  have bd : ∀ z, fea pl s z (pl 0 0).toNat → 0 ≤ sumB s (cdX z) (pl 0 0).toNat ∧ sumB s (cdX z) (pl 0 0).toNat < 4398046511104 := by
    intro z hz
    have h := code_lt (s := s) (x := z) (j := 0) (fun k hk => absurd hk (Nat.not_lt_zero _)) (pl 0 0).toNat (by omega) hn6 (fea_127 hp hz)
    have := pow_p (7 * (6 - (pl 0 0).toNat))
    have e : (2 : Int) ^ (7 * (6 - 0)) = 4398046511104 := by decide
    omega
  have hcan := fea_can y1 y2
  have hallB : BestC pl (pwX pl lift) s (pl 0 0).toNat left all := by
    rcases hall with q | q
    · exact q.2
    · exact absurd hcan q.1
  rw [pk_split] at y3
  have hP : sumB s (fun m => pwX pl lift m (y m)) (pl 0 0).toNat = all := by
    obtain ⟨⟨z, z1, z2, z3⟩, zm⟩ := hallB
    have a1 := zm y y1 y2
    have a2 := hmin z z1 z2
    rw [pk_split, z3] at a2
    have b1 := bd y y1
    have b2 := bd z z1
    omega
  obtain ⟨o1, o2, o3, o4⟩ := ins_out (c := pwX pl lift) hi y1
  obtain ⟨-, -, -, o5⟩ := ins_out (c := pkX pl lift) hi y1
  rw [y2] at o3
  have hrc := fea_can o2 o3
  have hr0 := (pv_least hp r).1
  have hle : y k ≤ left := by
    unfold CanX at hrc
    omega
  have hT := tv_rng hp hl (hA (left - y k) (by omega) (by omega))
  rcases hT.symm with hT | hT
  · exact absurd hrc hT.2
  refine ⟨y k, v - pkX pl lift k (y k), o1, ⟨hle, by omega, ?_⟩, ?_, ⟨⟨fup y k 0, o2, o3, ?_⟩, ?_⟩, by omega⟩
  · obtain ⟨⟨z, z1, z2, z3⟩, zm⟩ := hT.2.2.2
    have a1 := zm _ o2 o3
    obtain ⟨c1, c2, c3⟩ := ins_in (c := pwX pl lift) hi o1 z1
    have a2 := hallB.2 _ c1 (by omega)
    omega
  · rintro x hx1 hx2 ⟨hx3, hx4, hx5⟩
    have hX := tv_rng hp hl (hA (left - x) (by omega) (by omega))
    rcases hX with hX | hX
    · obtain ⟨⟨z, z1, z2, z3⟩, -⟩ := hX.2.2.2
      obtain ⟨c1, c2, c3⟩ := ins_in (c := pwX pl lift) hi ⟨hx1, by omega⟩ z1
      have a2 := hmin _ c1 (by omega)
      rw [pk_split, c3] at a2
      have e1 := sB_ins (f := cdX (fup z k x)) (g := cdX z) (pl 0 0).toNat hk hi.2.1 hi.2.2.1 hi.2.2.2 (fun j hj e => by unfold cdX; rw [fup_ne e])
      have e2 := sB_ins (f := cdX y) (g := cdX (fup y k 0)) (pl 0 0).toNat hk hi.2.1 hi.2.2.1 hi.2.2.2 (fun j hj e => by unfold cdX; rw [fup_ne e])
      have g1 := code_lt (s := r) (x := z) (j := k + 1) (fun j hj => hlow j (by omega)) (pl 0 0).toNat (by omega) hn6 (fea_127 hp z1)
      have g2 := code_lt (s := r) (x := fup y k 0) (j := k + 1) (fun j hj => hlow j (by omega)) (pl 0 0).toNat (by omega) hn6 (fea_127 hp o2)
      have hpp := pow_p (7 * (6 - (pl 0 0).toNat))
      have ee : (2 : Int) ^ (7 * (6 - (k + 1))) = 2 ^ (7 * (5 - k)) := by rw [show 6 - (k + 1) = 5 - k by omega]
      have c4 : cdX (fup z k x) k = x * 2 ^ (7 * (5 - k)) := by unfold cdX; rw [fup_at]
      have c5 : cdX y k = y k * 2 ^ (7 * (5 - k)) := rfl
      have hpk2 := pow_p (7 * (5 - k))
      have hmul : (x + 1) * 2 ^ (7 * (5 - k)) ≤ y k * 2 ^ (7 * (5 - k)) := Int.mul_le_mul_of_nonneg_right (by omega) (by omega)
      rw [Int.add_mul, Int.one_mul] at hmul
      omega
    · omega
  · have h9 : v = sumB s (fun m => pkX pl lift m (y m)) (pl 0 0).toNat := by rw [pk_split]; omega
    omega
  · intro z hz hs
    obtain ⟨c1, c2, c3⟩ := ins_in (c := pkX pl lift) hi o1 hz
    have := hmin _ c1 (by omega)
    omega
/-- a share that comes to a packed number -/
def Att (pl : Nat → Nat → Int) (lift s t v : Int) (x : Nat → Int) : Prop := fea pl s x (pl 0 0).toNat ∧ sumN x (pl 0 0).toNat = t ∧ sumB s (fun m => pkX pl lift m (x m)) (pl 0 0).toNat = v
theorem sumN_ext {f : Nat → Int} {n : Nat} : ∀ N, n ≤ N → (∀ j, n ≤ j → f j = 0) → sumN f N = sumN f n
  | 0, h, _ => by rw [show n = 0 by omega]
  | N + 1, h, hz => by
    by_cases e : n = N + 1
    · rw [e]
    · show sumN f N + f N = sumN f n
      rw [sumN_ext N (by omega) hz, hz N (by omega), Int.add_zero]
theorem sB_N {s : Int} {f : Nat → Int} : ∀ n, (∀ k, k < n → tb s k = 0 → f k = 0) → sumB s f n = sumN f n
  | 0, _ => rfl
  | n + 1, h => by
    unfold sumB sumN
    rw [sB_N n (fun k hk => h k (by omega))]
    rcases tb01 s n with q | q
    · rw [if_neg (by omega), h n (by omega) q]
    · rw [if_pos q]
theorem att_dig {pl : Nat → Nat → Int} (hp : PV pl) {lift s t v : Int} (hl : 0 ≤ lift ∧ lift ≤ 45) {x : Nat → Int} (h : Att pl lift s t v x) : v / 4398046511104 = sumB s (fun m => pwX pl lift m (x m)) (pl 0 0).toNat ∧ ∀ m, m < (pl 0 0).toNat → v / 2 ^ (7 * (5 - m)) % 128 = x m := by
  obtain ⟨h1, h2, h3⟩ := h
  have hp0 := hp.1
  rw [pk_split] at h3
  have hP := pw_sum hp hl h1
  obtain ⟨y, hy⟩ : ∃ y : Nat → Int, y = fun j => if j < (pl 0 0).toNat then x j else 0 := ⟨_, rfl⟩
  have hyx : ∀ j, j < (pl 0 0).toNat → y j = x j := fun j hj => by rw [hy]; exact if_pos hj
  have hyr : ∀ j, 0 ≤ y j ∧ y j ≤ 127 := fun j => by
    rcases Nat.lt_or_ge j (pl 0 0).toNat with q | q
    · rw [hyx j q]
      have a := h1 j q
      have b := hp.2.1 j (by omega)
      rcases tb01 s j with e | e
      · have := a.2 e; omega
      · have := a.1 e; omega
    · have : y j = 0 := by rw [hy]; exact if_neg (by omega)
      omega
  have e1 : sumB s (cdX x) (pl 0 0).toNat = sumN (cdX y) 6 := by
    rw [sB_N (s := s) (f := cdX x) _ (fun k hk q => by unfold cdX; rw [(h1 k hk).2 q, Int.zero_mul])]
    rw [sumN_ext (f := cdX y) (n := (pl 0 0).toNat) 6 (by omega) (fun j hj => by unfold cdX; rw [show y j = 0 by rw [hy]; exact if_neg (by omega), Int.zero_mul])]
    exact sumN_congr _ (fun j hj => by unfold cdX; rw [hyx j hj])
  have e2 : sumN (cdX y) 6 = y 0 * 34359738368 + y 1 * 268435456 + y 2 * 2097152 + y 3 * 16384 + y 4 * 128 + y 5 := by
    simp [sumN, cdX]
  have r0 := hyr 0
  have r1 := hyr 1
  have r2 := hyr 2
  have r3 := hyr 3
  have r4 := hyr 4
  have r5 := hyr 5
  refine ⟨by omega, fun m hm => ?_⟩
  rw [← hyx m hm]
  have hm6 : m < 6 := by omega
  rcases (show m = 0 ∨ m = 1 ∨ m = 2 ∨ m = 3 ∨ m = 4 ∨ m = 5 by omega) with rfl | rfl | rfl | rfl | rfl | rfl
  · show v / 34359738368 % 128 = y 0; omega
  · show v / 268435456 % 128 = y 1; omega
  · show v / 2097152 % 128 = y 2; omega
  · show v / 16384 % 128 = y 3; omega
  · show v / 128 % 128 = y 4; omega
  · show v / 1 % 128 = y 5; omega
