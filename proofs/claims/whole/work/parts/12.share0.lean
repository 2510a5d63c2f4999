/-! SHARES of a load: pure -/
/-- a share of the first k machines: those of the set within their bounds, the others nothing -/
def fea (pl : Nat → Nat → Int) (s : Int) (x : Nat → Int) (k : Nat) : Prop := ∀ m, m < k → (tb s m = 1 → pl 1 m ≤ x m ∧ x m ≤ pl 2 m) ∧ (tb s m = 0 → x m = 0)
/-- v is the least cost of a share of t by the first k machines -/
def BestC (pl : Nat → Nat → Int) (c : Nat → Int → Int) (s : Int) (k : Nat) (t v : Int) : Prop :=
  (∃ x, fea pl s x k ∧ sumN x k = t ∧ sumB s (fun m => c m (x m)) k = v) ∧ ∀ x, fea pl s x k → sumN x k = t → v ≤ sumB s (fun m => c m (x m)) k
theorem fea_sum {pl : Nat → Nat → Int} {s : Int} {x : Nat → Int} : ∀ {k : Nat}, fea pl s x k → sumB s (pl 1) k ≤ sumN x k ∧ sumN x k ≤ sumB s (pl 2) k
  | 0, _ => ⟨Int.le_refl _, Int.le_refl _⟩
  | k + 1, h => by
    obtain ⟨h1, h2⟩ := fea_sum (k := k) (fun m hm => h m (by omega))
    obtain ⟨h3, h4⟩ := h k (by omega)
    unfold sumB sumN
    rcases tb01 s k with q | q
    · rw [if_neg (by omega), if_neg (by omega), h4 q]; omega
    · rw [if_pos q, if_pos q]
      have := h3 q
      omega
theorem sumN_congr {f g : Nat → Int} : ∀ n : Nat, (∀ k, k < n → f k = g k) → sumN f n = sumN g n
  | 0, _ => rfl
  | n + 1, h => by
    unfold sumN
    rw [sumN_congr n (fun k hk => h k (by omega)), h n (by omega)]
theorem best_0 {pl : Nat → Nat → Int} {c : Nat → Int → Int} {s : Int} : BestC pl c s 0 0 0 :=
  ⟨⟨fun _ => 0, fun m hm => absurd hm (Nat.not_lt_zero _), rfl, rfl⟩, fun x _ _ => Int.le_refl _⟩
theorem best_skip {pl : Nat → Nat → Int} {c : Nat → Int → Int} {s : Int} {k : Nat} (hs : tb s k = 0) {t v : Int} (h : BestC pl c s k t v) : BestC pl c s (k + 1) t v := by
  obtain ⟨⟨x, h1, h2, h3⟩, h4⟩ := h
  have hn : ¬ tb s k = 1 := by omega
  refine ⟨⟨fup x k 0, fun m hm => ?_, ?_, ?_⟩, fun y hy ht => ?_⟩
  · by_cases e : m = k
    · subst e
      exact ⟨fun q => absurd q hn, fun _ => fup_at _ _ _⟩
    · rw [fup_ne e]
      exact h1 m (by omega)
  · unfold sumN
    rw [fup_at, sumN_congr (g := x) k (fun m hm => fup_ne (by omega)), h2, Int.add_zero]
  · unfold sumB
    rw [if_neg hn, sumB_congr (t := s) (g := fun m => c m (x m)) k (fun _ _ => rfl) (fun m hm _ => by rw [fup_ne (by omega)]), h3, Int.add_zero]
  · unfold sumB
    rw [if_neg hn, Int.add_zero]
    refine h4 y (fun m hm => hy m (by omega)) ?_
    have := (hy k (by omega)).2 hs
    unfold sumN at ht
    omega
theorem best_add {pl : Nat → Nat → Int} {c : Nat → Int → Int} {s : Int} {k : Nat} (hs : tb s k = 1) {t v x0 x1 : Int} {A : Int → Int}
    (hb : ∀ x, x0 ≤ x → x ≤ x1 → BestC pl c s k (t - x) (A (t - x))) (h0 : pl 1 k ≤ x0) (h1 : x1 ≤ pl 2 k)
    (hcov : ∀ x, pl 1 k ≤ x → x ≤ pl 2 k → sumB s (pl 1) k ≤ t - x → t - x ≤ sumB s (pl 2) k → x0 ≤ x ∧ x ≤ x1)
    (hv : ∃ x, x0 ≤ x ∧ x ≤ x1 ∧ v = A (t - x) + c k x) (hm : ∀ x, x0 ≤ x → x ≤ x1 → v ≤ A (t - x) + c k x) : BestC pl c s (k + 1) t v := by
  obtain ⟨x, g0, g1, rfl⟩ := hv
  obtain ⟨⟨y, b1, b2, b3⟩, -⟩ := hb x g0 g1
  refine ⟨⟨fup y k x, fun m hm => ?_, ?_, ?_⟩, fun z hz ht => ?_⟩
  · by_cases e : m = k
    · subst e
      rw [fup_at]
      exact ⟨fun _ => ⟨by omega, by omega⟩, fun q => by omega⟩
    · rw [fup_ne e]
      exact b1 m (by omega)
  · unfold sumN
    rw [fup_at, sumN_congr (g := y) k (fun m hm => fup_ne (by omega)), b2]
    omega
  · unfold sumB
    rw [if_pos hs, fup_at, sumB_congr (t := s) (g := fun m => c m (y m)) k (fun _ _ => rfl) (fun m hm _ => by rw [fup_ne (by omega)]), b3]
  · have hzk := (hz k (by omega)).1 hs
    have hzl : fea pl s z k := fun m hm => hz m (by omega)
    have hsum := fea_sum hzl
    have hz2 : sumN z k = t - z k := by
      unfold sumN at ht
      omega
    obtain ⟨c0, c1⟩ := hcov (z k) hzk.1 hzk.2 (by omega) (by omega)
    have h5 := (hb (z k) c0 c1).2 z hzl hz2
    have h6 := hm (z k) c0 c1
    unfold sumB
    rw [if_pos hs]
    omega
/-- power of a machine at a load -/
def pwX (pl : Nat → Nat → Int) (lift : Int) (m : Nat) (x : Int) : Int := pl 3 m + (((100 * pl 4 m + pl 5 m * x) * x) * (60 + lift)) / 10000
theorem mulb {a b A B : Int} (ha : 0 ≤ a) (ha2 : a ≤ A) (hb : 0 ≤ b) (hb2 : b ≤ B) : 0 ≤ a * b ∧ a * b ≤ A * B :=
  ⟨Int.mul_nonneg ha hb, Int.mul_le_mul ha2 hb2 hb (by omega)⟩
theorem pw_in {pl : Nat → Nat → Int} (h : PV pl) {m : Nat} (hm : (m : Int) < pl 0 0) {x lift : Int} (hx : 0 ≤ x ∧ x ≤ 99) (hl : 0 ≤ lift ∧ lift ≤ 45) :
    0 ≤ ((100 * pl 4 m + pl 5 m * x) * x) * (60 + lift) ∧ ((100 * pl 4 m + pl 5 m * x) * x) * (60 + lift) ≤ 204791895 := by
  have q := h.2.1 m hm
  have a1 := mulb (a := pl 5 m) (b := x) (A := 99) (B := 99) (by omega) (by omega) hx.1 hx.2
  have a2 := mulb (a := 100 * pl 4 m + pl 5 m * x) (b := x) (A := 19701) (B := 99) (by omega) (by omega) hx.1 hx.2
  have a3 := mulb (a := (100 * pl 4 m + pl 5 m * x) * x) (b := 60 + lift) (A := 1950399) (B := 105) (by omega) (by omega) (by omega) (by omega)
  omega
theorem pw_jdiv {pl : Nat → Nat → Int} (h : PV pl) {m : Nat} (hm : (m : Int) < pl 0 0) {x lift : Int} (hx : 0 ≤ x ∧ x ≤ 99) (hl : 0 ≤ lift ∧ lift ≤ 45) :
    pl 3 m + jdiv ((((100 * (pl 4 m)) + ((pl 5 m) * x)) * x) * (60 + lift)) 10000 = pwX pl lift m x := by
  have q := pw_in h hm hx hl
  unfold pwX
  rw [jdiv_pos (by unfold InR; omega) q.1 (by decide) (by decide)]
theorem pw_rng {pl : Nat → Nat → Int} (h : PV pl) {m : Nat} (hm : (m : Int) < pl 0 0) {x lift : Int} (hx : 0 ≤ x ∧ x ≤ 99) (hl : 0 ≤ lift ∧ lift ≤ 45) : 0 ≤ pwX pl lift m x ∧ pwX pl lift m x ≤ 20578 := by
  have q := pw_in h hm hx hl
  have q2 := h.2.1 m hm
  unfold pwX
  omega
/-- the packed number of a machine's part -/
def pkX (pl : Nat → Nat → Int) (lift : Int) (m : Nat) (x : Int) : Int := pwX pl lift m x * 4398046511104 + x * 2 ^ (7 * (5 - m))
theorem sh63 {b : Int} (hb : 0 ≤ b) (hb2 : b < 64) : (((iI b).toInt64 &&& 63).toBitVec.smod (64 : BitVec 64)).toNat = b.toNat :=
  fin1 (P := fun b => (((iI b).toInt64 &&& 63).toBitVec.smod (64 : BitVec 64)).toNat = b.toNat) (by decide +kernel) hb hb2
theorem lshl_eq {a b : Int} (ha : 0 ≤ a) (hb : 0 ≤ b) (hb2 : b < 64) (ha2 : a < 9223372036854775808) (h : a * 2 ^ b.toNat < 9223372036854775808) : lshl a b = a * 2 ^ b.toNat := by
  have h0 : 0 ≤ a * 2 ^ b.toNat := Int.mul_nonneg ha (Int.le_of_lt (Int.pow_pos (by decide)))
  show ((lI a).toBitVec <<< (((iI b).toInt64 &&& 63).toBitVec.smod (64 : BitVec 64))).toInt = _
  rw [BitVec.shiftLeft_eq', BitVec.toInt_shiftLeft, sh63 hb hb2]
  have e : (lI a).toBitVec.toNat = a.toNat := by
    show (BitVec.ofInt 64 a).toNat = _
    rw [BitVec.toNat_ofInt, Int.emod_eq_of_lt ha (by simp; omega)]
  rw [e]
  have e2 : ((a.toNat <<< b.toNat : Nat) : Int) = a * 2 ^ b.toNat := by
    rw [Nat.shiftLeft_eq, Int.natCast_mul, show ((a.toNat : Nat) : Int) = a by omega]
    simp
  rw [e2, Int.bmod_eq_of_le (by simp; omega) (by simp; omega)]
theorem lshr_eq {a b : Int} (ha : InL a) (hb : 0 ≤ b) (hb2 : b < 64) : lshr a b = a / 2 ^ b.toNat := by
  show ((lI a).toBitVec.sshiftRight' (((iI b).toInt64 &&& 63).toBitVec.smod (64 : BitVec 64))).toInt = _
  rw [BitVec.toInt_sshiftRight', sh63 hb hb2, Int.shiftRight_eq_div_pow]
  have e : (lI a).toBitVec.toInt = a := lI_to ha
  rw [e]
  simp
theorem l2j_and {a : Int} (ha : 0 ≤ a) : band (l2j a) 127 = a % 128 := by
  show ((iI (l2j a)).toBitVec &&& (iI 127).toBitVec).toInt = _
  rw [BitVec.toInt_and]
  have e1 : (iI (l2j a)).toBitVec.toNat = (a % 4294967296).toNat := by
    rw [show iI (l2j a) = (lI a).toInt32 from iI_of _, show (lI a).toInt32 = iI a from Int64.toInt32_ofInt]
    show (BitVec.ofInt 32 a).toNat = _
    rw [BitVec.toNat_ofInt]
    rfl
  have e2 : (iI 127).toBitVec.toNat = 2 ^ 7 - 1 := rfl
  rw [e1, e2]
  have e3 : ((a % 4294967296).toNat &&& (2 ^ 7 - 1)) = (a % 4294967296).toNat % 2 ^ 7 := Nat.and_two_pow_sub_one_eq_mod _ _
  rw [e3]
  have e5 : (((a % 4294967296).toNat % 2 ^ 7 : Nat) : Int) = a % 128 := by omega
  rw [e5, Int.bmod_eq_of_le (by simp; omega) (by simp; omega)]
