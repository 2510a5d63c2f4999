/-! A STATE by its own numbers: what each change makes of it -/
def fu (u : Nat → Nat → Int) (f j : Nat) (v : Int) : Nat → Nat → Int := fun f' j' => if f' = f ∧ j' = j then v else u f' j'
def fuA (u : Nat → Nat → Int) (f : Nat) (g : Nat → Int) : Nat → Nat → Int := fun f' j' => if f' = f then g j' else u f' j'
def setO (w : Wd) (o : Nat) (u : Nat → Nat → Int) : Wd := fun o' => if o' = o then u else w o'
theorem fu_at (u : Nat → Nat → Int) (f j : Nat) (v : Int) : fu u f j v f j = v := if_pos ⟨rfl, rfl⟩
theorem fu_ne {u : Nat → Nat → Int} {f j f' j' : Nat} {v : Int} (h : ¬ (f' = f ∧ j' = j)) : fu u f j v f' j' = u f' j' := if_neg h
theorem setO_at (w : Wd) (o : Nat) (u : Nat → Nat → Int) : setO w o u o = u := if_pos rfl
theorem setO_ne {w : Wd} {o o' : Nat} {u : Nat → Nat → Int} (h : o' ≠ o) : setO w o u o' = w o' := if_neg h
theorem setO_self (w : Wd) (o : Nat) : setO w o (w o) = w := by
  funext o'
  by_cases h : o' = o
  · rw [h, setO_at]
  · rw [setO_ne h]
theorem setO_setO (w : Wd) (o : Nat) (u v : Nat → Nat → Int) : setO (setO w o u) o v = setO w o v := by
  funext o'
  by_cases h : o' = o
  · rw [h, setO_at, setO_at]
  · rw [setO_ne h, setO_ne h, setO_ne h]
theorem up_setO (w : Wd) (o f j : Nat) (v : Int) : up w o f j v = setO w o (fu (w o) f j v) := by
  funext o' f' j'
  by_cases h : o' = o
  · subst h
    rw [setO_at]
    unfold up fu
    by_cases h2 : f' = f ∧ j' = j
    · rw [if_pos ⟨rfl, h2⟩, if_pos h2]
    · rw [if_neg (fun z => h2 z.2), if_neg h2]
  · rw [setO_ne h, up_ne (fun z => h z.1)]
theorem upA_setO (w : Wd) (o f : Nat) (g : Nat → Int) : upA w o f g = setO w o (fuA (w o) f g) := by
  funext o' f' j'
  by_cases h : o' = o
  · subst h
    rw [setO_at]
    unfold upA fuA
    by_cases h2 : f' = f
    · rw [if_pos ⟨rfl, h2⟩, if_pos h2]
    · rw [if_neg (fun z => h2 z.2), if_neg h2]
  · rw [setO_ne h, upA_ne (fun z => h z.1)]
abbrev clrB (s m : Int) : Int := band s (bxor (bshl 1 m) (-1))
abbrev setB (s m : Int) : Int := bor s (bshl 1 m)
abbrev runX (u : Nat → Nat → Int) : Int := bor (u 6 0) (u 7 0)
abbrev sbX (u : Nat → Nat → Int) (m back : Int) : Int := if u 12 m.toNat < back then -100000 else u 13 (m * 9 + (u 12 m.toNat - back) % 9).toNat
def stX (u : Nat → Nat → Int) (m : Int) : Nat → Nat → Int := fu (fu (fu (fu u 6 0 (setB (u 6 0) m)) 13 (m * 9 + u 12 m.toNat % 9).toNat (u 1 0)) 12 m.toNat (u 12 m.toNat + 1)) 8 0 (u 1 0)
def spX (u : Nat → Nat → Int) (m : Int) : Nat → Nat → Int := if tb (runX u) m.toNat = 1 then fu (fu (fu u 6 0 (clrB (u 6 0) m)) 7 0 (clrB (u 7 0) m)) 14 m.toNat (u 1 0) else u
def tkX (u : Nat → Nat → Int) (m : Int) : Nat → Nat → Int := fu (fuA u 10 (tol (u 10) m (u 9 0).toNat).1) 9 0 ((tol (u 10) m (u 9 0).toNat).2 : Int)
def ptX (u : Nat → Nat → Int) (m : Int) : Nat → Nat → Int := fu (fu u 10 (u 9 0).toNat m) 9 0 (u 9 0 + 1)
def coX (u : Nat → Nat → Int) (m : Int) : Nat → Nat → Int := if tb (u 6 0) m.toNat = 1 ∧ 3 ≤ u 1 0 - sbX u m 1 then fu (fu u 6 0 (clrB (u 6 0) m)) 7 0 (setB (u 7 0) m) else u
def hrX (u : Nat → Nat → Int) (m : Int) : Nat → Nat → Int := fu u 11 m.toNat (u 11 m.toNat + tb (runX u) m.toNat)
def lpX (u : Nat → Nat → Int) : Nat → Nat → Nat → Int
  | 0 => u
  | k + 1 => coX (hrX (lpX u k) k) k
abbrev mayX (pl u : Nat → Nat → Int) (m tick : Int) : Prop := tb (bor (runX u) (u 5 0)) m.toNat = 0 ∧ pl 8 0 < tick - u 14 m.toNat ∧ 60 ≤ tick - sbX u m (pl 9 0) ∧ pl 10 0 < tick - u 8 0
def nsX (pl u : Nat → Nat → Int) : Nat → Int
  | 0 => -4
  | k + 1 => if mayX pl u k (u 1 0) ∧ (nsX pl u k = -4 ∨ u 11 k < u 11 (nsX pl u k).toNat) then (k : Int) else nsX pl u k
def npX (pl u : Nat → Nat → Int) : Nat → Int
  | 0 => -4
  | k + 1 => if tb (u 7 0) k = 1 ∧ pl 7 0 < u 1 0 - sbX u k 1 ∧ (npX pl u k = -4 ∨ u 11 (npX pl u k).toNat ≤ u 11 k) then (k : Int) else npX pl u k
def grX (pl : Nat → Nat → Int) (s : Int) : Nat → Int × Int
  | 0 => (0, 0)
  | k + 1 => if tb s k = 1 ∧ (grX pl s k).2 < pl 2 k then ((k : Int), pl 2 k) else grX pl s k
def cbX (pl u : Nat → Nat → Int) : Nat → Nat → Int := if pl 10 0 < u 1 0 - u 8 0 then stX (tkX u (u 10 0)) (u 10 0) else u
def u1X (u : Nat → Nat → Int) : Nat → Nat → Int := fu (fu u 2 0 (u 2 0 + 1)) 3 0 0
def whoX (pl u : Nat → Nat → Int) : Int := if pl 13 0 < u 2 0 then nsX pl u (pl 0 0).toNat else -4
def suX (pl u : Nat → Nat → Int) : Nat → Nat → Int := if whoX pl (u1X u) = -4 then u1X u else fu (stX (u1X u) (whoX pl (u1X u))) 2 0 0
def sdX (pl u : Nat → Nat → Int) : Nat → Nat → Int :=
  if npX pl u (pl 0 0).toNat = -4 ∨ pl 12 0 * sumB (clrB (runX u) (npX pl u (pl 0 0).toNat)) (pl 2) (pl 0 0).toNat ≤ 100 * u 0 0 then fu (fu u 2 0 0) 3 0 0
  else if pl 13 0 < u 3 0 + 1 then fu (spX (fu (fu u 2 0 0) 3 0 (u 3 0 + 1)) (npX pl u (pl 0 0).toNat)) 3 0 0 else fu (fu u 2 0 0) 3 0 (u 3 0 + 1)
def flX (pl u : Nat → Nat → Int) : Nat → (Nat → Nat → Int) × Int
  | 0 => (u, runX u)
  | k + 1 => if (flX pl u k).2 = 0 then flX pl u k else (ptX (spX (flX pl u k).1 (grX pl (flX pl u k).2 (pl 0 0).toNat).1) (grX pl (flX pl u k).2 (pl 0 0).toNat).1, clrB (flX pl u k).2 (grX pl (flX pl u k).2 (pl 0 0).toNat).1)
def tkE (u : Nat → Nat → Int) (e : Int) : Nat → Nat → Int := fu (fu u 4 0 (u 4 0 + e)) 1 0 (u 1 0 + 1)
def tailX (pl u : Nat → Nat → Int) : Nat → Nat → Int := if 0 < u 9 0 then cbX pl u else if pl 11 0 * sumB (runX u) (pl 2) (pl 0 0).toNat < 100 * u 0 0 then suX pl u else sdX pl u
def psX (pl u : Nat → Nat → Int) (e : Int) : Nat → Nat → Int := tailX pl (lpX (tkE u e) (pl 0 0).toNat)
/-- a state's numbers within bounds -/
def SV (B n : Int) (u : Nat → Nat → Int) : Prop :=
  ((0 ≤ u 0 0 ∧ u 0 0 ≤ 480) ∧ (0 ≤ u 0 1 ∧ u 0 1 ≤ 240) ∧ (0 ≤ u 0 2 ∧ u 0 2 ≤ 45) ∧ (4 ≤ u 0 3 ∧ u 0 3 ≤ 14)) ∧
  ((0 ≤ u 1 0 ∧ u 1 0 ≤ B) ∧ (0 ≤ u 2 0 ∧ u 2 0 ≤ B) ∧ (0 ≤ u 3 0 ∧ u 3 0 ≤ B)) ∧
  ((0 ≤ u 5 0 ∧ u 5 0 < 64) ∧ (0 ≤ u 6 0 ∧ u 6 0 < 64) ∧ (0 ≤ u 7 0 ∧ u 7 0 < 64)) ∧
  ((-100000 ≤ u 8 0 ∧ u 8 0 ≤ B) ∧ (0 ≤ u 9 0 ∧ u 9 0 ≤ 6)) ∧ (∀ j : Nat, (j : Int) < u 9 0 → 0 ≤ u 10 j ∧ u 10 j < n) ∧
  (∀ j, j < 6 → (0 ≤ u 11 j ∧ u 11 j ≤ B) ∧ (0 ≤ u 12 j ∧ u 12 j ≤ B) ∧ (-100000 ≤ u 14 j ∧ u 14 j ≤ B)) ∧ (∀ j, j < 54 → 0 ≤ u 13 j ∧ u 13 j ≤ 100000) ∧
  (∀ k : Nat, n ≤ (k : Int) → k < 6 → tb (u 6 0) k = 0 ∧ tb (u 7 0) k = 0)
theorem sv_mono {B B' n : Int} {u : Nat → Nat → Int} (h : SV B n u) (hB : B ≤ B') : SV B' n u := by
  obtain ⟨a, b, c, d, e, f, g, i⟩ := h
  exact ⟨a, by omega, c, by omega, e, fun j hj => by have := f j hj; omega, fun j hj => by have := g j hj; omega, i⟩
theorem sv_fu2 {B n v : Int} {u : Nat → Nat → Int} (h : SV B n u) (h0 : 0 ≤ v) (h1 : v ≤ B) : SV B n (fu u 2 0 v) := by
  obtain ⟨a, b, c, d, e, f, g, i⟩ := h
  refine ⟨by simpa [fu] using a, by simp [fu]; omega, by simpa [fu] using c, by simpa [fu] using d, by simpa [fu] using e, by simpa [fu] using f, by simpa [fu] using g, by simpa [fu] using i⟩
theorem sv_fu3 {B n v : Int} {u : Nat → Nat → Int} (h : SV B n u) (h0 : 0 ≤ v) (h1 : v ≤ B) : SV B n (fu u 3 0 v) := by
  obtain ⟨a, b, c, d, e, f, g, i⟩ := h
  refine ⟨by simpa [fu] using a, by simp [fu]; omega, by simpa [fu] using c, by simpa [fu] using d, by simpa [fu] using e, by simpa [fu] using f, by simpa [fu] using g, by simpa [fu] using i⟩
theorem sv_tick {B n e : Int} {u : Nat → Nat → Int} (h : SV B n u) : SV (B + 1) n (tkE u e) := by
  obtain ⟨a, b, c, d, e, f, g, i⟩ := h
  unfold tkE
  refine ⟨by simpa [fu] using a, by simp [fu]; omega, by simpa [fu] using c, by simp [fu]; omega, by simpa [fu] using e, fun j hj => by have := f j hj; simp [fu]; omega, fun j hj => by have := g j hj; simp [fu]; omega, by simpa [fu] using i⟩
theorem sv_hr {B n m : Int} {u : Nat → Nat → Int} (h : SV B n u) (h0 : 0 ≤ m) (h1 : m < 6) : SV (B + 1) n (hrX u m) := by
  obtain ⟨a, b, c, d, e, f, g, i⟩ := h
  have t := tb01 (runX u) m.toNat
  unfold hrX
  refine ⟨by simpa [fu] using a, by simp [fu]; omega, by simpa [fu] using c, by simp [fu]; omega, by simpa [fu] using e, fun j hj => ?_, fun j hj => by have := g j hj; simp [fu]; omega, by simpa [fu] using i⟩
  have fj := f j hj
  have fm := f m.toNat (by omega)
  by_cases q : j = m.toNat
  · subst q; simp [fu]; omega
  · simp [fu, q]; omega
theorem sv_co {B n m : Int} {u : Nat → Nat → Int} (h : SV B n u) (h0 : 0 ≤ m) (h1 : m < 6) (h2 : m < n) : SV B n (coX u m) := by
  have h' := h
  obtain ⟨a, b, c, d, e, f, g, i⟩ := h
  unfold coX
  split
  · obtain ⟨s1, s2, s3⟩ := bt_set (s := u 7 0) (by omega) (by omega) h0 h1
    obtain ⟨r1, r2, r3⟩ := bt_clr (s := u 6 0) (by omega) (by omega) h0 h1
    refine ⟨by simpa [fu] using a, by simp [fu]; omega, ?_, by simp [fu]; omega, by simpa [fu] using e, fun j hj => by have := f j hj; simp [fu]; omega, fun j hj => by have := g j hj; simp [fu]; omega, fun k hk hk6 => ?_⟩
    · simp only [fu]
      simp
      exact ⟨c.1, ⟨r1, r2⟩, s1, s2⟩
    · have ik := i k hk hk6
      simp only [fu]
      simp
      rw [r3 k hk6, s3 k hk6, if_neg (by omega), if_neg (by omega)]
      exact ik
  · exact h'
theorem tol_mem (f : Nat → Int) (m : Int) : ∀ k j, j < (tol f m k).2 → ∃ i, i < k ∧ (tol f m k).1 j = f i
  | 0, j, h => absurd h (Nat.not_lt_zero _)
  | k + 1, j, h => by
    unfold tol at h ⊢
    split
    · rename_i q
      rw [if_pos q] at h
      obtain ⟨i, h1, h2⟩ := tol_mem f m k j h
      exact ⟨i, by omega, h2⟩
    · rename_i q
      rw [if_neg q] at h
      have h : j < (tol f m k).2 + 1 := h
      show ∃ i, i < k + 1 ∧ fup _ _ _ j = f i
      by_cases e : j = (tol f m k).2
      · exact ⟨k, by omega, by rw [e, fup_at, tol_hi f m k k (Nat.le_refl _)]⟩
      · rw [fup_ne e]
        obtain ⟨i, h1, h2⟩ := tol_mem f m k j (by omega)
        exact ⟨i, by omega, h2⟩
theorem sv_tk {B n m : Int} {u : Nat → Nat → Int} (h : SV B n u) : SV B n (tkX u m) := by
  obtain ⟨a, b, c, d, e, f, g, i⟩ := h
  have hl := tol_le (u 10) m (u 9 0).toNat
  unfold tkX
  refine ⟨by simpa [fu, fuA] using a, by simp [fu, fuA]; omega, by simpa [fu, fuA] using c, by simp [fu, fuA]; omega, fun j hj => ?_, by simpa [fu, fuA] using f, by simpa [fu, fuA] using g, by simpa [fu, fuA] using i⟩
  rw [fu_at] at hj
  obtain ⟨k, k1, k2⟩ := tol_mem (u 10) m (u 9 0).toNat j (by omega)
  rw [fu_ne (fun z => absurd z.1 (by decide))]
  show 0 ≤ fuA u 10 _ 10 j ∧ _
  unfold fuA
  rw [if_pos rfl, k2]
  exact e k (by omega)
theorem sv_st {B n m : Int} {u : Nat → Nat → Int} (h : SV B n u) (hB : B ≤ 100000) (h0 : 0 ≤ m) (h1 : m < 6) (h2 : m < n) : SV (B + 1) n (stX u m) := by
  obtain ⟨a, b, c, d, e, f, g, i⟩ := h
  obtain ⟨s1, s2, s3⟩ := bt_set (s := u 6 0) (by omega) (by omega) h0 h1
  unfold stX
  refine ⟨by simpa [fu] using a, by simp [fu]; omega, ?_, by simp [fu]; omega, by simpa [fu] using e, fun j hj => ?_, fun j hj => ?_, fun k hk hk6 => ?_⟩
  · simp only [fu]
    simp
    exact ⟨c.1, ⟨s1, s2⟩, c.2.2⟩
  · have fj := f j hj
    by_cases q : j = m.toNat
    · subst q; simp [fu]; omega
    · simp [fu, q]; omega
  · have gj := g j hj
    by_cases q : j = (m * 9 + u 12 m.toNat % 9).toNat
    · subst q; simp [fu]; omega
    · simp [fu, q]; omega
  · have ik := i k hk hk6
    simp only [fu]
    simp
    rw [s3 k hk6, if_neg (by omega)]
    exact ik
theorem sv_sp {B n m : Int} {u : Nat → Nat → Int} (h : SV B n u) (h0 : 0 ≤ m) (h1 : m < 6) : SV B n (spX u m) := by
  have h' := h
  obtain ⟨a, b, c, d, e, f, g, i⟩ := h
  unfold spX
  split
  · obtain ⟨s1, s2, s3⟩ := bt_clr (s := u 7 0) (by omega) (by omega) h0 h1
    obtain ⟨r1, r2, r3⟩ := bt_clr (s := u 6 0) (by omega) (by omega) h0 h1
    refine ⟨by simpa [fu] using a, by simp [fu]; omega, ?_, by simp [fu]; omega, by simpa [fu] using e, fun j hj => ?_, fun j hj => by have := g j hj; simp [fu]; omega, fun k hk hk6 => ?_⟩
    · simp only [fu]
      simp
      exact ⟨c.1, ⟨r1, r2⟩, s1, s2⟩
    · have fj := f j hj
      by_cases q : j = m.toNat
      · subst q; simp [fu]; omega
      · simp [fu, q]; omega
    · have ik := i k hk hk6
      simp only [fu]
      simp
      rw [r3 k hk6, s3 k hk6]
      constructor <;> split <;> first | rfl | exact ik.1 | exact ik.2
  · exact h'
theorem sv_pt {B n m : Int} {u : Nat → Nat → Int} (h : SV B n u) (h9 : u 9 0 < 6) (h0 : 0 ≤ m) (h2 : m < n) : SV B n (ptX u m) := by
  obtain ⟨a, b, c, d, e, f, g, i⟩ := h
  unfold ptX
  refine ⟨by simpa [fu] using a, by simp [fu]; omega, by simpa [fu] using c, by simp [fu]; omega, fun j hj => ?_, by simpa [fu] using f, by simpa [fu] using g, by simpa [fu] using i⟩
  rw [fu_at] at hj
  by_cases q : j = (u 9 0).toNat
  · subst q; simp [fu]; omega
  · have := e j (by omega)
    simp [fu, q]; omega
theorem nsX_in (pl u : Nat → Nat → Int) : ∀ k, nsX pl u k = -4 ∨ (0 ≤ nsX pl u k ∧ nsX pl u k < k)
  | 0 => Or.inl rfl
  | k + 1 => by
    have := nsX_in pl u k
    unfold nsX
    split <;> omega
theorem npX_in (pl u : Nat → Nat → Int) : ∀ k, npX pl u k = -4 ∨ (0 ≤ npX pl u k ∧ npX pl u k < k)
  | 0 => Or.inl rfl
  | k + 1 => by
    have := npX_in pl u k
    unfold npX
    split <;> omega
theorem grX_in (pl : Nat → Nat → Int) (s : Int) : ∀ k, 0 ≤ (grX pl s k).1 ∧ ((grX pl s k).1 < k ∨ (grX pl s k).1 = 0)
  | 0 => ⟨Int.le_refl _, Or.inr rfl⟩
  | k + 1 => by
    have := grX_in pl s k
    unfold grX
    split
    · show 0 ≤ (k : Int) ∧ _
      refine ⟨by omega, Or.inl ?_⟩
      show (k : Int) < _
      omega
    · omega
