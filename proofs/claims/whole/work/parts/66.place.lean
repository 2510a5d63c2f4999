/-! where the cells lie: the law makes them in this order, from b on -/
def obX : Nat → Option Nat
  | 0 => some 7
  | 1 => some 3
  | 2 => some 2
  | 3 => some 6
  | 4 => some 6
  | 5 => some 6
  | 6 => some 6
  | 7 => some 6
  | 8 => some 6
  | 9 => some 1
  | 10 => some 5
  | 11 => some 4
  | 12 => some 4
  | 13 => some 0
  | 20 => some 8
  | _ => none
def offO : Nat → Nat
  | 0 => 0
  | 1 => 1
  | 2 => 4
  | 3 => 11
  | 4 => 18
  | 5 => 27
  | 6 => 34
  | 7 => 41
  | 8 => 48
  | 9 => 25
  | 10 => 55
  | 11 => 56
  | 12 => 59
  | 13 => 62
  | 20 => 65
  | _ => 0
def offA (o f : Nat) : Nat := match o with
  | 1 => (match f with | 1 => 2 | 2 => 3 | _ => 0)
  | 2 => (match f with | 1 => 5 | 2 => 6 | 3 => 7 | 4 => 8 | 5 => 9 | 6 => 10 | _ => 0)
  | 3 => (match f with | 0 => 12 | 10 => 13 | 11 => 14 | 12 => 15 | 13 => 16 | 14 => 17 | _ => 0)
  | 4 => (match f with | 0 => 19 | 10 => 20 | 11 => 21 | 12 => 22 | 13 => 23 | 14 => 24 | _ => 0)
  | 5 => (match f with | 0 => 28 | 10 => 29 | 11 => 30 | 12 => 31 | 13 => 32 | 14 => 33 | _ => 0)
  | 6 => (match f with | 0 => 35 | 10 => 36 | 11 => 37 | 12 => 38 | 13 => 39 | 14 => 40 | _ => 0)
  | 7 => (match f with | 0 => 42 | 10 => 43 | 11 => 44 | 12 => 45 | 13 => 46 | 14 => 47 | _ => 0)
  | 8 => (match f with | 0 => 49 | 10 => 50 | 11 => 51 | 12 => 52 | 13 => 53 | 14 => 54 | _ => 0)
  | 9 => (match f with | 2 => 26 | _ => 0)
  | 11 => (match f with | 1 => 57 | 2 => 58 | _ => 0)
  | 12 => (match f with | 1 => 60 | 2 => 61 | _ => 0)
  | 13 => (match f with | 1 => 63 | 2 => 64 | _ => 0)
  | 20 => (match f with | 0 => 66 | 3 => 67 | 4 => 68 | 5 => 69 | 6 => 70 | 7 => 71 | 9 => 72 | 10 => 73 | 13 => 74 | _ => 0)
  | _ => 0
def lkX (o f : Nat) : Nat := match o with
  | 0 => (match f with | 0 => 1 | 1 => 2 | 2 => 3 | 3 => 4 | 4 => 9 | 5 => 10 | 6 => 12 | 7 => 13 | _ => 0)
  | 9 => (match f with | 100 => 5 | 101 => 6 | 102 => 7 | 103 => 8 | _ => 0)
  | 10 => (match f with | 0 => 11 | 1 => 2 | _ => 0)
  | 11 => (match f with | 0 => 2 | _ => 0)
  | 12 => (match f with | 0 => 2 | _ => 0)
  | 13 => (match f with | 0 => 2 | _ => 0)
  | _ => 0
def cellX : List (Nat × Nat) := [(0, 0), (1, 0), (1, 2), (1, 3), (2, 0), (2, 2), (2, 3), (2, 4), (2, 5), (2, 6), (2, 7), (3, 0), (3, 1), (3, 11), (3, 12), (3, 13), (3, 14), (3, 15), (4, 0), (4, 1), (4, 11), (4, 12), (4, 13), (4, 14), (4, 15), (9, 0), (9, 3), (5, 0), (5, 1), (5, 11), (5, 12), (5, 13), (5, 14), (5, 15), (6, 0), (6, 1), (6, 11), (6, 12), (6, 13), (6, 14), (6, 15), (7, 0), (7, 1), (7, 11), (7, 12), (7, 13), (7, 14), (7, 15), (8, 0), (8, 1), (8, 11), (8, 12), (8, 13), (8, 14), (8, 15), (10, 0), (11, 0), (11, 2), (11, 3), (12, 0), (12, 2), (12, 3), (13, 0), (13, 2), (13, 3), (20, 0), (20, 1), (20, 4), (20, 5), (20, 6), (20, 7), (20, 8), (20, 10), (20, 11), (20, 14)]
abbrev gL (b : Nat) (D : va_G) (Ca : Nat → ClassId) (Sa : Nat → Nat) : Ly := (obX, fun o => b + offO o, fun o f => b + offA o f, lkX, D, Ca, Sa)
theorem ob_in {o c : Nat} (h : obX o = some c) : (o, c) ∈ ([(0, 7), (1, 3), (2, 2), (3, 6), (4, 6), (5, 6), (6, 6), (7, 6), (8, 6), (9, 1), (10, 5), (11, 4), (12, 4), (13, 0), (20, 8)] : List (Nat × Nat)) := by
  unfold obX at h
  split at h <;> first | (cases h; decide) | (exact absurd h (by simp))
theorem cell_ok {o c : Nat} (h : obX o = some c) : cellX[offO o]? = some (o, 0) ∧ ∀ f, f < nfX c → isA (fkX c f) = true → cellX[offA o f]? = some (o, f + 1) :=
  (by decide +kernel : ∀ x ∈ ([(0, 7), (1, 3), (2, 2), (3, 6), (4, 6), (5, 6), (6, 6), (7, 6), (8, 6), (9, 1), (10, 5), (11, 4), (12, 4), (13, 0), (20, 8)] : List (Nat × Nat)), cellX[offO x.1]? = some (x.1, 0) ∧ ∀ f, f < nfX x.2 → isA (fkX x.2 f) = true → cellX[offA x.1 f]? = some (x.1, f + 1)) (o, c) (ob_in h)
theorem ap_L (b : Nat) (D : va_G) (Ca : Nat → ClassId) (Sa : Nat → Nat) : Ap (gL b D Ca Sa) := by
  refine ⟨fun o c o' c' h h' e => ?_, fun o c o' c' f f' h h' f1 f2 g1 g2 e => ?_, fun o c o' c' f' h h' g1 g2 e => ?_⟩
  · have e : b + offO o = b + offO o' := e
    have a := (cell_ok h).1
    have a' := (cell_ok h').1
    rw [show offO o = offO o' by omega, a'] at a
    simpa using a.symm
  · have e : b + offA o f = b + offA o' f' := e
    have a := (cell_ok h).2 f f1 f2
    have a' := (cell_ok h').2 f' g1 g2
    rw [show offA o f = offA o' f' by omega, a'] at a
    have a := Option.some.inj a
    have a1 : o' = o := congrArg Prod.fst a
    have a2 : f' + 1 = f + 1 := congrArg Prod.snd a
    exact ⟨a1.symm, by omega⟩
  · have e : b + offO o = b + offA o' f' := e
    have a := (cell_ok h).1
    have a' := (cell_ok h').2 f' g1 g2
    rw [show offO o = offA o' f' by omega, a'] at a
    have a2 : f' + 1 = 0 := congrArg Prod.snd (Option.some.inj a)
    omega
theorem gA_L {b : Nat} {D : va_G} {Ca : Nat → ClassId} {Sa : Nat → Nat} {q : Nat} (h : gA (gL b D Ca Sa) q) : b ≤ q := by
  obtain ⟨o, c, -, h⟩ := h
  rcases h with rfl | ⟨f, -, -, rfl⟩
  · exact Nat.le_add_right _ _
  · exact Nat.le_add_right _ _
theorem pag_L (b : Nat) (D : va_G) (Ca : Nat → ClassId) (Sa : Nat → Nat) : PaG (gL b D Ca Sa) := by
  refine ⟨rfl, rfl, fun j hj => ?_⟩
  rcases (show j = 0 ∨ j = 1 ∨ j = 2 ∨ j = 3 by omega) with rfl | rfl | rfl | rfl <;> exact ⟨rfl, rfl, rfl, rfl, rfl, rfl, rfl, rfl, rfl⟩
/-! the first text has no fault, and tells what the reference begins with -/
set_option maxRecDepth 100000 in
theorem tx_ok : (scX tX 88 200).2.2 = -4 := by decide +kernel
set_option maxRecDepth 100000 in
theorem tx_m : (scX tX 88 200).2.1 ≠ 0 := by decide +kernel
set_option maxRecDepth 100000 in
theorem tx_pm : plX tX 88 z0 200 0 0 = 4 ∧ (∀ m, m < 4 → ∀ f, f < 6 → plX tX 88 z0 200 (f + 1) m = md4 (f + 1) m) ∧ ∀ f, f < 14 → 7 ≤ f → plX tX 88 z0 200 f 0 = md4 f 0 := by decide +kernel
theorem tx_plR {T : Nat → Int} (h : PlR md4 T) : PlR (plX tX 88 z0 200) T := by
  obtain ⟨a, b, c⟩ := tx_pm
  refine ⟨by rw [h.1, a, mn_4], fun m f hm hf => ?_, fun f f1 f2 => ?_⟩
  · rw [a] at hm
    rw [h.2.1 m f (by rw [mn_4]; exact hm) hf, b m (by omega) f hf]
  · rw [h.2.2 f f1 f2, c f (by omega) f1]
