/-! THE CLASS'S OWN CALLS: words for what they make of the world -/
def XI (w : Wd) : Prop := PV (w 2) ∧ SV (9 * w 3 1 0) (w 2 0 0) (w 3) ∧ w 3 1 0 ≤ 9999 ∧ w 3 9 0 + cnt (runX (w 3)) ≤ 6 ∧ ((0 ≤ w 9 1 0 ∧ w 9 1 0 < 4) ∧ (0 ≤ w 9 0 0 ∧ w 9 0 0 ≤ 4)) ∧ (ShC (w 2) (w 11) ∧ ShC (w 2) (w 12) ∧ BsC (w 2) (w 13)) ∧
  ((0 ≤ w 1 0 0 ∧ w 1 0 0 ≤ 200) ∧ (∀ j : Nat, j < 200 → 0 ≤ w 1 1 j ∧ w 1 1 j ≤ 126) ∧ (∀ j : Nat, j < 6 → 0 ≤ w 1 2 j ∧ w 1 2 j ≤ 99))
/-- the state is kept among the past ones; other objects but those told stay -/
def KP (w w2 : Wd) (P : Nat → Prop) : Prop := (∀ f j, inS f j → w2 (5 + (w 9 1 0).toNat) f j = w 3 f j) ∧ w2 9 1 0 = (w 9 1 0 + 1) % 4 ∧ w2 9 0 0 = min 4 (w 9 0 0 + 1) ∧ ∀ o2, o2 ≠ 3 → o2 ≠ 5 + (w 9 1 0).toNat → o2 ≠ 9 → ¬ P o2 → w2 o2 = w o2
abbrev okTell (what v : Int) : Prop := 0 ≤ what ∧ what < 4 ∧ (slX 0).getD what.toNat 0 ≤ v ∧ v ≤ (slX 1).getD what.toNat 0
def lockX (u : Nat → Nat → Int) (m is : Int) : Nat → Nat → Int := if is = 1 then tkX (spX (fu u 5 0 (setB (u 5 0) m)) m) m else fu u 5 0 (clrB (u 5 0) m)
def dipX (pl u : Nat → Nat → Int) : Nat → Nat → Int := fu (fu (flX pl u 6).1 2 0 0) 3 0 0
/-- k ticks go by -/
def TickR (pl : Nat → Nat → Int) (u : Nat → Nat → Int) : Nat → (Nat → Nat → Int) → Prop
  | 0, v => v = u
  | k + 1, v => ∃ q e, TickR pl u k q ∧ PowX pl q e ∧ v = psX pl q e
/-- k ticks go by, behind so many of them it was short -/
def AheadR (pl : Nat → Nat → Int) (u : Nat → Nat → Int) : Nat → (Nat → Nat → Int) → Int → Prop
  | 0, v, n => (∀ f j, inS f j → v f j = u f j) ∧ n = 0
  | k + 1, v, n => ∃ q e n0, AheadR pl u k q n0 ∧ PowX pl q e ∧ v = psX pl q e ∧ n = (if madeX pl v < v 0 0 then n0 + 1 else n0)
def machV (pl u : Nat → Nat → Int) (m what : Int) : Int :=
  if what = 0 then pl 1 m.toNat else if what = 1 then pl 2 m.toNat else if what = 2 then pl 3 m.toNat else if what = 3 then pl 4 m.toNat else if what = 4 then pl 5 m.toNat else if what = 5 then pl 6 m.toNat else
  if what = 6 then tb (u 6 0) m.toNat + 2 * tb (u 7 0) m.toNat else if what = 7 then u 11 m.toNat else if what = 8 then u 12 m.toNat else if what = 9 then tb (u 5 0) m.toNat else
  if what = 10 then (if mayX pl u m (u 1 0 + 1) then 1 else 0) else if what = 12 then pil (u 10) m (u 9 0).toNat (u 9 0).toNat else -1
def cntV (w : Wd) (what : Int) : Int :=
  if what = 0 then w 2 0 0 else if what = 1 then cnt (runX (w 3)) else if what = 2 then cnt (w 3 7 0) else if what = 3 then cnt (w 3 5 0) else if what = 4 then w 3 9 0 else if what = 5 then w 3 1 0 else if what = 6 then w 3 2 0 else
  if what = 7 then w 3 3 0 else if what = 8 then sumN (w 3 12) 6 else if what = 9 then w 3 4 0 else if what = 10 then w 3 0 0 else if what = 11 then w 3 0 1 else if what = 12 then w 3 0 2 else if what = 13 then w 3 0 3 else if what = 14 then w 9 0 0 else if what = 15 then w 1 0 0 else -1
abbrev openX (w : Wd) : Int := band (bshl 1 (w 2 0 0) - 1) (bxor (w 3 5 0) (-1))
theorem open_in {w : Wd} (hp : PV (w 2)) (h5 : 0 ≤ w 3 5 0 ∧ w 3 5 0 < 64) : 0 ≤ openX w ∧ openX w < 64 := by
  have a := bt_all (w 2 0 0) (by have := hp.1; omega) hp.1.2
  have b := bt_open a.1 a.2.1 h5.1 h5.2
  exact ⟨b.1, b.2.1⟩
theorem sv_tail {pl u : Nat → Nat → Int} {B : Int} (hp : PV pl) (h : SV B (pl 0 0) u) (hB : B ≤ 99000) : SV (B + 2) (pl 0 0) (tailX pl u) := by
  have hp0 := hp.1
  have hs := h
  obtain ⟨a, b, c, d, e, f, g, i⟩ := hs
  unfold tailX
  split
  · rename_i q
    unfold cbX
    split
    · have e0 := e 0 (by omega)
      exact sv_mono (sv_st (sv_tk h) (by omega) e0.1 (by omega) e0.2) (by omega)
    · exact sv_mono h (by omega)
  · split
    · unfold suX
      have h1 : SV (B + 1) (pl 0 0) (u1X u) := sv_fu3 (sv_fu2 (sv_mono h (by omega)) (by omega) (by omega)) (by decide) (by omega)
      split
      · exact sv_mono h1 (by omega)
      · rename_i q
        have hw : 0 ≤ whoX pl (u1X u) ∧ whoX pl (u1X u) < pl 0 0 := by
          have hn := nsX_in pl (u1X u) (pl 0 0).toNat
          unfold whoX at q ⊢
          split at q
          · rename_i q2
            rw [if_pos q2]
            omega
          · exact absurd rfl q
        exact sv_fu2 (sv_mono (sv_st h1 (by omega) hw.1 (by omega) hw.2) (by omega)) (by decide) (by omega)
    · unfold sdX
      split
      · exact sv_mono (sv_fu3 (sv_fu2 h (by decide) (by omega)) (by decide) (by omega)) (by omega)
      · rename_i q
        have hn := npX_in pl u (pl 0 0).toNat
        have h1 : SV (B + 1) (pl 0 0) (fu (fu u 2 0 0) 3 0 (u 3 0 + 1)) := sv_fu3 (sv_fu2 (sv_mono h (by omega)) (by decide) (by omega)) (by omega) (by omega)
        split
        · exact sv_fu3 (sv_mono (sv_sp h1 (by omega) (by omega)) (by omega)) (by decide) (by omega)
        · exact sv_mono h1 (by omega)
theorem sv_ps {pl u : Nat → Nat → Int} {B e : Int} (hp : PV pl) (h : SV B (pl 0 0) u) (hB : B ≤ 98000) : SV (B + 9) (pl 0 0) (psX pl u e) := by
  have hp0 := hp.1
  have h1 := sv_lp (e := e) hp0.2 h (pl 0 0).toNat (by omega)
  exact sv_mono (sv_tail hp h1 (by omega)) (by omega)
theorem co_1 (u : Nat → Nat → Int) (m : Int) : coX u m 1 0 = u 1 0 ∧ coX u m 0 = u 0 ∧ coX u m 9 0 = u 9 0 ∧ coX u m 4 0 = u 4 0 := by
  unfold coX
  split
  · exact ⟨by simp [fu], by funext j; simp [fu], by simp [fu], by simp [fu]⟩
  · exact ⟨rfl, rfl, rfl, rfl⟩
theorem lp_1 (u : Nat → Nat → Int) : ∀ k, lpX u k 1 0 = u 1 0 ∧ lpX u k 0 = u 0 ∧ lpX u k 9 0 = u 9 0 ∧ lpX u k 4 0 = u 4 0
  | 0 => ⟨rfl, rfl, rfl, rfl⟩
  | k + 1 => by
    have ih := lp_1 u k
    have c := co_1 (hrX (lpX u k) k) k
    unfold lpX
    rw [c.1, c.2.1, c.2.2.1, c.2.2.2]
    refine ⟨?_, ?_, ?_, ?_⟩
    · rw [← ih.1]; simp [hrX, fu]
    · rw [← ih.2.1]; funext j; simp [hrX, fu]
    · rw [← ih.2.2.1]; simp [hrX, fu]
    · rw [← ih.2.2.2]; simp [hrX, fu]
theorem st_1 (u : Nat → Nat → Int) (m : Int) : stX u m 1 0 = u 1 0 ∧ stX u m 0 = u 0 ∧ stX u m 9 0 = u 9 0 := by
  unfold stX
  exact ⟨by simp [fu], by funext j; simp [fu], by simp [fu]⟩
theorem sp_1 (u : Nat → Nat → Int) (m : Int) : spX u m 1 0 = u 1 0 ∧ spX u m 0 = u 0 ∧ spX u m 9 0 = u 9 0 := by
  unfold spX
  split
  · exact ⟨by simp [fu], by funext j; simp [fu], by simp [fu]⟩
  · exact ⟨rfl, rfl, rfl⟩
theorem tk_1 (u : Nat → Nat → Int) (m : Int) : tkX u m 1 0 = u 1 0 ∧ tkX u m 0 = u 0 := by
  unfold tkX
  exact ⟨by simp [fu, fuA], by funext j; simp [fu, fuA]⟩
theorem ps_1 (pl u : Nat → Nat → Int) (e : Int) : psX pl u e 1 0 = u 1 0 + 1 ∧ psX pl u e 0 = u 0 := by
  have l := lp_1 (tkE u e) (pl 0 0).toNat
  have l1 : lpX (tkE u e) (pl 0 0).toNat 1 0 = u 1 0 + 1 := by rw [l.1]; simp [tkE, fu]
  have l2 : lpX (tkE u e) (pl 0 0).toNat 0 = u 0 := by rw [l.2.1]; funext j; simp [tkE, fu]
  unfold psX tailX
  generalize lpX (tkE u e) (pl 0 0).toNat = v at l1 l2 ⊢
  split
  · unfold cbX
    split
    · rw [(st_1 _ _).1, (st_1 _ _).2.1, (tk_1 _ _).1, (tk_1 _ _).2]; exact ⟨l1, l2⟩
    · exact ⟨l1, l2⟩
  · split
    · unfold suX
      have e1 : u1X v 1 0 = v 1 0 := by simp [u1X, fu]
      have e2 : u1X v 0 = v 0 := by funext j; simp [u1X, fu]
      split
      · rw [e1, e2]; exact ⟨l1, l2⟩
      · refine ⟨?_, ?_⟩
        · rw [fu_ne (by decide), (st_1 _ _).1, e1]; exact l1
        · rw [← l2, ← e2, ← (st_1 (u1X v) (whoX pl (u1X v))).2.1]; funext j; simp [fu]
    · unfold sdX
      split
      · exact ⟨by rw [fu_ne (by decide), fu_ne (by decide)]; exact l1, by rw [← l2]; funext j; simp [fu]⟩
      · split
        · refine ⟨?_, ?_⟩
          · rw [fu_ne (by decide), (sp_1 _ _).1, fu_ne (by decide), fu_ne (by decide)]; exact l1
          · rw [← l2]
            funext j
            rw [fu_ne (fun z => absurd z.1 (by decide)), (sp_1 _ _).2.1, fu_ne (fun z => absurd z.1 (by decide)), fu_ne (fun z => absurd z.1 (by decide))]
        · exact ⟨by rw [fu_ne (by decide), fu_ne (by decide)]; exact l1, by rw [← l2]; funext j; simp [fu]⟩
