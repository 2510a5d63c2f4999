/-! NUMBERS: an int of the machine as an integer -/
def iI (z : Int) : Int32 := Int32.ofInt z
def lI (z : Int) : Int64 := Int64.ofInt z
def InR (z : Int) : Prop := -2147483648 ≤ z ∧ z ≤ 2147483647
def InL (z : Int) : Prop := -9223372036854775808 ≤ z ∧ z ≤ 9223372036854775807
theorem iI_of (x : Int32) : iI x.toInt = x := Int32.ofInt_toInt x
theorem lI_of (x : Int64) : lI x.toInt = x := Int64.ofInt_toInt x
theorem iI_to {z : Int} (h : InR z) : (iI z).toInt = z := by
  have h1 := h.1
  have h2 := h.2
  exact Int32.toInt_ofInt_of_le (by omega) (by omega)
theorem lI_to {z : Int} (h : InL z) : (lI z).toInt = z := by
  have h1 := h.1
  have h2 := h.2
  exact Int64.toInt_ofInt_of_le (by omega) (by omega)
theorem inR_to (x : Int32) : InR x.toInt := by
  have h1 := Int32.toInt_lt x
  have h2 := Int32.le_toInt x
  exact ⟨by omega, by omega⟩
theorem inL_to (x : Int64) : InL x.toInt := by
  have h1 := Int64.toInt_lt x
  have h2 := Int64.le_toInt x
  exact ⟨by omega, by omega⟩
theorem iI_add (a b : Int) : iI a + iI b = iI (a + b) := (Int32.ofInt_add a b).symm
theorem iI_sub (a b : Int) : iI a - iI b = iI (a - b) := (Int32.ofInt_sub a b).symm
theorem iI_mul (a b : Int) : iI a * iI b = iI (a * b) := (Int32.ofInt_mul a b).symm
theorem iI_neg (a : Int) : -iI a = iI (-a) := (Int32.ofInt_neg a).symm
theorem lI_add (a b : Int) : lI a + lI b = lI (a + b) := (Int64.ofInt_add a b).symm
theorem iI_lt {a b : Int} (ha : InR a) (hb : InR b) : iI a < iI b ↔ a < b := by rw [Int32.lt_iff_toInt_lt, iI_to ha, iI_to hb]
theorem iI_le {a b : Int} (ha : InR a) (hb : InR b) : iI a ≤ iI b ↔ a ≤ b := by rw [Int32.le_iff_toInt_le, iI_to ha, iI_to hb]
theorem iI_eq {a b : Int} (ha : InR a) (hb : InR b) : iI a = iI b ↔ a = b := by rw [← Int32.toInt_inj, iI_to ha, iI_to hb]
theorem lI_lt {a b : Int} (ha : InL a) (hb : InL b) : lI a < lI b ↔ a < b := by rw [Int64.lt_iff_toInt_lt, lI_to ha, lI_to hb]
theorem lI_eq {a b : Int} (ha : InL a) (hb : InL b) : lI a = lI b ↔ a = b := by rw [← Int64.toInt_inj, lI_to ha, lI_to hb]
theorem iI_zero : iI 0 = 0 := rfl
theorem inR_zero : InR 0 := ⟨by decide, by decide⟩
theorem iI_clamp {a : Int} (h0 : 0 ≤ a) (h : a ≤ 2147483647) : (iI a).toNatClampNeg = a.toNat := by
  show (iI a).toInt.toNat = a.toNat
  rw [iI_to ⟨by omega, h⟩]
theorem iI_in {a : Int} {n : Nat} (h0 : 0 ≤ a) (h1 : a < (n : Int)) (hn : n ≤ 2147483647) : vp_in (iI a) n := by
  intro q
  have hr : InR a := ⟨by omega, by omega⟩
  rcases q with q | q
  · rw [← iI_zero, iI_lt hr inR_zero] at q; omega
  · rw [iI_clamp h0 (by omega)] at q; omega
/-! operations on the bits, as integers -/
def band (a b : Int) : Int := (iI a &&& iI b).toInt
def bor (a b : Int) : Int := (iI a ||| iI b).toInt
def bxor (a b : Int) : Int := (iI a ^^^ iI b).toInt
def bshl (a b : Int) : Int := (iI a <<< (iI b &&& 31)).toInt
def bshr (a b : Int) : Int := (iI a >>> (iI b &&& 31)).toInt
def bushr (a b : Int) : Int := (((iI a).toUInt32 >>> ((iI b).toUInt32 &&& Int32.toUInt32 31)).toInt32).toInt
def jdiv (a b : Int) : Int := (iI a / iI b).toInt
def jrem (a b : Int) : Int := (iI a - iI a / iI b * iI b).toInt
def j2c (a : Int) : Int := (((iI a).toUInt32 % 65536).toInt32).toInt
def j2l (a : Int) : Int := ((iI a).toInt64).toInt
def l2j (a : Int) : Int := ((lI a).toInt32).toInt
def lshl (a b : Int) : Int := (lI a <<< ((iI b).toInt64 &&& 63)).toInt
def lshr (a b : Int) : Int := (lI a >>> ((iI b).toInt64 &&& 63)).toInt
theorem jdiv_pos {a b : Int} (ha : InR a) (h0 : 0 ≤ a) (hb : 0 < b) (hb2 : b ≤ 2147483647) : jdiv a b = a / b := by
  have hbr : InR b := ⟨by omega, hb2⟩
  unfold jdiv
  rw [Int32.toInt_div_of_ne_right _ _ (fun q => by
    have : b = -1 := (iI_eq hbr ⟨by decide, by decide⟩).mp q
    omega), iI_to ha, iI_to hbr, Int.tdiv_eq_ediv_of_nonneg h0]
theorem jrem_pos {a b : Int} (ha : InR a) (h0 : 0 ≤ a) (hb : 0 < b) (hb2 : b ≤ 2147483647) : jrem a b = a % b := by
  have hbr : InR b := ⟨by omega, hb2⟩
  unfold jrem
  rw [rem_toInt, iI_to ha, iI_to hbr, Int.tmod_eq_emod_of_nonneg h0]
theorem j2l_eq {a : Int} (h : InR a) : j2l a = a := by
  unfold j2l
  rw [Int32.toInt_toInt64, iI_to h]
theorem l2j_eq {a : Int} (h : InR a) : l2j a = a := by
  unfold l2j
  have h2 := iI_to h
  rw [show (lI a).toInt32 = iI a from Int64.toInt32_ofInt, h2]
/-! WORLDS -/
/-- an object's number, a field's number, a place (0 for a field that holds a number): the number there -/
abbrev Wd : Type := Nat → Nat → Nat → Int
/-- a layout: class of an object (by number), its address, the address of the array in a field, the number of the object in a field, the classes, the array classes, the addresses of the static arrays -/
abbrev Ly : Type := (Nat → Option Nat) × (Nat → Nat) × (Nat → Nat → Nat) × (Nat → Nat → Nat) × va_G × (Nat → ClassId) × (Nat → Nat)
abbrev gOb (G : Ly) : Nat → Option Nat := G.1
abbrev gAd (G : Ly) : Nat → Nat := G.2.1
abbrev gAr (G : Ly) : Nat → Nat → Nat := G.2.2.1
abbrev gLk (G : Ly) : Nat → Nat → Nat := G.2.2.2.1
abbrev gD (G : Ly) : va_G := G.2.2.2.2.1
abbrev gCa (G : Ly) : Nat → ClassId := G.2.2.2.2.2.1
abbrev gSa (G : Ly) : Nat → Nat := G.2.2.2.2.2.2
def up (w : Wd) (o f j : Nat) (v : Int) : Wd := fun o' f' j' => if o' = o ∧ f' = f ∧ j' = j then v else w o' f' j'
theorem up_at (w : Wd) (o f j : Nat) (v : Int) : up w o f j v o f j = v := if_pos ⟨rfl, rfl, rfl⟩
theorem up_ne {w : Wd} {o f j o' f' j' : Nat} {v : Int} (h : ¬ (o' = o ∧ f' = f ∧ j' = j)) : up w o f j v o' f' j' = w o' f' j' := if_neg h
/-- what a field is: 0 a number, 6 a truth value, 1 ints, 2 longs, 3 letters, 5 objects (so many), 4 an object -/
def fkX (c f : Nat) : Nat × Nat := match c with
  | 0 => (match f with | 0 => (4, 0) | 1 => (1, 481) | 2 => (1, 81) | 3 => (6, 0) | _ => (0, 0))
  | 1 => (match f with | 0 => (0, 0) | 1 => (0, 0) | _ => (5, 4))
  | 2 => (match f with | 1 => (1, 6) | 2 => (1, 6) | 3 => (1, 6) | 4 => (1, 6) | 5 => (1, 6) | 6 => (1, 6) | _ => (0, 0))
  | 3 => (match f with | 0 => (0, 0) | 1 => (3, 200) | _ => (1, 6))
  | 4 => (match f with | 0 => (4, 0) | 1 => (2, 481) | 2 => (2, 81) | 3 => (6, 0) | _ => (0, 0))
  | 5 => (4, 0)
  | 6 => (match f with | 0 => (1, 4) | 10 => (1, 6) | 11 => (1, 6) | 12 => (1, 6) | 13 => (1, 54) | 14 => (1, 6) | _ => (0, 0))
  | 7 => (4, 0)
  | _ => (match f with | 0 => (1, 200) | 3 => (1, 44) | 4 => (1, 44) | 5 => (1, 101) | 6 => (1, 101) | 7 => (1, 404) | 9 => (1, 6) | 10 => (1, 15392) | 11 => (6, 0) | 13 => (1, 6) | _ => (0, 0))
def nfX (c : Nat) : Nat := match c with
  | 0 => 6 | 1 => 3 | 2 => 14 | 3 => 3 | 4 => 9 | 5 => 2 | 6 => 15 | 7 => 8 | _ => 15
def isA (k : Nat × Nat) : Bool := k.1 == 1 || k.1 == 2 || k.1 == 3 || k.1 == 5
def fval (G : Ly) (w : Wd) (o c f : Nat) : Value := match (fkX c f).1 with
  | 0 => .int (iI (w o f 0))
  | 6 => .int (iI (w o f 0))
  | 4 => .ref (gAd G (gLk G o f))
  | _ => .ref (gAr G o f)
def acell (G : Ly) (w : Wd) (o f : Nat) (k : Nat × Nat) : Cell := match k.1 with
  | 1 => vp_cell (gCa G 0) (k.2, .inl fun j => iI (w o f j))
  | 2 => vp_cell (gCa G 1) (k.2, .inr (.inl fun j => lI (w o f j)))
  | 3 => vp_cell (gCa G 2) (k.2, .inl fun j => iI (w o f j))
  | _ => vp_cell (gCa G 3) (k.2, .inr (.inr (.inr (.inr fun j => some (gAd G (gLk G o (100 + j)))))))
/-- the heap holds the world -/
def Hold (G : Ly) (w : Wd) (H : Heap) : Prop := ∀ o c, gOb G o = some c →
  t_OB (gAd G o) ((gD G).1 c) (nfX c) ((gD G).2 c) H (fval G w o c) ∧ ∀ f, f < nfX c → isA (fkX c f) = true → H[gAr G o f]? = some (acell G w o f (fkX c f))
/-- the addresses are apart -/
def Ap (G : Ly) : Prop := (∀ o c o' c', gOb G o = some c → gOb G o' = some c' → gAd G o = gAd G o' → o = o') ∧
  (∀ o c o' c' f f', gOb G o = some c → gOb G o' = some c' → f < nfX c → isA (fkX c f) = true → f' < nfX c' → isA (fkX c' f') = true → gAr G o f = gAr G o' f' → o = o' ∧ f = f') ∧
  (∀ o c o' c' f', gOb G o = some c → gOb G o' = some c' → f' < nfX c' → isA (fkX c' f') = true → gAd G o ≠ gAr G o' f')
/-- the world's own cells -/
def gA (G : Ly) : Nat → Prop := fun q => ∃ o c, gOb G o = some c ∧ (q = gAd G o ∨ ∃ f, f < nfX c ∧ isA (fkX c f) = true ∧ q = gAr G o f)
theorem gA_o {G : Ly} {o c : Nat} (h : gOb G o = some c) : gA G (gAd G o) := ⟨o, c, h, Or.inl rfl⟩
theorem gA_a {G : Ly} {o c f : Nat} (h : gOb G o = some c) (hf : f < nfX c) (ha : isA (fkX c f) = true) : gA G (gAr G o f) := ⟨o, c, h, Or.inr ⟨f, hf, ha, rfl⟩⟩
/-- a number of a field is set -/
theorem Hold.puti {G : Ly} {w : Wd} {H H1 : Heap} (h : Hold G w H) (hA : Ap G) {o c f : Nat} (ho : gOb G o = some c) (hk : (fkX c f).1 = 0 ∨ (fkX c f).1 = 6) {v : Int}
    (he : t_OB (gAd G o) ((gD G).1 c) (nfX c) ((gD G).2 c) H1 (updV (fval G w o c) f (.int (iI v)))) (oq : ∀ q : Nat, q ≠ gAd G o → H1[q]? = H[q]?) : Hold G (up w o f 0 v) H1 := by
  intro o' c' ho'
  obtain ⟨h1, h2⟩ := h o' c' ho'
  constructor
  · by_cases e : o' = o
    · subst e
      cases ho.symm.trans ho'
      refine he.to fun k hk' => ?_
      by_cases ek : k = f
      · subst ek
        rcases hk with hk | hk <;> simp [updV, fval, hk, up]
      · simp [updV, ek, fval, up]
    · have hne : gAd G o' ≠ gAd G o := fun z => e (hA.1 _ _ _ _ ho' ho z)
      refine (h1.kept (oq _ hne)).to fun k hk' => ?_
      simp [fval, up, e]
  · intro f' hf' ha'
    have hne : gAr G o' f' ≠ gAd G o := fun z => hA.2.2 _ _ _ _ _ ho ho' hf' ha' z.symm
    rw [oq _ hne, h2 f' hf' ha']
    have hx : ¬ (o' = o ∧ f' = f) := by
      rintro ⟨rfl, rfl⟩
      cases ho.symm.trans ho'
      rcases hk with hk | hk <;> simp [isA, hk] at ha'
    have hu : ∀ j, up w o f 0 v o' f' j = w o' f' j := fun j => up_ne (fun q => hx ⟨q.1, q.2.1⟩)
    simp only [acell, hu]
/-- an array is changed -/
theorem Hold.puta {G : Ly} {w w' : Wd} {H H1 : Heap} (h : Hold G w H) (hA : Ap G) {o c f : Nat} (ho : gOb G o = some c) (hf : f < nfX c) (ha : isA (fkX c f) = true)
    (hw : ∀ o' f' j', ¬ (o' = o ∧ f' = f) → w' o' f' j' = w o' f' j') (he : H1[gAr G o f]? = some (acell G w' o f (fkX c f))) (oq : ∀ q : Nat, q ≠ gAr G o f → H1[q]? = H[q]?) : Hold G w' H1 := by
  intro o' c' ho'
  obtain ⟨h1, h2⟩ := h o' c' ho'
  constructor
  · have hne : gAd G o' ≠ gAr G o f := hA.2.2 _ _ _ _ _ ho' ho hf ha
    refine (h1.kept (oq _ hne)).to fun k hk' => ?_
    by_cases e : o' = o ∧ k = f
    · obtain ⟨rfl, rfl⟩ := e
      cases ho.symm.trans ho'
      have hk : (fkX c k).1 = 1 ∨ (fkX c k).1 = 2 ∨ (fkX c k).1 = 3 ∨ (fkX c k).1 = 5 := by
        simp [isA] at ha
        omega
      rcases hk with hk | hk | hk | hk <;> simp [fval, hk]
    · simp only [fval, hw o' k 0 e]
  · intro f' hf' ha'
    by_cases e : o' = o ∧ f' = f
    · obtain ⟨rfl, rfl⟩ := e
      cases ho.symm.trans ho'
      exact he
    · have hne : gAr G o' f' ≠ gAr G o f := fun z => e (hA.2.1 _ _ _ _ _ _ ho' ho hf' ha' hf ha z)
      rw [oq _ hne, h2 f' hf' ha']
      have hu : ∀ j, w' o' f' j = w o' f' j := fun j => hw o' f' j e
      simp only [acell, hu]
