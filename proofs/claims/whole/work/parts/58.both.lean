/-! THE CALLS side by side: what each side says of a call; the same answer, and both worlds go on together -/
abbrev q7_write (c : Int) (w : Wd) (z : Int) (w2 : Wd) : Prop := ((c < 32 ∨ 126 < c) ∧ z = -1 ∧ w2 = w) ∨ (32 ≤ c ∧ c ≤ 126 ∧ w 1 0 0 = 200 ∧ z = -3 ∧ w2 = w) ∨ (32 ≤ c ∧ c ≤ 126 ∧ w 1 0 0 < 200 ∧ z = w 1 0 0 + 1 ∧ w2 = up (up w 1 1 (w 1 0 0).toNat c) 1 0 0 (w 1 0 0 + 1))
abbrev q8_write (c : Int) (t : Nat → Int) (w : Wd) (z : Int) (w2 : Wd) : Prop := ((c < 32 ∨ 126 < c) ∧ z = -1 ∧ w2 = w) ∨ (32 ≤ c ∧ c ≤ 126 ∧ w 20 1 0 = 200 ∧ z = -3 ∧ w2 = w) ∨ (32 ≤ c ∧ c ≤ 126 ∧ w 20 1 0 < 200 ∧ z = w 20 1 0 + 1 ∧ w2 = up (up w 20 0 (w 20 1 0).toNat c) 20 1 0 (w 20 1 0 + 1))
abbrev q7_wipe  (w : Wd) (z : Int) (w2 : Wd) : Prop := z = (w 1 0 0) ∧ w2 = up w 1 0 0 0
abbrev q8_wipe (t : Nat → Int) (w : Wd) (z : Int) (w2 : Wd) : Prop := z = (w 20 1 0) ∧ w2 = up w 20 1 0 0
abbrev q7_fault  (w : Wd) (z : Int) (w2 : Wd) : Prop := z = (scX (w 1 1) (w 1 0 0) 200).2.2 ∧ (∀ o2 f j, ¬ (o2 = 1 ∧ f = 2) → w2 o2 f j = w o2 f j) ∧ (∀ j : Nat, j < 6 → 0 ≤ w2 1 2 j ∧ w2 1 2 j ≤ 99)
abbrev q8_fault (t : Nat → Int) (u0 : Nat → Nat → Int) (w : Wd) (z : Int) (w2 : Wd) : Prop := (∀ o f, ¬ (o = 20 ∧ (f = 2 ∨ f = 3 ∨ f = 9)) → w2 o f = w o f) ∧ (0 ≤ w2 20 2 0 ∧ w2 20 2 0 ≤ w 20 1 0) ∧ (∀ j : Nat, j < 6 → 0 ≤ w2 20 9 j ∧ w2 20 9 j ≤ 99) ∧ z = (scX t (w 20 1 0) 200).2.2 ∧ (z = -4 → PlR (plX t (w 20 1 0) u0 200) (w2 20 3) ∧ plX t (w 20 1 0) u0 200 0 0 = (scX t (w 20 1 0) 200).2.1)
abbrev q7_lay  (w : Wd) (z : Int) (w2 : Wd) : Prop := (((scX (w 1 1) (w 1 0 0) 200).2.2 ≠ -4 ∨ cntC (w 1 1) (w 1 0 0).toNat = 0) ∧ z = -2 ∧ (∀ o2 f j, ¬ (o2 = 1 ∧ f = 2) → w2 o2 f j = w o2 f j) ∧ (∀ j : Nat, j < 6 → 0 ≤ w2 1 2 j ∧ w2 1 2 j ≤ 99)) ∨ ((scX (w 1 1) (w 1 0 0) 200).2.2 = -4 ∧ cntC (w 1 1) (w 1 0 0).toNat ≠ 0 ∧ w2 2 = plX (w 1 1) (w 1 0 0) (w 2) 200 ∧ z = w2 2 0 0 ∧ ResX (w2 3) ∧ (∀ j, w2 3 13 j = w 3 13 j) ∧ w2 9 0 0 = 0 ∧ w2 9 1 0 = w 9 1 0 ∧ w2 11 3 0 = 0 ∧ w2 12 3 0 = 0 ∧ w2 13 3 0 = 0 ∧ w2 1 0 = w 1 0 ∧ w2 1 1 = w 1 1 ∧ (∀ j : Nat, j < 6 → 0 ≤ w2 1 2 j ∧ w2 1 2 j ≤ 99))
abbrev q8_lay (t : Nat → Int) (u0 : Nat → Nat → Int) (w : Wd) (z : Int) (w2 : Wd) : Prop := ((scX t (w 20 1 0) 200).2.2 ≠ -4 ∨ (scX t (w 20 1 0) 200).2.1 = 0) ∧ z = -2 ∧ (∀ o f, ¬ (o = 20 ∧ (f = 2 ∨ f = 3 ∨ f = 9)) → w2 o f = w o f) ∧ (0 ≤ w2 20 2 0 ∧ w2 20 2 0 ≤ w 20 1 0) ∧ (∀ j : Nat, j < 6 → 0 ≤ w2 20 9 j ∧ w2 20 9 j ≤ 99) ∨ (scX t (w 20 1 0) 200).2.2 = -4 ∧ (scX t (w 20 1 0) 200).2.1 ≠ 0 ∧ z = (scX t (w 20 1 0) 200).2.1 ∧ PlR (plX t (w 20 1 0) u0 200) (w2 20 4) ∧ w2 20 8 0 = 0 ∧ w2 20 11 0 = 0 ∧ (∀ j : Nat, j < 101 → w2 20 5 j = d0X j) ∧ (∀ o f, ¬ (o = 20 ∧ (f = 2 ∨ f = 3 ∨ f = 4 ∨ f = 5 ∨ f = 8 ∨ f = 9 ∨ f = 11)) → w2 o f = w o f) ∧ (0 ≤ w2 20 2 0 ∧ w2 20 2 0 ≤ w 20 1 0) ∧ (∀ j : Nat, j < 6 → 0 ≤ w2 20 9 j ∧ w2 20 9 j ≤ 99)
abbrev q7_tell (what : Int) (v : Int) (w : Wd) (z : Int) (w2 : Wd) : Prop := (¬ okTell what v ∧ z = -1 ∧ w2 = w) ∨ (okTell what v ∧ w 3 0 what.toNat = v ∧ z = -2 ∧ w2 = w) ∨ (okTell what v ∧ w 3 0 what.toNat ≠ v ∧ z = w 3 0 what.toNat ∧ KP w w2 (fun _ => False) ∧ w2 3 = fu (w 3) 0 what.toNat v)
abbrev q8_tell (what : Int) (v : Int) (pl : Nat → Nat → Int) (u : Nat → Nat → Int) (w : Wd) (z : Int) (w2 : Wd) : Prop := (¬ okTell what v ∧ z = -1 ∧ w2 = w) ∨ (okTell what v ∧ u 0 what.toNat = v ∧ z = -2 ∧ w2 = w) ∨ (okTell what v ∧ u 0 what.toNat ≠ v ∧ z = u 0 what.toNat ∧ RS (fu u 0 what.toNat v) (w2 20 5) ∧ NoteR w w2 ∧ MF w w2 ∧ TbC pl (w2 20))
abbrev q7_lock (m : Int) (is_ : Int) (w : Wd) (z : Int) (w2 : Wd) : Prop := (¬ ((0 ≤ m ∧ m < w 2 0 0) ∧ 0 ≤ is_ ∧ is_ ≤ 1) ∧ z = -1 ∧ w2 = w) ∨ (((0 ≤ m ∧ m < w 2 0 0) ∧ 0 ≤ is_ ∧ is_ ≤ 1) ∧ tb (w 3 5 0) m.toNat = is_ ∧ z = -2 ∧ w2 = w) ∨ (((0 ≤ m ∧ m < w 2 0 0) ∧ 0 ≤ is_ ∧ is_ ≤ 1) ∧ tb (w 3 5 0) m.toNat ≠ is_ ∧ z = cnt (w2 3 5 0) ∧ KP w w2 (fun _ => False) ∧ w2 3 = lockX (w 3) m is_)
abbrev q8_lock (m : Int) (is_ : Int) (pl : Nat → Nat → Int) (u : Nat → Nat → Int) (w : Wd) (z : Int) (w2 : Wd) : Prop := (¬ ((0 ≤ m ∧ m < pl 0 0) ∧ 0 ≤ is_ ∧ is_ ≤ 1) ∧ z = -1 ∧ w2 = w) ∨ (((0 ≤ m ∧ m < pl 0 0) ∧ 0 ≤ is_ ∧ is_ ≤ 1) ∧ tb (u 5 0) m.toNat = is_ ∧ z = -2 ∧ w2 = w) ∨ (((0 ≤ m ∧ m < pl 0 0) ∧ 0 ≤ is_ ∧ is_ ≤ 1) ∧ tb (u 5 0) m.toNat ≠ is_ ∧ z = cnt (lockX u m is_ 5 0) ∧ RS (lockX u m is_) (w2 20 5) ∧ NoteR w w2 ∧ MF w w2 ∧ TbC pl (w2 20))
abbrev q7_dip  (w : Wd) (z : Int) (w2 : Wd) : Prop := z = cnt (runX (w 3)) ∧ KP w w2 (fun _ => False) ∧ w2 3 = dipX (w 2) (w 3)
abbrev q8_dip (pl : Nat → Nat → Int) (u : Nat → Nat → Int) (w : Wd) (z : Int) (w2 : Wd) : Prop := z = cnt (runX u) ∧ RS (dipX pl u) (w2 20 5) ∧ NoteR w w2 ∧ MF w w2 ∧ TbC pl (w2 20)
abbrev q7_tick (n : Int) (w : Wd) (z : Int) (w2 : Wd) : Prop := ((n < 1 ∨ 60 < n) ∧ z = -1 ∧ w2 = w) ∨ (1 ≤ n ∧ n ≤ 60 ∧ 9999 < w 3 1 0 + n ∧ z = -2 ∧ w2 = w) ∨ (1 ≤ n ∧ n ≤ 60 ∧ w 3 1 0 + n ≤ 9999 ∧ z = sumN (w2 3 12) 6 - sumN (w 3 12) 6 ∧ KP w w2 (fun o2 => o2 = 11) ∧ ShC (w 2) (w2 11) ∧ TickR (w 2) (w 3) n.toNat (w2 3))
abbrev q8_tick (n : Int) (pl : Nat → Nat → Int) (u : Nat → Nat → Int) (w : Wd) (z : Int) (w2 : Wd) : Prop := ((n < 1 ∨ 60 < n) ∧ z = -1 ∧ w2 = w) ∨ (1 ≤ n ∧ n ≤ 60 ∧ 9999 < u 1 0 + n ∧ z = -2 ∧ w2 = w) ∨ (1 ≤ n ∧ n ≤ 60 ∧ u 1 0 + n ≤ 9999 ∧ ∃ q, TickR pl u n.toNat q ∧ z = sumN (q 12) 6 - sumN (u 12) 6 ∧ RS q (w2 20 5) ∧ SU (pl 0 0) q ∧ NoteR w w2 ∧ MF w w2 ∧ TbC pl (w2 20))
abbrev q7_undo  (w : Wd) (z : Int) (w2 : Wd) : Prop := (w 9 0 0 = 0 ∧ z = -2 ∧ w2 = w) ∨ (w 9 0 0 ≠ 0 ∧ z = w 9 0 0 - 1 ∧ (∀ f j, inS f j → w2 3 f j = w (5 + ((w 9 1 0 + 3) % 4).toNat) f j) ∧ w2 9 1 0 = (w 9 1 0 + 3) % 4 ∧ w2 9 0 0 = w 9 0 0 - 1 ∧ ∀ o2, o2 ≠ 3 → o2 ≠ 9 → w2 o2 = w o2)
abbrev q8_undo  (w : Wd) (z : Int) (w2 : Wd) : Prop := (w 20 8 0 = 0 ∧ z = -2 ∧ w2 = w) ∨ (w 20 8 0 ≠ 0 ∧ z = w 20 8 0 - 1 ∧ (∀ o f, ¬ (o = 20 ∧ (f = 5 ∨ f = 8)) → w2 o f = w o f) ∧ w2 20 8 0 = w 20 8 0 - 1 ∧ ∀ k : Nat, k < 101 → w2 20 5 k = w 20 7 (101 * (w 20 8 0 - 1).toNat + k))
abbrev q7_machine (m : Int) (what : Int) (w : Wd) (z : Int) (w2 : Wd) : Prop := (∀ o2, o2 ≠ 11 → w2 o2 = w o2) ∧ ShC (w 2) (w2 11) ∧ (¬ (0 ≤ m ∧ m < w 2 0 0) → z = -1) ∧ ((0 ≤ m ∧ m < w 2 0 0) → what ≠ 11 → z = machV (w 2) (w 3) m what) ∧ ((0 ≤ m ∧ m < w 2 0 0) → what = 11 → ∃ v, BestC (w 2) (pkX (w 2) (liftX (w 3))) (w 3 7 0) (w 2 0 0).toNat (madeX (w 2) (w 3)) v ∧ z = v / 2 ^ (7 * (5 - m.toNat)) % 128)
abbrev q8_machine (m : Int) (what : Int) (pl : Nat → Nat → Int) (u : Nat → Nat → Int) (w : Wd) (z : Int) (w2 : Wd) : Prop := (∀ o f, ¬ (o = 20 ∧ 10 ≤ f ∧ f ≤ 13) → w2 o f = w o f) ∧ TbC pl (w2 20) ∧ (¬ (0 ≤ m ∧ m < pl 0 0) → z = -1) ∧ ((0 ≤ m ∧ m < pl 0 0) → what ≠ 11 → z = machV pl u m what) ∧ ((0 ≤ m ∧ m < pl 0 0) → what = 11 → ∃ v, BestC pl (pkX pl (liftX u)) (u 7 0) (pl 0 0).toNat (madeX pl u) v ∧ z = v / 2 ^ (7 * (5 - m.toNat)) % 128)
abbrev q7_power (m : Int) (load : Int) (lift : Int) (w : Wd) (z : Int) (w2 : Wd) : Prop := z = (if (0 ≤ m ∧ m < w 2 0 0) ∧ (0 ≤ load ∧ load ≤ 99) ∧ 0 ≤ lift ∧ lift ≤ 45 then pwX (w 2) lift m.toNat load else -1) ∧ w2 = w
abbrev q8_power (m : Int) (load : Int) (lift : Int) (pl : Nat → Nat → Int) (w : Wd) (z : Int) (w2 : Wd) : Prop := z = (if (0 ≤ m ∧ m < pl 0 0) ∧ (0 ≤ load ∧ load ≤ 99) ∧ 0 ≤ lift ∧ lift ≤ 45 then pwX pl lift m.toNat load else -1) ∧ w2 = w
abbrev q7_share (set : Int) (load : Int) (m : Int) (w : Wd) (z : Int) (w2 : Wd) : Prop := (∀ o2, o2 ≠ 12 → w2 o2 = w o2) ∧ ShC (w 2) (w2 12) ∧ (¬ ((0 ≤ set ∧ set ≤ bshl 1 (w 2 0 0) - 1) ∧ (0 ≤ load ∧ load ≤ 480) ∧ (m = -1 ∨ (0 ≤ m ∧ m < w 2 0 0))) → z = -1) ∧ (((0 ≤ set ∧ set ≤ bshl 1 (w 2 0 0) - 1) ∧ (0 ≤ load ∧ load ≤ 480) ∧ (m = -1 ∨ (0 ≤ m ∧ m < w 2 0 0))) → ¬ CanX (w 2) set load → z = -4) ∧ (((0 ≤ set ∧ set ≤ bshl 1 (w 2 0 0) - 1) ∧ (0 ≤ load ∧ load ≤ 480) ∧ (m = -1 ∨ (0 ≤ m ∧ m < w 2 0 0))) → CanX (w 2) set load → ∃ v, BestC (w 2) (pkX (w 2) (liftX (w 3))) set (w 2 0 0).toNat load v ∧ z = if m = -1 then v / 4398046511104 else v / 2 ^ (7 * (5 - m.toNat)) % 128)
abbrev q8_share (set : Int) (load : Int) (m : Int) (pl : Nat → Nat → Int) (u : Nat → Nat → Int) (w : Wd) (z : Int) (w2 : Wd) : Prop := (∀ o f, ¬ (o = 20 ∧ 10 ≤ f ∧ f ≤ 13) → w2 o f = w o f) ∧ TbC pl (w2 20) ∧ (¬ ((0 ≤ set ∧ set ≤ bshl 1 (pl 0 0) - 1) ∧ (0 ≤ load ∧ load ≤ 480) ∧ (m = -1 ∨ (0 ≤ m ∧ m < pl 0 0))) → z = -1) ∧ (((0 ≤ set ∧ set ≤ bshl 1 (pl 0 0) - 1) ∧ (0 ≤ load ∧ load ≤ 480) ∧ (m = -1 ∨ (0 ≤ m ∧ m < pl 0 0))) → ¬ CanX pl set load → z = -4) ∧ (((0 ≤ set ∧ set ≤ bshl 1 (pl 0 0) - 1) ∧ (0 ≤ load ∧ load ≤ 480) ∧ (m = -1 ∨ (0 ≤ m ∧ m < pl 0 0))) → CanX pl set load → ∀ v, BestC pl (pkX pl (liftX u)) set (pl 0 0).toNat load v → z = if m = -1 then v / 4398046511104 else v / 2 ^ (7 * (5 - m.toNat)) % 128)
abbrev q7_best (load : Int) (what : Int) (w : Wd) (z : Int) (w2 : Wd) : Prop := (∀ o2, o2 ≠ 13 → w2 o2 = w o2) ∧ BsC (w 2) (w2 13) ∧ (¬ ((0 ≤ load ∧ load ≤ 480) ∧ 0 ≤ what ∧ what ≤ 1) → z = -1) ∧ (((0 ≤ load ∧ load ≤ 480) ∧ 0 ≤ what ∧ what ≤ 1) → ∃ v, BestS (w 2) (bkX (w 2) (liftX (w 3))) (openX w) (w 2 0 0).toNat load v ∧ z = if v < 1073741824 then (if what = 0 then band v 63 else bshr v 9) else -4)
abbrev q8_best (load : Int) (what : Int) (pl : Nat → Nat → Int) (u : Nat → Nat → Int) (w : Wd) (z : Int) (w2 : Wd) : Prop := (∀ o f, ¬ (o = 20 ∧ 10 ≤ f ∧ f ≤ 14) → w2 o f = w o f) ∧ TbC pl (w2 20) ∧ (¬ ((0 ≤ load ∧ load ≤ 480) ∧ 0 ≤ what ∧ what ≤ 1) → z = -1) ∧ (((0 ≤ load ∧ load ≤ 480) ∧ 0 ≤ what ∧ what ≤ 1) → ∃ b p, FB pl (liftX u) load (u 5 0) (bshl 1 (pl 0 0)) b p ∧ z = if b = -4 then -4 else if what = 0 then b else p)
abbrev q7_now (what : Int) (w : Wd) (z : Int) (w2 : Wd) : Prop := (∀ o2, o2 ≠ 11 → o2 ≠ 13 → w2 o2 = w o2) ∧ BsC (w 2) (w2 13) ∧ ShC (w 2) (w2 11) ∧ (what = 0 → z = madeX (w 2) (w 3)) ∧ (what = 1 → z = max 0 (w 3 0 0 - madeX (w 2) (w 3))) ∧ (what = 2 → z = max 0 (madeX (w 2) (w 3) - w 3 0 0)) ∧ (what = 3 → PowX (w 2) (w 3) z) ∧ (what = 4 → z = max 0 (sumB (runX (w 3)) (w 2 6) (w 2 0 0).toNat - w 3 0 1)) ∧ (what = 5 → z = liftX (w 3)) ∧ (what = 6 → (madeX (w 2) (w 3) ≠ w 3 0 0 → z = -4) ∧ (madeX (w 2) (w 3) = w 3 0 0 → ∃ v, BestS (w 2) (bkX (w 2) (liftX (w 3))) (openX w) (w 2 0 0).toNat (w 3 0 0) v ∧ (v < 1073741824 → ∃ e, PowX (w 2) (w 3) e ∧ z = e - bshr v 9) ∧ (¬ v < 1073741824 → z = -4))) ∧ ((what < 0 ∨ 6 < what) → z = -1)
abbrev q8_now (what : Int) (pl : Nat → Nat → Int) (u : Nat → Nat → Int) (w : Wd) (z : Int) (w2 : Wd) : Prop := (∀ o f, ¬ (o = 20 ∧ 10 ≤ f ∧ f ≤ 14) → w2 o f = w o f) ∧ TbC pl (w2 20) ∧ (what = 0 → z = madeX pl u) ∧ (what = 1 → z = max 0 (u 0 0 - madeX pl u)) ∧ (what = 2 → z = max 0 (madeX pl u - u 0 0)) ∧ (what = 3 → PowX pl u z) ∧ (what = 4 → z = max 0 (sumB (runX u) (pl 6) (pl 0 0).toNat - u 0 1)) ∧ (what = 5 → z = liftX u) ∧ (what = 6 → (madeX pl u ≠ u 0 0 → z = -4) ∧ (madeX pl u = u 0 0 → ∃ b p e, FB pl (liftX u) (u 0 0) (u 5 0) (bshl 1 (pl 0 0)) b p ∧ PowX pl u e ∧ z = if b = -4 then -4 else e - p)) ∧ ((what < 0 ∨ 6 < what) → z = -1)
abbrev q7_ahead (n : Int) (what : Int) (w : Wd) (z : Int) (w2 : Wd) : Prop := (∀ o2, o2 ≠ 4 → o2 ≠ 11 → w2 o2 = w o2) ∧ ShC (w 2) (w2 11) ∧ (¬ ((1 ≤ n ∧ n ≤ 60) ∧ 0 ≤ what ∧ what ≤ 3) → z = -1) ∧ (((1 ≤ n ∧ n ≤ 60) ∧ 0 ≤ what ∧ what ≤ 3) → ∃ q n1, AheadR (w 2) (w 3) n.toNat q n1 ∧ (what = 0 → z = cnt (runX q)) ∧ (what = 1 → z = sumN (q 12) 6 - sumN (w 3 12) 6) ∧ (what = 2 → z = q 4 0 - w 3 4 0) ∧ (what = 3 → z = n1))
abbrev q8_ahead (n : Int) (what : Int) (pl : Nat → Nat → Int) (u : Nat → Nat → Int) (w : Wd) (z : Int) (w2 : Wd) : Prop := (∀ o f, ¬ (o = 20 ∧ (f = 5 ∨ f = 6 ∨ (10 ≤ f ∧ f ≤ 13))) → w2 o f = w o f) ∧ TbC pl (w2 20) ∧ (∀ j, j < 101 → w2 20 5 j = w 20 5 j) ∧ (¬ ((1 ≤ n ∧ n ≤ 60) ∧ 0 ≤ what ∧ what ≤ 3) → z = -1) ∧ (((1 ≤ n ∧ n ≤ 60) ∧ 0 ≤ what ∧ what ≤ 3) → ∃ q n1, AheadF pl u n.toNat q n1 ∧ (what = 0 → z = cnt (runX q)) ∧ (what = 1 → z = sumN (q 12) 6 - sumN (u 12) 6) ∧ (what = 2 → z = q 4 0 - u 4 0) ∧ (what = 3 → z = n1))
abbrev q7_count (what : Int) (w : Wd) (z : Int) (w2 : Wd) : Prop := z = (cntV w what) ∧ w2 = w
abbrev q8_count (what : Int) (pl : Nat → Nat → Int) (u : Nat → Nat → Int) (w : Wd) (z : Int) (w2 : Wd) : Prop := z = (cntM pl u (w 20 8 0) (w 20 1 0) what) ∧ w2 = w
theorem up_ob {w : Wd} {o f j o2 : Nat} {v : Int} (h : o2 ≠ o) : up w o f j v o2 = w o2 := by
  funext f2 j2
  exact up_ne (fun z => h z.1)
theorem inv_text {w w2 x x2 : Wd} (h : INV w x) (a : ∀ o, o ≠ 1 → w2 o = w o) (b : ∀ f, f = 4 ∨ f = 5 ∨ f = 7 ∨ f = 8 ∨ f = 10 ∨ f = 11 ∨ f = 12 → x2 20 f = x 20 f) (ht : TextI w2 x2) : INV w2 x2 := by
  obtain ⟨⟨p1, p2⟩, hs, ⟨q1, q2, q3⟩, ⟨⟨k1, k2, k3⟩, k4⟩, -⟩ := h
  have e2 := a 2 (by decide)
  have e3 := a 3 (by decide)
  have e9 := a 9 (by decide)
  refine ⟨⟨by rw [e2]; exact p1, by rw [e2, b 4 (by decide)]; exact p2⟩, by rw [e2, e3, b 5 (by decide)]; exact hs, ⟨by rw [e9]; exact q1, by rw [e9, b 8 (by decide)]; exact q2, fun c hc => ?_⟩, ⟨⟨by rw [e2, a 11 (by decide)]; exact k1, by rw [e2, a 12 (by decide)]; exact k2, by rw [e2, a 13 (by decide)]; exact k3⟩, ?_⟩, ht⟩
  · rw [e9] at hc
    have ep : pcX w2 c = pcX w c := by unfold pcX; rw [e9]
    rw [ep, e2, a _ (by unfold pcX; omega), b 7 (by decide)]
    exact q3 c hc
  · unfold TbC
    rw [e2, b 10 (by decide), b 11 (by decide), b 12 (by decide)]
    exact k4
theorem k_write {w x w2 x2 : Wd} {c z z2 : Int} {t : Nat → Int} (h : INV w x) (a : q7_write c w z w2) (b : q8_write c t x z2 x2) : z = z2 ∧ INV w2 x2 := by
  obtain ⟨⟨t0, t1, t2⟩, t3, t4, t5⟩ := h.2.2.2.2
  rcases a with ⟨a1, a2, a3⟩ | ⟨a1, a2, a3, a4, a5⟩ | ⟨a1, a2, a3, a4, a5⟩
  · rcases b with ⟨b1, b2, b3⟩ | ⟨b1, b2, b3, b4, b5⟩ | ⟨b1, b2, b3, b4, b5⟩
    · rw [a3, b3]; exact ⟨by omega, h⟩
    · exfalso; omega
    · exfalso; omega
  · rcases b with ⟨b1, b2, b3⟩ | ⟨b1, b2, b3, b4, b5⟩ | ⟨b1, b2, b3, b4, b5⟩
    · exfalso; omega
    · rw [a5, b5]; exact ⟨by omega, h⟩
    · exfalso; omega
  · rcases b with ⟨b1, b2, b3⟩ | ⟨b1, b2, b3, b4, b5⟩ | ⟨b1, b2, b3, b4, b5⟩
    · exfalso; omega
    · exfalso; omega
    · refine ⟨by omega, ?_⟩
      rw [a5, b5, t3]
      refine inv_text h (fun o ho => by rw [up_ob ho, up_ob ho]) (fun f hf => by rw [up_fn (by omega), up_fn (by omega)]) ⟨⟨?_, fun j hj => ?_, fun j hj => ?_⟩, ?_, fun j hj => ?_, fun j hj => ?_⟩
      · rw [up_at]; omega
      · rw [up_ne (by omega)]
        by_cases e : j = (w 1 0 0).toNat
        · rw [e, up_at]; omega
        · rw [up_ne (by omega)]; exact t1 j hj
      · rw [up_ne (by omega), up_ne (by omega)]; exact t2 j hj
      · rw [up_at, up_at]
      · rw [up_at] at hj
        rw [up_ne (o := 20) (f := 1) (by omega), up_ne (o := 1) (f := 0) (by omega)]
        by_cases e : j = (w 1 0 0).toNat
        · rw [e, up_at, up_at]
        · rw [up_ne (by omega), up_ne (by omega)]; exact t4 j (by omega)
      · rw [up_ne (by omega), up_ne (by omega)]; exact t5 j hj
theorem k_wipe {w x w2 x2 : Wd} {z z2 : Int} {t : Nat → Int} (h : INV w x) (a : q7_wipe w z w2) (b : q8_wipe t x z2 x2) : z = z2 ∧ INV w2 x2 := by
  obtain ⟨⟨t0, t1, t2⟩, t3, t4, t5⟩ := h.2.2.2.2
  obtain ⟨a1, a2⟩ := a
  obtain ⟨b1, b2⟩ := b
  refine ⟨by omega, ?_⟩
  rw [a2, b2]
  refine inv_text h (fun o ho => by rw [up_ob ho]) (fun f hf => by rw [up_fn (by omega)]) ⟨⟨?_, fun j hj => ?_, fun j hj => ?_⟩, ?_, fun j hj => ?_, fun j hj => ?_⟩
  · rw [up_at]; omega
  · rw [up_ne (by omega)]; exact t1 j hj
  · rw [up_ne (by omega)]; exact t2 j hj
  · rw [up_at, up_at]
  · rw [up_at] at hj; omega
  · rw [up_ne (by omega)]; exact t5 j hj
/-- the text is read on both sides; nothing else -/
theorem inv_read {w w2 x x2 : Wd} (h : INV w x) (a : ∀ o2 f j, ¬ (o2 = 1 ∧ f = 2) → w2 o2 f j = w o2 f j) (a9 : ∀ j : Nat, j < 6 → 0 ≤ w2 1 2 j ∧ w2 1 2 j ≤ 99) (b : ∀ o f, ¬ (o = 20 ∧ (f = 2 ∨ f = 3 ∨ f = 9)) → x2 o f = x o f) (b9 : ∀ j : Nat, j < 6 → 0 ≤ x2 20 9 j ∧ x2 20 9 j ≤ 99) : INV w2 x2 := by
  obtain ⟨⟨t0, t1, t2⟩, t3, t4, t5⟩ := h.2.2.2.2
  have e1 : w2 1 0 0 = w 1 0 0 := a 1 0 0 (by decide)
  refine inv_text h (fun o ho => by funext f j; exact a o f j (by omega)) (fun f hf => b 20 f (by omega)) ⟨⟨by rw [e1]; exact t0, fun j hj => ?_, a9⟩, ?_, fun j hj => ?_, b9⟩
  · rw [a 1 1 j (by decide)]; exact t1 j hj
  · rw [e1, b 20 1 (by decide)]; exact t3
  · rw [e1] at hj
    rw [a 1 1 j (by decide), b 20 0 (by decide)]
    exact t4 j hj
theorem k_fault {w x w2 x2 : Wd} {z z2 : Int} {u0 : Nat → Nat → Int} (h : INV w x) (a : q7_fault w z w2) (b : q8_fault (w 1 1) u0 x z2 x2) : z = z2 ∧ INV w2 x2 := by
  obtain ⟨a1, a2, a3⟩ := a
  obtain ⟨b1, b2, b3, b4, b5⟩ := b
  have t3 := h.2.2.2.2.2.1
  rw [t3] at b4
  exact ⟨by rw [a1, b4], inv_read h a2 a3 b1 b3⟩
theorem cnt_0 : cnt 0 = 0 := by decide
theorem bor_00 : bor 0 0 = 0 := by decide
theorem hst_res {n : Int} {u : Nat → Nat → Int} {D : Nat → Int} (h : ResX u) (hg : ∀ j, j < 54 → 0 ≤ u 13 j ∧ u 13 j ≤ 100000) (hD : ∀ j, j < 101 → D j = d0X j) : HSt n u D := by
  have hr := rs_res h hD
  obtain ⟨⟨a0, a1, a2, a3⟩, ⟨b1, b2, b3, b4, b5, b6, b7, b8, b9⟩, c⟩ := h
  have hsb : ∀ (m : Nat) (k : Int), m < 6 → 1 ≤ k → sbX u m k = -100000 := fun m k hm hk => by
    unfold sbX
    rw [show ((m : Nat) : Int).toNat = m from rfl, if_pos]
    rw [(c m hm).2.1]; omega
  have hrun : runX u = 0 := by unfold runX; rw [b6, b7]; exact bor_00
  refine ⟨⟨⟨by omega, by omega, by omega, by omega⟩, ⟨by omega, by omega, by omega⟩, ⟨by omega, by omega, by omega⟩, ⟨by omega, by omega⟩, fun j hj => by omega, fun j hj => ?_, hg, fun k _ _ => by rw [b6, b7, tb_0]; exact ⟨rfl, rfl⟩⟩, by omega, ⟨fun m hm => by rw [b6, b7, tb_0]; decide, fun i j _ hj => by omega, fun j hj => by omega, fun k _ _ => by rw [b5, tb_0], fun m hm => ⟨?_, fun k k1 k2 => ?_⟩, by rw [hrun, b9, cnt_0]; decide⟩, hr⟩
  · obtain ⟨c1, c2, c3⟩ := c j hj
    omega
  · rw [hsb m 1 hm (by omega)]; omega
  · rw [hsb m _ hm (by omega), hsb m _ hm (by omega)]; exact Int.le_refl _
theorem k_lay {w x w2 x2 : Wd} {z z2 : Int} (h : INV w x) (a : q7_lay w z w2) (b : q8_lay (w 1 1) (w 2) x z2 x2) : z = z2 ∧ INV w2 x2 := by
  obtain ⟨⟨t0, t1, t2⟩, t3, t4, t5⟩ := h.2.2.2.2
  unfold q8_lay at b
  rw [t3] at b
  rcases a with ⟨a1, a2, a3, a4⟩ | ⟨a1, a2, a3, a4, a5, a6, a7, a8, a9, a10, a11, a12, a13, a14⟩
  · rcases b with ⟨b1, b2, b3, b4, b5⟩ | ⟨b1, b2, b3, b4, b5, b6, b7, b8, b9, b10⟩
    · exact ⟨by rw [a2, b2], inv_read h a3 a4 b3 b5⟩
    · exfalso
      rcases a1 with q | q
      · exact q b1
      · exact b2 (by rw [← text_cnt t0.1 t0.2 b1]; exact q)
  · have hc := text_cnt (t := w 1 1) t0.1 t0.2 a1
    rcases b with ⟨b1, b2, b3, b4, b5⟩ | ⟨b1, b2, b3, b4, b5, b6, b7, b8, b9, b10⟩
    · exfalso
      rcases b1 with q | q
      · exact q a1
      · exact a2 (by rw [hc]; exact q)
    · have hn := plX_n (u := w 2) t0.1 a1 200 (Nat.le_refl _)
      have hp := pv_pl (u := w 2) t0.1 a1 b2
      have hr13 : ∀ j, j < 54 → 0 ≤ w2 3 13 j ∧ w2 3 13 j ≤ 100000 := fun j hj => by rw [a6 j]; exact h.2.1.1.2.2.2.2.2.2.1 j hj
      have hpast := h.2.2.1.1
      have e10 : w2 1 0 0 = w 1 0 0 := by rw [a12]
      refine ⟨by rw [a4, b3, a3, hn], ⟨by rw [a3]; exact hp, by rw [a3]; exact b4⟩, hst_res a5 hr13 b7, ⟨⟨by rw [a8]; exact hpast.1, by rw [a7]; decide⟩, by rw [b5, a7], fun c hc => by rw [a7] at hc; omega⟩, ⟨⟨Or.inl a9, Or.inl a10, Or.inl a11⟩, Or.inl b6⟩, ⟨⟨by rw [e10]; exact t0, fun j hj => by rw [a13]; exact t1 j hj, a14⟩, ?_, fun j hj => ?_, b10⟩⟩
      · rw [b8 20 1 (by decide), e10]; exact t3
      · rw [e10] at hj
        rw [b8 20 0 (by decide), a13]; exact t4 j hj
theorem sv_tell {B n what v : Int} {u : Nat → Nat → Int} (h : SV B n u) (ho : okTell what v) : SV B n (fu u 0 what.toNat v) := by
  obtain ⟨a, b, c, d, e, f, g, i⟩ := h
  obtain ⟨o1, o2, o3, o4⟩ := ho
  refine ⟨?_, by rw [fuf (by decide), fuf (by decide), fuf (by decide)]; exact b, by rw [fuf (by decide), fuf (by decide), fuf (by decide)]; exact c, by rw [fuf (by decide), fuf (by decide)]; exact d, ?_, ?_, ?_, ?_⟩
  · rcases (show what = 0 ∨ what = 1 ∨ what = 2 ∨ what = 3 by omega) with q | q | q | q <;> subst q
    · have o3 : (0 : Int) ≤ v := o3
      have o4 : v ≤ (480 : Int) := o4
      refine ⟨?_, ?_, ?_, ?_⟩
      · rw [show (0 : Int).toNat = 0 from rfl, fu_at]; exact ⟨o3, o4⟩
      · rw [fu_ne (by decide)]; exact a.2.1
      · rw [fu_ne (by decide)]; exact a.2.2.1
      · rw [fu_ne (by decide)]; exact a.2.2.2
    · have o3 : (0 : Int) ≤ v := o3
      have o4 : v ≤ (240 : Int) := o4
      refine ⟨?_, ?_, ?_, ?_⟩
      · rw [fu_ne (by decide)]; exact a.1
      · rw [show (1 : Int).toNat = 1 from rfl, fu_at]; exact ⟨o3, o4⟩
      · rw [fu_ne (by decide)]; exact a.2.2.1
      · rw [fu_ne (by decide)]; exact a.2.2.2
    · have o3 : (0 : Int) ≤ v := o3
      have o4 : v ≤ (45 : Int) := o4
      refine ⟨?_, ?_, ?_, ?_⟩
      · rw [fu_ne (by decide)]; exact a.1
      · rw [fu_ne (by decide)]; exact a.2.1
      · rw [show (2 : Int).toNat = 2 from rfl, fu_at]; exact ⟨o3, o4⟩
      · rw [fu_ne (by decide)]; exact a.2.2.2
    · have o3 : (4 : Int) ≤ v := o3
      have o4 : v ≤ (14 : Int) := o4
      refine ⟨?_, ?_, ?_, ?_⟩
      · rw [fu_ne (by decide)]; exact a.1
      · rw [fu_ne (by decide)]; exact a.2.1
      · rw [fu_ne (by decide)]; exact a.2.2.1
      · rw [show (3 : Int).toNat = 3 from rfl, fu_at]; exact ⟨o3, o4⟩
  · rw [fuf (by decide), fuf (by decide)]; exact e
  · rw [fuf (by decide), fuf (by decide), fuf (by decide)]; exact f
  · rw [fuf (by decide)]; exact g
  · rw [fuf (by decide), fuf (by decide)]; exact i
theorem k_tell {w x w2 x2 : Wd} {what v z z2 : Int} (h : INV w x) (a : q7_tell what v w z w2) (b : q8_tell what v (w 2) (w 3) x z2 x2) : z = z2 ∧ INV w2 x2 := by
  rcases a with ⟨a1, a2, a3⟩ | ⟨a0, a1, a2, a3⟩ | ⟨a0, a1, a2, a3, a4⟩
  · rcases b with ⟨b1, b2, b3⟩ | ⟨b0, b1, b2, b3⟩ | ⟨b0, b1, b2, b3, b4, b5, b6⟩
    · rw [a3, b3]; exact ⟨by omega, h⟩
    · exact absurd b0 a1
    · exact absurd b0 a1
  · rcases b with ⟨b1, b2, b3⟩ | ⟨b0, b1, b2, b3⟩ | ⟨b0, b1, b2, b3, b4, b5, b6⟩
    · exact absurd a0 b1
    · rw [a3, b3]; exact ⟨by omega, h⟩
    · exact absurd a1 b1
  · rcases b with ⟨b1, b2, b3⟩ | ⟨b0, b1, b2, b3⟩ | ⟨b0, b1, b2, b3, b4, b5, b6⟩
    · exact absurd a0 b1
    · exact absurd b1 a1
    · have hs := h.2.1
      have hk := h.2.2.2.1.1.1
      have hnx := h.2.2.1.1.1
      refine ⟨by rw [a2, b2], inv_chg h a3 (fun o q => q.elim) ?_ b4 b5 b6 ?_⟩
      · rw [a3.2.2.2 11 (by decide) (by omega) (by decide) (fun q => q)]; exact hk
      · rw [a4]
        have e1 : fu (w 3) 0 what.toNat v 1 0 = w 3 1 0 := fu_ne (by omega)
        exact ⟨by rw [e1]; exact sv_tell hs.1 a0, by rw [e1]; exact hs.2.1, su_misc hs.2.2.1 (fun f hf => fuf (by omega)) (by rw [e1]; exact Int.le_refl _), b3⟩
theorem lock_go {pl u : Nat → Nat → Int} {B m is_ : Int} (hp : PV pl) (hS : SV B (pl 0 0) u) (hU : SU (pl 0 0) u) (hm : 0 ≤ m ∧ m < pl 0 0) (hi : 0 ≤ is_ ∧ is_ ≤ 1) : (SV B (pl 0 0) (lockX u m is_) ∧ SU (pl 0 0) (lockX u m is_)) ∧ lockX u m is_ 1 0 = u 1 0 := by
  have hp0 := hp.1
  have h5 := hS.2.2.1.1
  have hbs := bt_set (s := u 5 0) (m := m) (by omega) (by omega) hm.1 (by omega)
  have hbc := bt_clr (s := u 5 0) (m := m) (by omega) (by omega) hm.1 (by omega)
  by_cases e : is_ = 1
  · have hlk : lockX u m is_ = tkX (spX (fu u 5 0 (setB (u 5 0) m)) m) m := by unfold lockX; rw [if_pos e]
    have hUa : SU (pl 0 0) (fu u 5 0 (setB (u 5 0) m)) := su_lk hU (fun k a b => by
      rw [hbs.2.2 k b, if_neg (by omega)]
      exact hU.2.2.2.1 k a b)
    have hSa : SV B (pl 0 0) (fu u 5 0 (setB (u 5 0) m)) := sv_fu5 hS ⟨hbs.1, hbs.2.1⟩
    have hs2 := sv_sp (m := m) hSa hm.1 (by omega)
    have hu2 := sp_su (m := m) hSa hUa hm.1 (by omega) (by omega)
    rw [hlk]
    refine ⟨⟨sv_tk hs2, (su_tk hu2 hs2.2.2.2.1.2 m).1⟩, ?_⟩
    rw [(tk_1 _ _).1, (sp_1 _ _).1, fu_ne (by decide)]
  · have hlk : lockX u m is_ = fu u 5 0 (clrB (u 5 0) m) := by unfold lockX; rw [if_neg e]
    rw [hlk]
    refine ⟨⟨sv_fu5 hS ⟨hbc.1, hbc.2.1⟩, su_lk hU (fun k a b => ?_)⟩, fu_ne (by decide)⟩
    rw [hbc.2.2 k b, if_neg (by omega)]
    exact hU.2.2.2.1 k a b
theorem k_lock {w x w2 x2 : Wd} {m is_ z z2 : Int} (h : INV w x) (a : q7_lock m is_ w z w2) (b : q8_lock m is_ (w 2) (w 3) x z2 x2) : z = z2 ∧ INV w2 x2 := by
  rcases a with ⟨a1, a2, a3⟩ | ⟨a0, a1, a2, a3⟩ | ⟨a0, a1, a2, a3, a4⟩
  · rcases b with ⟨b1, b2, b3⟩ | ⟨b0, b1, b2, b3⟩ | ⟨b0, b1, b2, b3, b4, b5, b6⟩
    · rw [a3, b3]; exact ⟨by omega, h⟩
    · exact absurd b0 a1
    · exact absurd b0 a1
  · rcases b with ⟨b1, b2, b3⟩ | ⟨b0, b1, b2, b3⟩ | ⟨b0, b1, b2, b3, b4, b5, b6⟩
    · exact absurd a0 b1
    · rw [a3, b3]; exact ⟨by omega, h⟩
    · exact absurd a1 b1
  · rcases b with ⟨b1, b2, b3⟩ | ⟨b0, b1, b2, b3⟩ | ⟨b0, b1, b2, b3, b4, b5, b6⟩
    · exact absurd a0 b1
    · exact absurd b1 a1
    · have hs := h.2.1
      have hk := h.2.2.2.1.1.1
      have hnx := h.2.2.1.1.1
      obtain ⟨g1, g2⟩ := lock_go (is_ := is_) h.1.1 hs.1 hs.2.2.1 a0.1 a0.2
      refine ⟨by rw [a2, b2, a4], inv_chg h a3 (fun o q => q.elim) ?_ b4 b5 b6 ?_⟩
      · rw [a3.2.2.2 11 (by decide) (by omega) (by decide) (fun q => q)]; exact hk
      · rw [a4]
        exact ⟨by rw [g2]; exact g1.1, by rw [g2]; exact hs.2.1, g1.2, b3⟩
theorem pt_1 (u : Nat → Nat → Int) (m : Int) : ptX u m 1 0 = u 1 0 := by rw [(pt_at u m).1 1 (by decide) (by decide)]
theorem fl_go {pl u : Nat → Nat → Int} {D : Nat → Int} (hp : PV pl) {B : Int} (hS : SV B (pl 0 0) u) (hU : SU (pl 0 0) u) (hR : RS u D) : ∀ k, SU (pl 0 0) (flX pl u k).1 ∧ (flX pl u k).2 = runX (flX pl u k).1 ∧ (flX pl u k).1 1 0 = u 1 0 ∧ ∃ E, RS (flX pl u k).1 E
  | 0 => ⟨hU, rfl, rfl, D, hR⟩
  | k + 1 => by
    obtain ⟨i1, i2, i3, E, i4⟩ := fl_go hp hS hU hR k
    have hv := fl_inv hp hS hU.2.2.2.2.2 k
    by_cases e : (flX pl u k).2 = 0
    · have e2 : flX pl u (k + 1) = flX pl u k := flX_stop pl u k e 1
      rw [e2]
      exact ⟨i1, i2, i3, E, i4⟩
    · have hst := fl_step hp hv.1 i1 i4 (by rw [← i2]; exact e) (by rw [← i2]; exact hv.2.2.1)
      rw [← i2] at hst
      rw [fl_1 pl u k e, fl_2 pl u k e]
      exact ⟨hst.2.1, hst.2.2.2.1.symm, by rw [pt_1, (sp_1 _ _).1]; exact i3, _, hst.1⟩
theorem k_dip {w x w2 x2 : Wd} {z z2 : Int} (h : INV w x) (a : q7_dip w z w2) (b : q8_dip (w 2) (w 3) x z2 x2) : z = z2 ∧ INV w2 x2 := by
  obtain ⟨a1, a2, a3⟩ := a
  obtain ⟨b1, b2, b3, b4, b5⟩ := b
  have hs := h.2.1
  have hk := h.2.2.2.1.1.1
  have hnx := h.2.2.1.1.1
  have h0 := hs.1.2.1.1
  obtain ⟨g1, g2, g3, -⟩ := fl_go h.1.1 hs.1 hs.2.2.1 hs.2.2.2 6
  have g4 := (fl_inv h.1.1 hs.1 hs.2.2.1.2.2.2.2.2 6).1
  have e1 : dipX (w 2) (w 3) 1 0 = w 3 1 0 := by unfold dipX; rw [fu_ne (by decide), fu_ne (by decide)]; exact g3
  refine ⟨by rw [a1, b1], inv_chg h a2 (fun o q => q.elim) ?_ b3 b4 b5 ?_⟩
  · rw [a2.2.2.2 11 (by decide) (by omega) (by decide) (fun q => q)]; exact hk
  · rw [a3]
    refine ⟨?_, by rw [e1]; exact hs.2.1, ?_, b2⟩
    · rw [e1]
      unfold dipX
      exact sv_fu3 (sv_fu2 g4 (by decide) (by omega)) (by decide) (by omega)
    · unfold dipX
      exact su_f3 (su_f2 g1 _) _
theorem tick_go {pl u : Nat → Nat → Int} (hp : PV pl) (hS : SV (9 * u 1 0) (pl 0 0) u) : ∀ (k : Nat) (q : Nat → Nat → Int), u 1 0 + k ≤ 9999 → TickR pl u k q → SV (9 * (u 1 0 + k)) (pl 0 0) q ∧ q 1 0 = u 1 0 + k
  | 0, q, _, hq => by
    have e : q = u := hq
    rw [e, show u 1 0 + ((0 : Nat) : Int) = u 1 0 by omega]
    exact ⟨hS, rfl⟩
  | k + 1, q, hk, ⟨p, e, a, b, c⟩ => by
    obtain ⟨i1, i2⟩ := tick_go hp hS k p (by omega) a
    rw [c, (ps_1 _ _ _).1, i2]
    exact ⟨sv_mono (sv_ps hp i1 (by omega)) (by omega), by omega⟩
theorem k_tick {w x w2 x2 : Wd} {n z z2 : Int} (h : INV w x) (a : q7_tick n w z w2) (b : q8_tick n (w 2) (w 3) x z2 x2) : z = z2 ∧ INV w2 x2 := by
  rcases a with ⟨a1, a2, a3⟩ | ⟨a0, a1, a2, a3, a4⟩ | ⟨a0, a1, a2, a3, a4, a5, a6⟩
  · rcases b with ⟨b1, b2, b3⟩ | ⟨b0, b1, b2, b3, b4⟩ | ⟨b0, b1, b2, q, b3⟩
    · rw [a3, b3]; exact ⟨by omega, h⟩
    · exfalso; omega
    · exfalso; omega
  · rcases b with ⟨b1, b2, b3⟩ | ⟨b0, b1, b2, b3, b4⟩ | ⟨b0, b1, b2, q, b3⟩
    · exfalso; omega
    · rw [a4, b4]; exact ⟨by omega, h⟩
    · exfalso; omega
  · rcases b with ⟨b1, b2, b3⟩ | ⟨b0, b1, b2, b3, b4⟩ | ⟨b0, b1, b2, q, b3, b4, b5, b6, b7, b8, b9⟩
    · exfalso; omega
    · exfalso; omega
    · have hq := tick_uq _ _ _ b3 a6
      subst hq
      have hs := h.2.1
      obtain ⟨g1, g2⟩ := tick_go h.1.1 hs.1 n.toNat _ (by omega) a6
      refine ⟨by rw [a3, b4], inv_chg h a4 (fun o q => q) a5 b7 b8 b9 ⟨?_, by omega, b6, b5⟩⟩
      rw [g2]; exact g1
theorem k_undo {w x w2 x2 : Wd} {z z2 : Int} (h : INV w x) (a : q7_undo w z w2) (b : q8_undo x z2 x2) : z = z2 ∧ INV w2 x2 := by
  have h' := h
  obtain ⟨⟨p1, p2⟩, hs, ⟨q1, q2, q3⟩, ⟨⟨k1, k2, k3⟩, k4⟩, ⟨t0, t1, t2, t3⟩⟩ := h'
  rcases a with ⟨a1, a2, a3⟩ | ⟨a1, a2, a3, a4, a5, a6⟩
  · rcases b with ⟨b1, b2, b3⟩ | ⟨b1, b2, b3, b4, b5⟩
    · rw [a3, b3]; exact ⟨by omega, h⟩
    · exfalso; omega
  · rcases b with ⟨b1, b2, b3⟩ | ⟨b1, b2, b3, b4, b5⟩
    · exfalso; omega
    · have e2 := a6 2 (by decide) (by decide)
      have e1 := a6 1 (by decide) (by decide)
      have fx : ∀ f, f ≠ 5 → f ≠ 8 → x2 20 f = x 20 f := fun f f1 f2 => b3 20 f (by omega)
      refine ⟨by omega, ⟨by rw [e2]; exact p1, by rw [e2, fx 4 (by decide) (by decide)]; exact p2⟩, ?_, ⟨⟨by rw [a4]; omega, by rw [a5]; omega⟩, by rw [b4, a5]; omega, fun c hc => ?_⟩, ⟨⟨by rw [e2, a6 11 (by decide) (by decide)]; exact k1, by rw [e2, a6 12 (by decide) (by decide)]; exact k2, by rw [e2, a6 13 (by decide) (by decide)]; exact k3⟩, ?_⟩, ⟨by rw [e1]; exact t0, by rw [e1, fx 1 (by decide) (by decide)]; exact t1, by rw [e1, fx 0 (by decide) (by decide)]; exact t2, by rw [fx 9 (by decide) (by decide)]; exact t3⟩⟩
      · rw [e2]
        have g := q3 (w 9 0 0 - 1).toNat (by omega)
        have ep : pcX w (w 9 0 0 - 1).toNat = 5 + ((w 9 1 0 + 3) % 4).toNat := by unfold pcX; omega
        rw [ep] at g
        refine hst_inS g a3 (fun k hk => ?_)
        rw [b5 k hk, q2]
      · rw [a5] at hc
        have ep : pcX w2 c = pcX w c := by unfold pcX; rw [a4, a5]; omega
        rw [ep, e2, a6 _ (by unfold pcX; omega) (by unfold pcX; omega), fx 7 (by decide) (by decide)]
        exact q3 c (by omega)
      · unfold TbC
        rw [e2, fx 10 (by decide) (by decide), fx 11 (by decide) (by decide), fx 12 (by decide) (by decide)]
        exact k4
theorem k_machine {w x w2 x2 : Wd} {m what z z2 : Int} (h : INV w x) (a : q7_machine m what w z w2) (b : q8_machine m what (w 2) (w 3) x z2 x2) : z = z2 ∧ INV w2 x2 := by
  obtain ⟨a1, a2, a3, a4, a5⟩ := a
  obtain ⟨b1, b2, b3, b4, b5⟩ := b
  have hk := h.2.2.2.1.1
  refine ⟨?_, inv_same h (fun o ho _ => a1 o (by omega)) a2 (by rw [a1 12 (by decide)]; exact hk.2.1) (by rw [a1 13 (by decide)]; exact hk.2.2) (fun f hf => b1 20 f (by omega)) (fun j hj => by rw [b1 20 5 (by decide)]) b2⟩
  by_cases hm : 0 ≤ m ∧ m < w 2 0 0
  · by_cases h11 : what = 11
    · obtain ⟨v, v1, v2⟩ := a5 hm h11
      obtain ⟨v', v3, v4⟩ := b5 hm h11
      rw [v2, v4, best_uq v1 v3]
    · rw [a4 hm h11, b4 hm h11]
  · rw [a3 hm, b3 hm]
theorem k_power {w x w2 x2 : Wd} {m load lift z z2 : Int} (h : INV w x) (a : q7_power m load lift w z w2) (b : q8_power m load lift (w 2) x z2 x2) : z = z2 ∧ INV w2 x2 := by
  obtain ⟨a1, a2⟩ := a
  obtain ⟨b1, b2⟩ := b
  rw [a2, b2]
  exact ⟨by rw [a1, b1], h⟩
theorem k_share {w x w2 x2 : Wd} {set load m z z2 : Int} (h : INV w x) (a : q7_share set load m w z w2) (b : q8_share set load m (w 2) (w 3) x z2 x2) : z = z2 ∧ INV w2 x2 := by
  obtain ⟨a1, a2, a3, a4, a5⟩ := a
  obtain ⟨b1, b2, b3, b4, b5⟩ := b
  have hk := h.2.2.2.1.1
  refine ⟨?_, inv_same h (fun o ho _ => a1 o (by omega)) (by rw [a1 11 (by decide)]; exact hk.1) a2 (by rw [a1 13 (by decide)]; exact hk.2.2) (fun f hf => b1 20 f (by omega)) (fun j hj => by rw [b1 20 5 (by decide)]) b2⟩
  by_cases hm : (0 ≤ set ∧ set ≤ bshl 1 (w 2 0 0) - 1) ∧ (0 ≤ load ∧ load ≤ 480) ∧ (m = -1 ∨ (0 ≤ m ∧ m < w 2 0 0))
  · by_cases hc : CanX (w 2) set load
    · obtain ⟨v, v1, v2⟩ := a5 hm hc
      rw [v2, b5 hm hc v v1]
    · rw [a4 hm hc, b4 hm hc]
  · rw [a3 hm, b3 hm]
theorem lift_in {B n : Int} {u : Nat → Nat → Int} (h : SV B n u) : 0 ≤ liftX u ∧ liftX u ≤ 45 := by
  have a := h.1
  unfold liftX
  omega
theorem k_best {w x w2 x2 : Wd} {load what z z2 : Int} (h : INV w x) (a : q7_best load what w z w2) (b : q8_best load what (w 2) (w 3) x z2 x2) : z = z2 ∧ INV w2 x2 := by
  obtain ⟨a1, a2, a3, a4⟩ := a
  obtain ⟨b1, b2, b3, b4⟩ := b
  have hk := h.2.2.2.1.1
  have hs := h.2.1.1
  have h5 := hs.2.2.1.1
  refine ⟨?_, inv_same h (fun o ho _ => a1 o (by omega)) (by rw [a1 11 (by decide)]; exact hk.1) (by rw [a1 12 (by decide)]; exact hk.2.1) a2 (fun f hf => b1 20 f (by omega)) (fun j hj => by rw [b1 20 5 (by decide)]) b2⟩
  by_cases hm : (0 ≤ load ∧ load ≤ 480) ∧ 0 ≤ what ∧ what ≤ 1
  · obtain ⟨v, v1, v2⟩ := a4 hm
    obtain ⟨bb, p, v3, v4⟩ := b4 hm
    obtain ⟨e1, e2⟩ := fb_end h.1.1 (lift_in hs) h5.1 h5.2 v3 v1
    rw [v2, v4]
    by_cases hv : v < 1073741824
    · obtain ⟨f1, f2, f3, f4⟩ := e1 hv
      rw [if_pos hv, if_neg f3, band63 f4 (by omega), bshr_eq ⟨by omega, by omega⟩ (by decide) (by decide), f1, f2]
      rfl
    · rw [if_neg hv, if_pos (e2 hv)]
  · rw [a3 hm, b3 hm]
theorem k_now {w x w2 x2 : Wd} {what z z2 : Int} (h : INV w x) (a : q7_now what w z w2) (b : q8_now what (w 2) (w 3) x z2 x2) : z = z2 ∧ INV w2 x2 := by
  obtain ⟨a1, a2, a3, c0, c1, c2, c3, c4, c5, c6, c7⟩ := a
  obtain ⟨b1, b2, d0, d1, d2, d3, d4, d5, d6, d7⟩ := b
  have hk := h.2.2.2.1.1
  have hs := h.2.1.1
  have h5 := hs.2.2.1.1
  refine ⟨?_, inv_same h (fun o ho _ => a1 o (by omega) (by omega)) a3 (by rw [a1 12 (by decide) (by decide)]; exact hk.2.1) a2 (fun f hf => b1 20 f (by omega)) (fun j hj => by rw [b1 20 5 (by decide)]) b2⟩
  rcases (show what = 0 ∨ what = 1 ∨ what = 2 ∨ what = 3 ∨ what = 4 ∨ what = 5 ∨ what = 6 ∨ (what < 0 ∨ 6 < what) by omega) with q | q | q | q | q | q | q | q
  · rw [c0 q, d0 q]
  · rw [c1 q, d1 q]
  · rw [c2 q, d2 q]
  · exact pow_uq (c3 q) (d3 q)
  · rw [c4 q, d4 q]
  · rw [c5 q, d5 q]
  · obtain ⟨s1, s2⟩ := c6 q
    obtain ⟨s3, s4⟩ := d6 q
    by_cases hm : madeX (w 2) (w 3) = w 3 0 0
    · obtain ⟨v, v1, v2, v3⟩ := s2 hm
      obtain ⟨bb, p, e, u1, u2, u3⟩ := s4 hm
      obtain ⟨e1, e2⟩ := fb_end h.1.1 (lift_in hs) h5.1 h5.2 u1 v1
      by_cases hv : v < 1073741824
      · obtain ⟨f1, f2, f3, f4⟩ := e1 hv
        obtain ⟨e', g1, g2⟩ := v2 hv
        rw [g2, u3, if_neg f3, f2, bshr_eq ⟨by omega, by omega⟩ (by decide) (by decide), pow_uq g1 u2]
        rfl
      · rw [v3 hv, u3, if_pos (e2 hv)]
    · rw [s1 hm, s3 hm]
  · rw [c7 q, d7 q]
theorem sum6_cg {f g : Nat → Int} : ∀ n, (∀ j, j < n → f j = g j) → sumN f n = sumN g n
  | 0, _ => rfl
  | n + 1, h => by
    show sumN f n + f n = sumN g n + g n
    rw [sum6_cg n (fun j hj => h j (by omega)), h n (by omega)]
/-- the state that the trial begins from -/
theorem k_ahead0 {w w2 : Wd} {n what z : Int} (a : q7_ahead n what w z w2) : ∃ v : Nat → Nat → Int, (∀ f j, inS f j → v f j = w 3 f j) ∧ (((1 ≤ n ∧ n ≤ 60) ∧ 0 ≤ what ∧ what ≤ 3) → ∃ q n1, AheadF (w 2) v n.toNat q n1 ∧ (what = 0 → z = cnt (runX q)) ∧ (what = 1 → z = sumN (q 12) 6 - sumN (w 3 12) 6) ∧ (what = 2 → z = q 4 0 - w 3 4 0) ∧ (what = 3 → z = n1)) := by
  obtain ⟨a1, a2, a3, a4⟩ := a
  by_cases hm : (1 ≤ n ∧ n ≤ 60) ∧ 0 ≤ what ∧ what ≤ 3
  · obtain ⟨q, n1, g1, g2⟩ := a4 hm
    obtain ⟨v, v1, v2⟩ := ahead_f _ _ _ g1
    exact ⟨v, v1, fun _ => ⟨q, n1, v2, g2⟩⟩
  · exact ⟨w 3, fun _ _ _ => rfl, fun h => absurd h hm⟩
theorem k_ahead {w x w2 x2 : Wd} {n what z z2 : Int} {v : Nat → Nat → Int} (h : INV w x) (a : q7_ahead n what w z w2) (hv : ∀ f j, inS f j → v f j = w 3 f j) (a5 : ((1 ≤ n ∧ n ≤ 60) ∧ 0 ≤ what ∧ what ≤ 3) → ∃ q n1, AheadF (w 2) v n.toNat q n1 ∧ (what = 0 → z = cnt (runX q)) ∧ (what = 1 → z = sumN (q 12) 6 - sumN (w 3 12) 6) ∧ (what = 2 → z = q 4 0 - w 3 4 0) ∧ (what = 3 → z = n1)) (b : q8_ahead n what (w 2) v x z2 x2) : z = z2 ∧ INV w2 x2 := by
  obtain ⟨a1, a2, a3, a4⟩ := a
  obtain ⟨b1, b2, b3, b4, b5⟩ := b
  have hk := h.2.2.2.1.1
  refine ⟨?_, inv_same h (fun o ho h4 => a1 o h4 (by omega)) a2 (by rw [a1 12 (by decide) (by decide)]; exact hk.2.1) (by rw [a1 13 (by decide) (by decide)]; exact hk.2.2) (fun f hf => b1 20 f (by omega)) b3 b2⟩
  by_cases hm : (1 ≤ n ∧ n ≤ 60) ∧ 0 ≤ what ∧ what ≤ 3
  · obtain ⟨q, n1, g1, g2, g3, g4, g5⟩ := a5 hm
    obtain ⟨q', n1', k1, k2, k3, k4, k5⟩ := b5 hm
    obtain ⟨e1, e2⟩ := aheadf_uq _ _ _ _ _ g1 k1
    subst e1
    have s12 : sumN (v 12) 6 = sumN (w 3 12) 6 := sum6_cg 6 (fun j hj => hv 12 j (Or.inr (Or.inr (Or.inl ⟨Or.inr (Or.inr (Or.inl rfl)), hj⟩))))
    have s4 : v 4 0 = w 3 4 0 := hv 4 0 (Or.inr (Or.inl ⟨by decide, by decide, rfl⟩))
    rcases (show what = 0 ∨ what = 1 ∨ what = 2 ∨ what = 3 by omega) with e | e | e | e
    · rw [g2 e, k2 e]
    · rw [g3 e, k3 e, s12]
    · rw [g4 e, k4 e, s4]
    · rw [g5 e, k5 e, e2]
  · rw [a3 hm, b4 hm]
theorem k_count {w x w2 x2 : Wd} {what z z2 : Int} (h : INV w x) (a : q7_count what w z w2) (b : q8_count what (w 2) (w 3) x z2 x2) : z = z2 ∧ INV w2 x2 := by
  obtain ⟨a1, a2⟩ := a
  obtain ⟨b1, b2⟩ := b
  rw [a2, b2]
  refine ⟨?_, h⟩
  rw [a1, b1, h.2.2.1.2.1, h.2.2.2.2.2.1]
  rfl
