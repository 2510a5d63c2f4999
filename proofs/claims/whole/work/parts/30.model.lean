/-! THE REFERENCE: its told row says the same as a plant -/
def PlR (pl : Nat → Nat → Int) (T : Nat → Int) : Prop := T 36 = pl 0 0 ∧ (∀ m f : Nat, (m : Int) < pl 0 0 → f < 6 → T (6 * m + f) = pl (f + 1) m) ∧ ∀ f, 7 ≤ f → f ≤ 13 → T (30 + f) = pl f 0
theorem plr {pl : Nat → Nat → Int} {T : Nat → Int} (h : PlR pl T) {m : Int} (hm : 0 ≤ m ∧ m < pl 0 0) (f : Nat) (hf : f < 6) : T (6 * m + f).toNat = pl (f + 1) m.toNat := by
  have e := h.2.1 m.toNat f (by omega) hf
  rw [← e]
  congr 1
  omega
theorem plr0 {pl : Nat → Nat → Int} {T : Nat → Int} (h : PlR pl T) {m : Int} (hm : 0 ≤ m ∧ m < pl 0 0) : T (6 * m).toNat = pl 1 m.toNat := by
  have e := plr h hm 0 (by decide)
  rw [show 6 * m + ((0 : Nat) : Int) = 6 * m by omega] at e
  exact e
theorem pv99 {pl : Nat → Nat → Int} (hp : PV pl) {f : Nat} (h1 : 1 ≤ f) (h2 : f ≤ 6) {k : Nat} (hk : (k : Int) < pl 0 0) : 0 ≤ pl f k ∧ pl f k ≤ 99 := by
  have := hp.2.1 k hk
  rcases (show f = 1 ∨ f = 2 ∨ f = 3 ∨ f = 4 ∨ f = 5 ∨ f = 6 by omega) with rfl | rfl | rfl | rfl | rfl | rfl <;> omega
/-- the row of what changes stands for a state -/
def nev (a b : Int) : Prop := a = b ∨ (a = -100000 ∧ b = -1000)

theorem cnt_sumN {s : Int} (h0 : 0 ≤ s) (h1 : s < 64) : cnt s = sumN (tb s) 6 :=
  fin1 (P := fun s => cnt s = sumN (tb s) 6) (by decide +kernel) h0 h1
theorem bt_some {s : Int} (h0 : 0 ≤ s) (h1 : s < 64) (hz : s ≠ 0) : ∃ k, k < 6 ∧ tb s k = 1 :=
  fin1 (P := fun s => s ≠ 0 → ∃ k, k < 6 ∧ tb s k = 1) (by decide +kernel) h0 h1 hz
set_option maxHeartbeats 4000000 in
set_option maxRecDepth 100000 in
theorem c_X8_in (l : Launch) (G : Ly) (v : Int) (a : Int) (b : Int) (w : Wd) (hv : InR v) (ha : InR a) (hb : InR b) : Mi l yX8_in cX8_in 3 (some .boolean) 0 0 G [.int (iI v), .int (iI a), .int (iI b)] w (fun z w2 => z = (if a ≤ v ∧ v ≤ b then 1 else 0) ∧ w2 = w) := by
  refine mi_of (lv := [(0, .int (iI v)), (1, .int (iI a)), (2, .int (iI b))]) (by decide) (Nat.le_of_ble_eq_true rfl) rfl ?_
  intro p_ e_ s_ m_ b_ h_ c_ X
  refine g_iload_n X dX8_in_0 rfl 0 rfl ?_
  refine g_iload_n X dX8_in_1 rfl 1 rfl ?_
  refine g_icmp_lt (tgt := 14) X dX8_in_2 (by decide) (by exact hv) (by exact ha) (fun c_2 => ?_) (fun c_2 => ?_)
  · skip
    refine g_iconst X dX8_in_14 ?_
    exact g_iret X rfl (by decide) dX8_in_15 (by first | exact ⟨by rw [if_pos ⟨by omega, by omega⟩], rfl⟩ | exact ⟨by rw [if_neg (by omega)], rfl⟩)
  · skip
    refine g_iload_n X dX8_in_5 rfl 0 rfl ?_
    refine g_iload_n X dX8_in_6 rfl 2 rfl ?_
    refine g_icmp_gt (tgt := 14) X dX8_in_7 (by decide) (by exact hv) (by exact hb) (fun c_7 => ?_) (fun c_7 => ?_)
    · skip
      refine g_iconst X dX8_in_14 ?_
      exact g_iret X rfl (by decide) dX8_in_15 (by first | exact ⟨by rw [if_pos ⟨by omega, by omega⟩], rfl⟩ | exact ⟨by rw [if_neg (by omega)], rfl⟩)
    · skip
      refine g_iconst X dX8_in_10 ?_
      refine g_goto (tgt := 15) X dX8_in_11 (by decide) ?_
      exact g_iret X rfl (by decide) dX8_in_15 (by first | exact ⟨by rw [if_pos ⟨by omega, by omega⟩], rfl⟩ | exact ⟨by rw [if_neg (by omega)], rfl⟩)
set_option maxHeartbeats 4000000 in
set_option maxRecDepth 100000 in
theorem c_X8_leastOf (l : Launch) (G : Ly) (m : Int) (pl : Nat → Nat → Int) (w : Wd) (FM : gOb G 20 = some 8) (hT : PlR pl (w 20 4)) (hp : PV pl) (hm : 0 ≤ m ∧ m < pl 0 0) : Mi l yX8_leastOf cX8_leastOf 2 (some .int) 0 0 G [.ref (gAd G 20), .int (iI m)] w (fun z w2 => z = (pl 1 m.toNat) ∧ w2 = w) := by
  refine mi_of (lv := [(0, .ref (gAd G 20)), (1, .int (iI m))]) (by decide) (Nat.le_of_ble_eq_true rfl) rfl ?_
  intro p_ e_ s_ m_ b_ h_ c_ X
  have hp0 := hp.1
  have hp7 := hp.2.2
  have t36 := hT.1
  refine g_aload_n X dX8_leastOf_0 rfl 0 rfl ?_
  refine g_geta X ck_X8 FM 4 (by decide) fl_X8_16 rfl dX8_leastOf_1 ?_
  refine g_bipush X dX8_leastOf_4 (by decide) ?_
  refine g_iload_n X dX8_leastOf_6 rfl 1 rfl ?_
  refine g_imul X dX8_leastOf_7 ?_
  refine h_iald (a := 6 * m) (j := (6 * m).toNat) X rfl FM (by decide) (show fkX 8 4 = (1, 44) from rfl) (by decide) (by omega) (by omega) dX8_leastOf_8 ?_
  rw [show (w 20 4 (6 * m).toNat : Int) = pl 1 m.toNat from (plr0 hT hm)]
  exact g_iret X rfl rfl dX8_leastOf_9 (by first | exact ⟨rfl, rfl⟩ | rfl | omega)
set_option maxHeartbeats 4000000 in
set_option maxRecDepth 100000 in
theorem c_X8_mostOf (l : Launch) (G : Ly) (m : Int) (pl : Nat → Nat → Int) (w : Wd) (FM : gOb G 20 = some 8) (hT : PlR pl (w 20 4)) (hp : PV pl) (hm : 0 ≤ m ∧ m < pl 0 0) : Mi l yX8_mostOf cX8_mostOf 2 (some .int) 0 0 G [.ref (gAd G 20), .int (iI m)] w (fun z w2 => z = (pl 2 m.toNat) ∧ w2 = w) := by
  refine mi_of (lv := [(0, .ref (gAd G 20)), (1, .int (iI m))]) (by decide) (Nat.le_of_ble_eq_true rfl) rfl ?_
  intro p_ e_ s_ m_ b_ h_ c_ X
  have hp0 := hp.1
  have hp7 := hp.2.2
  have t36 := hT.1
  refine g_aload_n X dX8_mostOf_0 rfl 0 rfl ?_
  refine g_geta X ck_X8 FM 4 (by decide) fl_X8_16 rfl dX8_mostOf_1 ?_
  refine g_bipush X dX8_mostOf_4 (by decide) ?_
  refine g_iload_n X dX8_mostOf_6 rfl 1 rfl ?_
  refine g_imul X dX8_mostOf_7 ?_
  refine g_iconst X dX8_mostOf_8 ?_
  refine g_iadd X dX8_mostOf_9 ?_
  refine h_iald (a := (6 * m) + 1) (j := ((6 * m) + 1).toNat) X rfl FM (by decide) (show fkX 8 4 = (1, 44) from rfl) (by decide) (by omega) (by omega) dX8_mostOf_10 ?_
  rw [show (w 20 4 ((6 * m) + 1).toNat : Int) = pl 2 m.toNat from (plr hT hm 1 (by decide))]
  exact g_iret X rfl rfl dX8_mostOf_11 (by first | exact ⟨rfl, rfl⟩ | rfl | omega)
set_option maxHeartbeats 4000000 in
set_option maxRecDepth 100000 in
theorem c_X8_powerOf (l : Launch) (G : Ly) (m : Int) (x : Int) (lift : Int) (pl : Nat → Nat → Int) (w : Wd) (FM : gOb G 20 = some 8) (hT : PlR pl (w 20 4)) (hp : PV pl) (hm : 0 ≤ m ∧ m < pl 0 0) (hx : 0 ≤ x ∧ x ≤ 99) (hl : 0 ≤ lift ∧ lift ≤ 45) : Mi l yX8_powerOf cX8_powerOf 5 (some .int) 0 0 G [.ref (gAd G 20), .int (iI m), .int (iI x), .int (iI lift)] w (fun z w2 => z = (pwX pl lift m.toNat x) ∧ w2 = w) := by
  refine mi_of (lv := [(0, .ref (gAd G 20)), (1, .int (iI m)), (2, .int (iI x)), (3, .int (iI lift))]) (by decide) (Nat.le_of_ble_eq_true rfl) rfl ?_
  intro p_ e_ s_ m_ b_ h_ c_ X
  have hp0 := hp.1
  have hp7 := hp.2.2
  have t36 := hT.1
  have hk := hp.2.1 m.toNat (by omega)
  have q1 := mulb (a := pl 4 m.toNat) (b := x) (A := 99) (B := 99) (by omega) (by omega) (by omega) (by omega)
  have q2 := mulb (a := pl 5 m.toNat) (b := x) (A := 99) (B := 99) (by omega) (by omega) (by omega) (by omega)
  have q3 := mulb (a := pl 5 m.toNat * x) (b := x) (A := 9801) (B := 99) (by omega) (by omega) (by omega) (by omega)
  have e1 : 100 * pl 4 m.toNat * x = 100 * (pl 4 m.toNat * x) := Int.mul_assoc _ _ _
  have q4 := mulb (a := 100 * pl 4 m.toNat * x + pl 5 m.toNat * x * x) (b := 60 + lift) (A := 1950399) (B := 105) (by omega) (by omega) (by omega) (by omega)
  refine g_bipush X dX8_powerOf_0 (by decide) ?_
  refine g_aload_n X dX8_powerOf_2 rfl 0 rfl ?_
  refine g_geta X ck_X8 FM 4 (by decide) fl_X8_16 rfl dX8_powerOf_3 ?_
  refine g_bipush X dX8_powerOf_6 (by decide) ?_
  refine g_iload_n X dX8_powerOf_8 rfl 1 rfl ?_
  refine g_imul X dX8_powerOf_9 ?_
  refine g_iconst X dX8_powerOf_10 ?_
  refine g_iadd X dX8_powerOf_11 ?_
  refine h_iald (a := (6 * m) + 3) (j := ((6 * m) + 3).toNat) X rfl FM (by decide) (show fkX 8 4 = (1, 44) from rfl) (by decide) (by omega) (by omega) dX8_powerOf_12 ?_
  rw [show (w 20 4 ((6 * m) + 3).toNat : Int) = pl 4 m.toNat from (plr hT hm 3 (by decide))]
  refine g_imul X dX8_powerOf_13 ?_
  refine g_iload_n X dX8_powerOf_14 rfl 2 rfl ?_
  refine g_imul X dX8_powerOf_15 ?_
  refine g_aload_n X dX8_powerOf_16 rfl 0 rfl ?_
  refine g_geta X ck_X8 FM 4 (by decide) fl_X8_16 rfl dX8_powerOf_17 ?_
  refine g_bipush X dX8_powerOf_20 (by decide) ?_
  refine g_iload_n X dX8_powerOf_22 rfl 1 rfl ?_
  refine g_imul X dX8_powerOf_23 ?_
  refine g_iconst X dX8_powerOf_24 ?_
  refine g_iadd X dX8_powerOf_25 ?_
  refine h_iald (a := (6 * m) + 4) (j := ((6 * m) + 4).toNat) X rfl FM (by decide) (show fkX 8 4 = (1, 44) from rfl) (by decide) (by omega) (by omega) dX8_powerOf_26 ?_
  rw [show (w 20 4 ((6 * m) + 4).toNat : Int) = pl 5 m.toNat from (plr hT hm 4 (by decide))]
  refine g_iload_n X dX8_powerOf_27 rfl 2 rfl ?_
  refine g_imul X dX8_powerOf_28 ?_
  refine g_iload_n X dX8_powerOf_29 rfl 2 rfl ?_
  refine g_imul X dX8_powerOf_30 ?_
  refine g_iadd X dX8_powerOf_31 ?_
  refine g_istore (lv' := [(4, .int (iI (((100 * (pl 4 m.toNat)) * x) + (((pl 5 m.toNat) * x) * x)))), (0, .ref (gAd G 20)), (1, .int (iI m)), (2, .int (iI x)), (3, .int (iI lift))]) X dX8_powerOf_32 (by decide) rfl ?_
  refine g_aload_n X dX8_powerOf_34 rfl 1 rfl ?_
  refine g_geta X ck_X8 FM 4 (by decide) fl_X8_16 rfl dX8_powerOf_35 ?_
  refine g_bipush X dX8_powerOf_38 (by decide) ?_
  refine g_iload_n X dX8_powerOf_40 rfl 2 rfl ?_
  refine g_imul X dX8_powerOf_41 ?_
  refine g_iconst X dX8_powerOf_42 ?_
  refine g_iadd X dX8_powerOf_43 ?_
  refine h_iald (a := (6 * m) + 2) (j := ((6 * m) + 2).toNat) X rfl FM (by decide) (show fkX 8 4 = (1, 44) from rfl) (by decide) (by omega) (by omega) dX8_powerOf_44 ?_
  rw [show (w 20 4 ((6 * m) + 2).toNat : Int) = pl 3 m.toNat from (plr hT hm 2 (by decide))]
  refine g_iload X dX8_powerOf_45 0 rfl ?_
  refine g_bipush X dX8_powerOf_47 (by decide) ?_
  refine g_iload_n X dX8_powerOf_49 rfl 4 rfl ?_
  refine g_iadd X dX8_powerOf_50 ?_
  refine g_imul X dX8_powerOf_51 ?_
  refine g_sipush X dX8_powerOf_52 (by decide) ?_
  refine g_idiv X dX8_powerOf_55 ⟨by decide, by decide⟩ (by omega) ?_
  refine g_iadd X dX8_powerOf_56 ?_
  exact g_iret X rfl rfl dX8_powerOf_57 (by
      refine ⟨?_, rfl⟩
      unfold pwX
      rw [jdiv_pos (by unfold InR; omega) q4.1 (by decide) (by decide), Int.add_mul (100 * pl 4 m.toNat)])
set_option maxHeartbeats 4000000 in
set_option maxRecDepth 100000 in
theorem c_X8_has (l : Launch) (G : Ly) (set : Int) (m : Int) (w : Wd) (hset : 0 ≤ set ∧ set < 64) (hm : 0 ≤ m ∧ m < 6) : Mi l yX8_has cX8_has 2 (some .boolean) 0 0 G [.int (iI set), .int (iI m)] w (fun z w2 => z = (tb set m.toNat) ∧ w2 = w) := by
  refine mi_of (lv := [(0, .int (iI set)), (1, .int (iI m))]) (by decide) (Nat.le_of_ble_eq_true rfl) rfl ?_
  intro p_ e_ s_ m_ b_ h_ c_ X
  refine g_iload_n X dX8_has_0 rfl 0 rfl ?_
  refine g_iload_n X dX8_has_1 rfl 1 rfl ?_
  refine g_ishr X dX8_has_2 ?_
  refine g_iconst X dX8_has_3 ?_
  refine g_iand X dX8_has_4 ?_
  rw [show (band (bshr set m) 1 : Int) = tb set m.toNat from (bt_shr hset.1 hset.2 hm.1 hm.2)]
  refine g_iconst X dX8_has_5 ?_
  refine g_icmp_ne (tgt := 13) X dX8_has_6 (by decide) (by have := tb01 set m.toNat; unfold InR; omega) ⟨by decide, by decide⟩ (fun c_6 => ?_) (fun c_6 => ?_)
  · skip
    refine g_iconst X dX8_has_13 ?_
    exact g_iret X rfl (by decide) dX8_has_14 (by have := tb01 set m.toNat; exact ⟨by omega, rfl⟩)
  · skip
    refine g_iconst X dX8_has_9 ?_
    refine g_goto (tgt := 14) X dX8_has_10 (by decide) ?_
    exact g_iret X rfl (by decide) dX8_has_14 (by have := tb01 set m.toNat; exact ⟨by omega, rfl⟩)
set_option maxHeartbeats 4000000 in
set_option maxRecDepth 100000 in
theorem c_X8_sumOf (l : Launch) (G : Ly) (set : Int) (what : Int) (pl : Nat → Nat → Int) (w : Wd) (FM : gOb G 20 = some 8) (hT : PlR pl (w 20 4)) (hp : PV pl) (hset : 0 ≤ set ∧ set < 64) (hwt : 0 ≤ what ∧ what < 6) : Mi l yX8_sumOf cX8_sumOf 5 (some .int) 1 21 G [.ref (gAd G 20), .int (iI set), .int (iI what)] w (fun z w2 => z = (sumB set (pl (what.toNat + 1)) (pl 0 0).toNat) ∧ w2 = w) := by
  refine mi_of (lv := [(0, .ref (gAd G 20)), (1, .int (iI set)), (2, .int (iI what))]) (by decide) (Nat.le_of_ble_eq_true rfl) rfl ?_
  intro p_ e_ s_ m_ b_ h_ c_ X
  have hp0 := hp.1
  have hp7 := hp.2.2
  have t36 := hT.1
  have hb : ∀ k : Nat, (k : Int) ≤ pl 0 0 → 0 ≤ sumB set (pl (what.toNat + 1)) k ∧ sumB set (pl (what.toNat + 1)) k ≤ 99 * k := fun k hk => sumB_le k (fun j hj => pv99 hp (by omega) (by omega) (by omega))
  refine g_iconst X dX8_sumOf_0 ?_
  refine g_istore_n (lv' := [(3, .int (iI 0)), (0, .ref (gAd G 20)), (1, .int (iI set)), (2, .int (iI what))]) X dX8_sumOf_1 rfl (by decide) rfl ?_
  refine g_iconst X dX8_sumOf_2 ?_
  refine g_istore (lv' := [(4, .int (iI 0)), (3, .int (iI 0)), (0, .ref (gAd G 20)), (1, .int (iI set)), (2, .int (iI what))]) X dX8_sumOf_3 (by decide) rfl ?_
  refine g_lv (lv' := [(0, .ref (gAd G 20)), (1, .int (iI set)), (2, .int (iI what)), (3, .int (iI 0)), (4, .int (iI 0))]) [2, 3, 4, 1, 0] rfl ?_
  refine g_loop2 (fun (sum : Int) (k : Int) => [(0, .ref (gAd G 20)), (1, .int (iI set)), (2, .int (iI what)), (3, .int (iI sum)), (4, .int (iI k))]) (fun (sum : Int) (k : Int) => w) (fun (sum : Int) (k : Int) => (0 ≤ k) ∧ (k ≤ pl 0 0) ∧ (sum = sumB set (pl (what.toNat + 1)) k.toNat)) (fun (sum : Int) (k : Int) => (pl 0 0 - k).toNat) 0 0 ⟨(by first | omega | rfl | assumption), (by first | omega | rfl | assumption), (by rfl)⟩ ?_
  intro sum k hI_5 ih_5
  obtain ⟨h0, h1, hs⟩ := hI_5
  try dsimp only at ih_5 ⊢
  refine g_iload X dX8_sumOf_5 4 rfl ?_
  refine g_aload_n X dX8_sumOf_7 rfl 0 rfl ?_
  refine g_geta X ck_X8 FM 4 (by decide) fl_X8_16 rfl dX8_sumOf_8 ?_
  refine g_bipush X dX8_sumOf_11 (by decide) ?_
  refine h_iald (a := 36) (j := 36) X rfl FM (by decide) (show fkX 8 4 = (1, 44) from rfl) (by decide) (by omega) (by omega) dX8_sumOf_13 ?_
  refine g_icmp_ge (tgt := 51) X dX8_sumOf_14 (by decide) (by unfold InR; omega) (by unfold InR; omega) (fun c_14 => ?_) (fun c_14 => ?_)
  · skip
    refine g_iload_n X dX8_sumOf_51 rfl 3 rfl ?_
    exact g_iret X rfl rfl dX8_sumOf_52 (by exact ⟨by rw [hs, show k = pl 0 0 by omega], rfl⟩)
  · skip
    have hk1 := hb k.toNat (by omega)
    have hkk := pv99 hp (f := what.toNat + 1) (by omega) (by omega) (k := k.toNat) (by omega)
    have ht01 := tb01 set k.toNat
    refine g_iload_n X dX8_sumOf_17 rfl 3 rfl ?_
    refine g_cut1 (pc' := 43) (fun (x : Int) => [(0, .ref (gAd G 20)), (1, .int (iI set)), (2, .int (iI what)), (3, .int (iI sum)), (4, .int (iI k))]) (fun (x : Int) => [.int (iI x), .int (iI sum)]) (fun (x : Int) => w) (fun (x : Int) => (x = if tb set k.toNat = 1 then pl (what.toNat + 1) k.toNat else 0)) ?_ ?_
    · intro x hI_43
      have hx := hI_43
      try dsimp only at hx ⊢
      have hxr : 0 ≤ x ∧ x ≤ 99 := by rw [hx]; split <;> omega
      refine g_iadd X dX8_sumOf_43 ?_
      refine g_istore_n (lv' := [(3, .int (iI (sum + x))), (0, .ref (gAd G 20)), (1, .int (iI set)), (2, .int (iI what)), (4, .int (iI k))]) X dX8_sumOf_44 rfl (by decide) rfl ?_
      refine g_iinc (j := 4) (lv' := [(4, .int (iI (k + 1))), (3, .int (iI (sum + x))), (0, .ref (gAd G 20)), (1, .int (iI set)), (2, .int (iI what))]) X dX8_sumOf_45 rfl (by decide) rfl ?_
      refine g_goto (tgt := 5) X dX8_sumOf_48 (by decide) ?_
      refine g_lv (lv' := [(0, .ref (gAd G 20)), (1, .int (iI set)), (2, .int (iI what)), (3, .int (iI (sum + x))), (4, .int (iI (k + 1)))]) [2, 3, 4, 1, 0] rfl ?_
      exact ih_5 (sum + x) (k + 1) ⟨(by first | omega | rfl | assumption), (by first | omega | rfl | assumption), (by rw [sumB_suc h0, hs, hx])⟩ (by omega)
    · intro J_43
      try dsimp only at J_43
      refine g_iload_n X dX8_sumOf_18 rfl 1 rfl ?_
      refine g_iload X dX8_sumOf_19 4 rfl ?_
      refine g_callsi (st := [.int (iI sum)]) X (c_X8_has l G set k w (by first | assumption | omega | (unfold InR; omega)) (by first | assumption | omega | (unfold InR; omega))) cm_X8_has sm_X8_has ml_X8_86 ⟨Nat.le_of_ble_eq_true rfl, Nat.le_of_ble_eq_true rfl⟩ rfl rfl (Nat.le_of_ble_eq_true rfl) dX8_sumOf_21 (fn_i ?_)
      refine g_if_eq (tgt := 42) X dX8_sumOf_24 (by decide) (by unfold InR; omega) (fun c_24 => ?_) (fun c_24 => ?_)
      · skip
        refine g_iconst X dX8_sumOf_42 ?_
        refine g_lv (lv' := [(0, .ref (gAd G 20)), (1, .int (iI set)), (2, .int (iI what)), (3, .int (iI sum)), (4, .int (iI k))]) [0, 1, 2, 3, 4] rfl ?_
        exact J_43 0 (by first | rw [if_pos (by omega)] | rw [if_neg (by omega)])
      · skip
        refine g_aload_n X dX8_sumOf_27 rfl 0 rfl ?_
        refine g_geta X ck_X8 FM 4 (by decide) fl_X8_16 rfl dX8_sumOf_28 ?_
        refine g_bipush X dX8_sumOf_31 (by decide) ?_
        refine g_iload X dX8_sumOf_33 4 rfl ?_
        refine g_imul X dX8_sumOf_35 ?_
        refine g_iload_n X dX8_sumOf_36 rfl 2 rfl ?_
        refine g_iadd X dX8_sumOf_37 ?_
        refine h_iald (a := (6 * k) + what) (j := ((6 * k) + what).toNat) X rfl FM (by decide) (show fkX 8 4 = (1, 44) from rfl) (by decide) (by omega) (by omega) dX8_sumOf_38 ?_
        rw [show (w 20 4 ((6 * k) + what).toNat : Int) = pl (what.toNat + 1) k.toNat from (by have e := plr hT (m := k) ⟨h0, by omega⟩ what.toNat (by omega); rw [show 6 * k + what = 6 * k + (what.toNat : Int) by omega]; exact e)]
        refine g_goto (tgt := 43) X dX8_sumOf_39 (by decide) ?_
        refine g_lv (lv' := [(0, .ref (gAd G 20)), (1, .int (iI set)), (2, .int (iI what)), (3, .int (iI sum)), (4, .int (iI k))]) [0, 1, 2, 3, 4] rfl ?_
        exact J_43 (pl (what.toNat + 1) k.toNat) (by first | rw [if_pos (by omega)] | rw [if_neg (by omega)])
set_option maxHeartbeats 4000000 in
set_option maxRecDepth 100000 in
theorem c_X8_can (l : Launch) (G : Ly) (set : Int) (load : Int) (pl : Nat → Nat → Int) (w : Wd) (FM : gOb G 20 = some 8) (hT : PlR pl (w 20 4)) (hp : PV pl) (hset : 0 ≤ set ∧ set < 64) (hr : InR load) : Mi l yX8_can cX8_can 3 (some .boolean) 2 45 G [.ref (gAd G 20), .int (iI set), .int (iI load)] w (fun z w2 => z = (if sumB set (pl 1) (pl 0 0).toNat ≤ load ∧ load ≤ sumB set (pl 2) (pl 0 0).toNat then 1 else 0) ∧ w2 = w) := by
  refine mi_of (lv := [(0, .ref (gAd G 20)), (1, .int (iI set)), (2, .int (iI load))]) (by decide) (Nat.le_of_ble_eq_true rfl) rfl ?_
  intro p_ e_ s_ m_ b_ h_ c_ X
  have hp0 := hp.1
  have hp7 := hp.2.2
  have t36 := hT.1
  have a1 := pv_least hp set
  have a2 := pv_most hp set
  refine g_iload_n X dX8_can_0 rfl 2 rfl ?_
  refine g_aload_n X dX8_can_1 rfl 0 rfl ?_
  refine g_iload_n X dX8_can_2 rfl 1 rfl ?_
  refine g_iconst X dX8_can_3 ?_
  refine g_calli (st := [.int (iI load)]) X (c_X8_sumOf l G set 0 pl w FM (by first | assumption | omega | (unfold InR; omega)) (by first | assumption | omega | (unfold InR; omega)) (by first | assumption | omega | (unfold InR; omega)) (by first | assumption | omega | (unfold InR; omega))) cm_X8_sumOf im_X8_sumOf se_X8_sumOf ml_X8_90 ck_X8 FM ⟨Nat.le_of_ble_eq_true rfl, Nat.le_of_ble_eq_true rfl⟩ rfl rfl (Nat.le_of_ble_eq_true rfl) dX8_can_4 (fn_i ?_)
  rw [show (sumB set (pl ((0 : Int).toNat + 1)) (pl 0 0).toNat : Int) = sumB set (pl 1) (pl 0 0).toNat from rfl]
  refine g_aload_n X dX8_can_7 rfl 0 rfl ?_
  refine g_iload_n X dX8_can_8 rfl 1 rfl ?_
  refine g_iconst X dX8_can_9 ?_
  refine g_calli (st := [.int (iI (sumB set (pl 1) (pl 0 0).toNat)), .int (iI load)]) X (c_X8_sumOf l G set 1 pl w FM (by first | assumption | omega | (unfold InR; omega)) (by first | assumption | omega | (unfold InR; omega)) (by first | assumption | omega | (unfold InR; omega)) (by first | assumption | omega | (unfold InR; omega))) cm_X8_sumOf im_X8_sumOf se_X8_sumOf ml_X8_90 ck_X8 FM ⟨Nat.le_of_ble_eq_true rfl, Nat.le_of_ble_eq_true rfl⟩ rfl rfl (Nat.le_of_ble_eq_true rfl) dX8_can_10 (fn_i ?_)
  rw [show (sumB set (pl ((1 : Int).toNat + 1)) (pl 0 0).toNat : Int) = sumB set (pl 2) (pl 0 0).toNat from rfl]
  refine g_callsi (st := []) X (c_X8_in l G load (sumB set (pl 1) (pl 0 0).toNat) (sumB set (pl 2) (pl 0 0).toNat) w (by exact hr) (by show InR (sumB set (pl 1) _); unfold InR; omega) (by show InR (sumB set (pl 2) _); unfold InR; omega)) cm_X8_in sm_X8_in ml_X8_61 ⟨Nat.le_of_ble_eq_true rfl, Nat.le_of_ble_eq_true rfl⟩ rfl rfl (Nat.le_of_ble_eq_true rfl) dX8_can_13 (fn_i ?_)
  exact g_iret X rfl (by split <;> rfl) dX8_can_16 (by exact ⟨rfl, rfl⟩)
set_option maxHeartbeats 4000000 in
set_option maxRecDepth 100000 in
theorem c_X8_ones (l : Launch) (G : Ly) (set : Int) (w : Wd) (hset : 0 ≤ set ∧ set < 64) : Mi l yX8_ones cX8_ones 3 (some .int) 0 0 G [.int (iI set)] w (fun z w2 => z = (cnt set) ∧ w2 = w) := by
  refine mi_of (lv := [(0, .int (iI set))]) (by decide) (Nat.le_of_ble_eq_true rfl) rfl ?_
  intro p_ e_ s_ m_ b_ h_ c_ X
  refine g_iconst X dX8_ones_0 ?_
  refine g_istore_n (lv' := [(1, .int (iI 0)), (0, .int (iI set))]) X dX8_ones_1 rfl (by decide) rfl ?_
  refine g_iconst X dX8_ones_2 ?_
  refine g_istore_n (lv' := [(2, .int (iI 0)), (1, .int (iI 0)), (0, .int (iI set))]) X dX8_ones_3 rfl (by decide) rfl ?_
  refine g_lv (lv' := [(0, .int (iI set)), (1, .int (iI 0)), (2, .int (iI 0))]) [2, 1, 0] rfl ?_
  refine g_loop2 (fun (n : Int) (k : Int) => [(0, .int (iI set)), (1, .int (iI n)), (2, .int (iI k))]) (fun (n : Int) (k : Int) => w) (fun (n : Int) (k : Int) => (0 ≤ k) ∧ (k ≤ 6) ∧ (n = sumN (tb set) k.toNat) ∧ (0 ≤ n ∧ n ≤ k)) (fun (n : Int) (k : Int) => (6 - k).toNat) 0 0 ⟨(by first | omega | rfl | assumption), (by first | omega | rfl | assumption), (by rfl), (by first | omega | rfl | assumption)⟩ ?_
  intro n k hI_4 ih_4
  obtain ⟨h0, h1, hn, hr⟩ := hI_4
  try dsimp only at ih_4 ⊢
  refine g_iload_n X dX8_ones_4 rfl 2 rfl ?_
  refine g_bipush X dX8_ones_5 (by decide) ?_
  refine g_icmp_ge (tgt := 24) X dX8_ones_7 (by decide) (by unfold InR; omega) ⟨by decide, by decide⟩ (fun c_7 => ?_) (fun c_7 => ?_)
  · skip
    refine g_iload_n X dX8_ones_24 rfl 1 rfl ?_
    exact g_iret X rfl rfl dX8_ones_25 (by exact ⟨by rw [hn, show k = 6 by omega]; exact (cnt_sumN hset.1 hset.2).symm, rfl⟩)
  · skip
    have ht01 := tb01 set k.toNat
    refine g_iload_n X dX8_ones_10 rfl 1 rfl ?_
    refine g_iload_n X dX8_ones_11 rfl 0 rfl ?_
    refine g_iload_n X dX8_ones_12 rfl 2 rfl ?_
    refine g_ishr X dX8_ones_13 ?_
    refine g_iconst X dX8_ones_14 ?_
    refine g_iand X dX8_ones_15 ?_
    rw [show (band (bshr set k) 1 : Int) = tb set k.toNat from (bt_shr hset.1 hset.2 h0 (by omega))]
    refine g_iadd X dX8_ones_16 ?_
    refine g_istore_n (lv' := [(1, .int (iI (n + (tb set k.toNat)))), (0, .int (iI set)), (2, .int (iI k))]) X dX8_ones_17 rfl (by decide) rfl ?_
    refine g_iinc (j := 2) (lv' := [(2, .int (iI (k + 1))), (1, .int (iI (n + (tb set k.toNat)))), (0, .int (iI set))]) X dX8_ones_18 rfl (by decide) rfl ?_
    refine g_goto (tgt := 4) X dX8_ones_21 (by decide) ?_
    refine g_lv (lv' := [(0, .int (iI set)), (1, .int (iI (n + (tb set k.toNat)))), (2, .int (iI (k + 1)))]) [2, 1, 0] rfl ?_
    exact ih_4 (n + (tb set k.toNat)) (k + 1) ⟨(by first | omega | rfl | assumption), (by first | omega | rfl | assumption), (by rw [sumN_suc h0, hn]), (by first | omega | rfl | assumption)⟩ (by omega)
set_option maxHeartbeats 4000000 in
set_option maxRecDepth 100000 in
theorem c_X8_isMachine (l : Launch) (G : Ly) (m : Int) (pl : Nat → Nat → Int) (w : Wd) (FM : gOb G 20 = some 8) (hT : PlR pl (w 20 4)) (hp : PV pl) (hr : InR m) : Mi l yX8_isMachine cX8_isMachine 2 (some .boolean) 1 22 G [.ref (gAd G 20), .int (iI m)] w (fun z w2 => z = (if 0 ≤ m ∧ m < pl 0 0 then 1 else 0) ∧ w2 = w) := by
  refine mi_of (lv := [(0, .ref (gAd G 20)), (1, .int (iI m))]) (by decide) (Nat.le_of_ble_eq_true rfl) rfl ?_
  intro p_ e_ s_ m_ b_ h_ c_ X
  have hp0 := hp.1
  have hp7 := hp.2.2
  have t36 := hT.1
  refine g_iload_n X dX8_isMachine_0 rfl 1 rfl ?_
  refine g_iconst X dX8_isMachine_1 ?_
  refine g_aload_n X dX8_isMachine_2 rfl 0 rfl ?_
  refine g_geta X ck_X8 FM 4 (by decide) fl_X8_16 rfl dX8_isMachine_3 ?_
  refine g_bipush X dX8_isMachine_6 (by decide) ?_
  refine h_iald (a := 36) (j := 36) X rfl FM (by decide) (show fkX 8 4 = (1, 44) from rfl) (by decide) (by omega) (by omega) dX8_isMachine_8 ?_
  refine g_iconst X dX8_isMachine_9 ?_
  refine g_isub X dX8_isMachine_10 ?_
  refine g_callsi (st := []) X (c_X8_in l G m 0 ((w 20 4 36) - 1) w (by exact hr) (by first | assumption | omega | (unfold InR; omega)) (by first | assumption | omega | (unfold InR; omega))) cm_X8_in sm_X8_in ml_X8_61 ⟨Nat.le_of_ble_eq_true rfl, Nat.le_of_ble_eq_true rfl⟩ rfl rfl (Nat.le_of_ble_eq_true rfl) dX8_isMachine_11 (fn_i ?_)
  exact g_iret X rfl (by split <;> rfl) dX8_isMachine_14 (by
      refine ⟨?_, rfl⟩
      rw [t36]
      by_cases h : 0 ≤ m ∧ m < pl 0 0
      · rw [if_pos h, if_pos (by omega)]
      · rw [if_neg h, if_neg (by omega)])
set_option maxHeartbeats 4000000 in
set_option maxRecDepth 100000 in
theorem c_X8_own (l : Launch) (G : Ly) (m : Int) (a : Int) (w : Wd) (FM : gOb G 20 = some 8) (hm : 0 ≤ m ∧ m < 6) (ha : 0 ≤ a ∧ a < 14) : Mi l yX8_own cX8_own 3 (some .int) 0 0 G [.ref (gAd G 20), .int (iI m), .int (iI a)] w (fun z w2 => z = (w 20 5 (17 + 14 * m + a).toNat) ∧ w2 = w) := by
  refine mi_of (lv := [(0, .ref (gAd G 20)), (1, .int (iI m)), (2, .int (iI a))]) (by decide) (Nat.le_of_ble_eq_true rfl) rfl ?_
  intro p_ e_ s_ m_ b_ h_ c_ X
  refine g_aload_n X dX8_own_0 rfl 0 rfl ?_
  refine g_geta X ck_X8 FM 5 (by decide) fl_X8_19 rfl dX8_own_1 ?_
  refine g_bipush X dX8_own_4 (by decide) ?_
  refine g_bipush X dX8_own_6 (by decide) ?_
  refine g_iload_n X dX8_own_8 rfl 1 rfl ?_
  refine g_imul X dX8_own_9 ?_
  refine g_iadd X dX8_own_10 ?_
  refine g_iload_n X dX8_own_11 rfl 2 rfl ?_
  refine g_iadd X dX8_own_12 ?_
  refine h_iald (a := (17 + (14 * m)) + a) (j := ((17 + (14 * m)) + a).toNat) X rfl FM (by decide) (show fkX 8 5 = (1, 101) from rfl) (by decide) (by omega) (by omega) dX8_own_13 ?_
  exact g_iret X rfl rfl dX8_own_14 (by first | exact ⟨rfl, rfl⟩ | rfl | omega)
set_option maxHeartbeats 4000000 in
set_option maxRecDepth 100000 in
theorem c_X8_lift (l : Launch) (G : Ly)  (w : Wd) (FM : gOb G 20 = some 8) (h2 : 0 ≤ w 20 5 2 ∧ w 20 5 2 ≤ 45) (h3 : 4 ≤ w 20 5 3 ∧ w 20 5 3 ≤ 14) : Mi l yX8_lift cX8_lift 1 (some .int) 0 0 G [.ref (gAd G 20)] w (fun z w2 => z = (max 0 (w 20 5 2 - w 20 5 3)) ∧ w2 = w) := by
  refine mi_of (lv := [(0, .ref (gAd G 20))]) (by decide) (Nat.le_of_ble_eq_true rfl) rfl ?_
  intro p_ e_ s_ m_ b_ h_ c_ X
  refine g_aload_n X dX8_lift_0 rfl 0 rfl ?_
  refine g_geta X ck_X8 FM 5 (by decide) fl_X8_19 rfl dX8_lift_1 ?_
  refine g_iconst X dX8_lift_4 ?_
  refine h_iald (a := 2) (j := 2) X rfl FM (by decide) (show fkX 8 5 = (1, 101) from rfl) (by decide) (by omega) (by omega) dX8_lift_5 ?_
  refine g_aload_n X dX8_lift_6 rfl 0 rfl ?_
  refine g_geta X ck_X8 FM 5 (by decide) fl_X8_19 rfl dX8_lift_7 ?_
  refine g_iconst X dX8_lift_10 ?_
  refine h_iald (a := 3) (j := 3) X rfl FM (by decide) (show fkX 8 5 = (1, 101) from rfl) (by decide) (by omega) (by omega) dX8_lift_11 ?_
  refine g_icmp_le (tgt := 31) X dX8_lift_12 (by decide) (by unfold InR; omega) (by unfold InR; omega) (fun c_12 => ?_) (fun c_12 => ?_)
  · skip
    refine g_iconst X dX8_lift_31 ?_
    exact g_iret X rfl rfl dX8_lift_32 (by exact ⟨by omega, rfl⟩)
  · skip
    refine g_aload_n X dX8_lift_15 rfl 0 rfl ?_
    refine g_geta X ck_X8 FM 5 (by decide) fl_X8_19 rfl dX8_lift_16 ?_
    refine g_iconst X dX8_lift_19 ?_
    refine h_iald (a := 2) (j := 2) X rfl FM (by decide) (show fkX 8 5 = (1, 101) from rfl) (by decide) (by omega) (by omega) dX8_lift_20 ?_
    refine g_aload_n X dX8_lift_21 rfl 0 rfl ?_
    refine g_geta X ck_X8 FM 5 (by decide) fl_X8_19 rfl dX8_lift_22 ?_
    refine g_iconst X dX8_lift_25 ?_
    refine h_iald (a := 3) (j := 3) X rfl FM (by decide) (show fkX 8 5 = (1, 101) from rfl) (by decide) (by omega) (by omega) dX8_lift_26 ?_
    refine g_isub X dX8_lift_27 ?_
    refine g_goto (tgt := 32) X dX8_lift_28 (by decide) ?_
    exact g_iret X rfl rfl dX8_lift_32 (by exact ⟨by omega, rfl⟩)
set_option maxHeartbeats 4000000 in
set_option maxRecDepth 100000 in
theorem c_X8_lowest (l : Launch) (G : Ly) (set : Int) (w : Wd) (hset : 0 ≤ set ∧ set < 64) (hz : set ≠ 0) : Mi l yX8_lowest cX8_lowest 2 (some .int) 1 21 G [.int (iI set)] w (fun z w2 => w2 = w ∧ ((0 ≤ z ∧ z < 6) ∧ tb set z.toNat = 1 ∧ ∀ j : Nat, (j : Int) < z → tb set j = 0)) := by
  refine mi_of (lv := [(0, .int (iI set))]) (by decide) (Nat.le_of_ble_eq_true rfl) rfl ?_
  intro p_ e_ s_ m_ b_ h_ c_ X
  have hne := bt_some hset.1 hset.2 hz
  refine g_iconst X dX8_lowest_0 ?_
  refine g_istore_n (lv' := [(1, .int (iI 0)), (0, .int (iI set))]) X dX8_lowest_1 rfl (by decide) rfl ?_
  refine g_lv (lv' := [(0, .int (iI set)), (1, .int (iI 0))]) [1, 0] rfl ?_
  refine g_loop1 (fun (k : Int) => [(0, .int (iI set)), (1, .int (iI k))]) (fun (k : Int) => w) (fun (k : Int) => (0 ≤ k) ∧ (k < 6) ∧ (∀ j : Nat, (j : Int) < k → tb set j = 0)) (fun (k : Int) => (6 - k).toNat) 0 ⟨(by first | omega | rfl | assumption), (by first | omega | rfl | assumption), (by intro j hj; omega)⟩ ?_
  intro k hI_2 ih_2
  obtain ⟨h0, h1, hk⟩ := hI_2
  try dsimp only at ih_2 ⊢
  refine g_iload_n X dX8_lowest_2 rfl 0 rfl ?_
  refine g_iload_n X dX8_lowest_3 rfl 1 rfl ?_
  refine g_callsi (st := []) X (c_X8_has l G set k w (by first | assumption | omega | (unfold InR; omega)) (by first | assumption | omega | (unfold InR; omega))) cm_X8_has sm_X8_has ml_X8_86 ⟨Nat.le_of_ble_eq_true rfl, Nat.le_of_ble_eq_true rfl⟩ rfl rfl (Nat.le_of_ble_eq_true rfl) dX8_lowest_4 (fn_i ?_)
  refine g_if_ne (tgt := 16) X dX8_lowest_7 (by decide) (by have := tb01 set k.toNat; unfold InR; omega) (fun c_7 => ?_) (fun c_7 => ?_)
  · skip
    refine g_iload_n X dX8_lowest_16 rfl 1 rfl ?_
    exact g_iret X rfl rfl dX8_lowest_17 (by exact ⟨rfl, ⟨h0, h1⟩, by have := tb01 set k.toNat; omega, hk⟩)
  · skip
    have hk0 : tb set k.toNat = 0 := by have := tb01 set k.toNat; omega
    have hk1 : ∀ j : Nat, (j : Int) < k + 1 → tb set j = 0 := fun j hj => by
      rcases Int.lt_or_le (j : Int) k with h | h
      · exact hk j h
      · rw [show j = k.toNat by omega]; exact hk0
    have hk6 : k < 5 := by
      rcases Int.lt_or_le k 5 with h | h
      · exact h
      · obtain ⟨j, hj, hj1⟩ := hne
        have := hk1 j (by omega)
        omega
    refine g_iinc (j := 1) (lv' := [(1, .int (iI (k + 1))), (0, .int (iI set))]) X dX8_lowest_10 rfl (by decide) rfl ?_
    refine g_goto (tgt := 2) X dX8_lowest_13 (by decide) ?_
    refine g_lv (lv' := [(0, .int (iI set)), (1, .int (iI (k + 1)))]) [1, 0] rfl ?_
    exact ih_2 (k + 1) ⟨(by first | omega | rfl | assumption), (by first | omega | rfl | assumption), (by exact hk1)⟩ (by omega)
