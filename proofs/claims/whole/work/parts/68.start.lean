/-! what holds at the law's entry -/
abbrev gN : Cond := Jvm.Cond.and given_1 narrow_1
theorem sa_0 : (Cond.arrayOf (.static "ColdHouse" "TOLD_LEAST" "[I") .int ∈ flatC gN) ∧ (Cond.eq (.length (.static "ColdHouse" "TOLD_LEAST" "[I")) (.int (Int32.ofNat 4)) ∈ flatC gN) ∧ ∀ j, j < 4 → Cond.eq (.elem (.static "ColdHouse" "TOLD_LEAST" "[I") (.int (Int32.ofNat j))) (.int (iI ((slX 0).getD j 0))) ∈ flatC gN := by decide +kernel
theorem sl_0 : Cond.laysStatic "ColdHouse" "TOLD_LEAST" "[I" ∈ lw_tbl := List.mem_of_getElem? (i := 531) (by decide +kernel)
theorem sa_1 : (Cond.arrayOf (.static "ColdHouse" "TOLD_MOST" "[I") .int ∈ flatC gN) ∧ (Cond.eq (.length (.static "ColdHouse" "TOLD_MOST" "[I")) (.int (Int32.ofNat 4)) ∈ flatC gN) ∧ ∀ j, j < 4 → Cond.eq (.elem (.static "ColdHouse" "TOLD_MOST" "[I") (.int (Int32.ofNat j))) (.int (iI ((slX 1).getD j 0))) ∈ flatC gN := by decide +kernel
theorem sl_1 : Cond.laysStatic "ColdHouse" "TOLD_MOST" "[I" ∈ lw_tbl := List.mem_of_getElem? (i := 533) (by decide +kernel)
theorem sa_2 : (Cond.arrayOf (.static "ColdHouse" "TOLD_FIRST" "[I") .int ∈ flatC gN) ∧ (Cond.eq (.length (.static "ColdHouse" "TOLD_FIRST" "[I")) (.int (Int32.ofNat 4)) ∈ flatC gN) ∧ ∀ j, j < 4 → Cond.eq (.elem (.static "ColdHouse" "TOLD_FIRST" "[I") (.int (Int32.ofNat j))) (.int (iI ((slX 2).getD j 0))) ∈ flatC gN := by decide +kernel
theorem sl_2 : Cond.laysStatic "ColdHouse" "TOLD_FIRST" "[I" ∈ lw_tbl := List.mem_of_getElem? (i := 188) (by decide +kernel)
theorem sa_3 : (Cond.arrayOf (.static "ColdHouse" "MACHINE_LEAST" "[I") .int ∈ flatC gN) ∧ (Cond.eq (.length (.static "ColdHouse" "MACHINE_LEAST" "[I")) (.int (Int32.ofNat 6)) ∈ flatC gN) ∧ ∀ j, j < 6 → Cond.eq (.elem (.static "ColdHouse" "MACHINE_LEAST" "[I") (.int (Int32.ofNat j))) (.int (iI ((slX 3).getD j 0))) ∈ flatC gN := by decide +kernel
theorem sl_3 : Cond.laysStatic "ColdHouse" "MACHINE_LEAST" "[I" ∈ lw_tbl := List.mem_of_getElem? (i := 430) (by decide +kernel)
theorem sa_4 : (Cond.arrayOf (.static "ColdHouse" "MACHINE_MOST" "[I") .int ∈ flatC gN) ∧ (Cond.eq (.length (.static "ColdHouse" "MACHINE_MOST" "[I")) (.int (Int32.ofNat 6)) ∈ flatC gN) ∧ ∀ j, j < 6 → Cond.eq (.elem (.static "ColdHouse" "MACHINE_MOST" "[I") (.int (Int32.ofNat j))) (.int (iI ((slX 4).getD j 0))) ∈ flatC gN := by decide +kernel
theorem sl_4 : Cond.laysStatic "ColdHouse" "MACHINE_MOST" "[I" ∈ lw_tbl := List.mem_of_getElem? (i := 92) (by decide +kernel)
theorem sa_5 : (Cond.arrayOf (.static "ColdHouse" "RUN_LEAST" "[I") .int ∈ flatC gN) ∧ (Cond.eq (.length (.static "ColdHouse" "RUN_LEAST" "[I")) (.int (Int32.ofNat 4)) ∈ flatC gN) ∧ ∀ j, j < 4 → Cond.eq (.elem (.static "ColdHouse" "RUN_LEAST" "[I") (.int (Int32.ofNat j))) (.int (iI ((slX 5).getD j 0))) ∈ flatC gN := by decide +kernel
theorem sl_5 : Cond.laysStatic "ColdHouse" "RUN_LEAST" "[I" ∈ lw_tbl := List.mem_of_getElem? (i := 443) (by decide +kernel)
theorem sa_6 : (Cond.arrayOf (.static "ColdHouse" "RUN_MOST" "[I") .int ∈ flatC gN) ∧ (Cond.eq (.length (.static "ColdHouse" "RUN_MOST" "[I")) (.int (Int32.ofNat 4)) ∈ flatC gN) ∧ ∀ j, j < 4 → Cond.eq (.elem (.static "ColdHouse" "RUN_MOST" "[I") (.int (Int32.ofNat j))) (.int (iI ((slX 6).getD j 0))) ∈ flatC gN := by decide +kernel
theorem sl_6 : Cond.laysStatic "ColdHouse" "RUN_MOST" "[I" ∈ lw_tbl := List.mem_of_getElem? (i := 445) (by decide +kernel)
theorem sa_7 : (Cond.arrayOf (.static "ColdHouse" "STAGE_LEAST" "[I") .int ∈ flatC gN) ∧ (Cond.eq (.length (.static "ColdHouse" "STAGE_LEAST" "[I")) (.int (Int32.ofNat 3)) ∈ flatC gN) ∧ ∀ j, j < 3 → Cond.eq (.elem (.static "ColdHouse" "STAGE_LEAST" "[I") (.int (Int32.ofNat j))) (.int (iI ((slX 7).getD j 0))) ∈ flatC gN := by decide +kernel
theorem sl_7 : Cond.laysStatic "ColdHouse" "STAGE_LEAST" "[I" ∈ lw_tbl := List.mem_of_getElem? (i := 447) (by decide +kernel)
theorem sa_8 : (Cond.arrayOf (.static "ColdHouse" "STAGE_MOST" "[I") .int ∈ flatC gN) ∧ (Cond.eq (.length (.static "ColdHouse" "STAGE_MOST" "[I")) (.int (Int32.ofNat 3)) ∈ flatC gN) ∧ ∀ j, j < 3 → Cond.eq (.elem (.static "ColdHouse" "STAGE_MOST" "[I") (.int (Int32.ofNat j))) (.int (iI ((slX 8).getD j 0))) ∈ flatC gN := by decide +kernel
theorem sl_8 : Cond.laysStatic "ColdHouse" "STAGE_MOST" "[I" ∈ lw_tbl := List.mem_of_getElem? (i := 449) (by decide +kernel)
theorem st_a : (Cond.exactly (.string "ColdHouse" 63) "java/lang/String" ∈ flatC gN) ∧ (Cond.eq (.field (.string "ColdHouse" 63) "java/lang/String" "coder" "B") (.int 0) ∈ flatC gN) ∧ (Cond.arrayOf (.field (.string "ColdHouse" 63) "java/lang/String" "value" "[B") .byte ∈ flatC gN) ∧ (Cond.eq (.length (.field (.string "ColdHouse" 63) "java/lang/String" "value" "[B")) (.int (Int32.ofNat 88)) ∈ flatC gN) := by decide +kernel
theorem st_b : ∀ j, j < 88 → Cond.eq (.elem (.field (.string "ColdHouse" 63) "java/lang/String" "value" "[B") (.int (Int32.ofNat j))) (.int (iI (tX j))) ∈ flatC gN := by decide +kernel
theorem st_c : (Cond.eq (.static "java/lang/String" "COMPACT_STRINGS" "Z") (.int 1) ∈ flatC gN) ∧ (Cond.isRef (.static "jdk/internal/util/Preconditions" "SIOOBE_FORMATTER" "Ljava/util/function/BiFunction;") ∈ flatC gN) := by decide +kernel
theorem sl_c : Cond.laysStatic "java/lang/String" "COMPACT_STRINGS" "Z" ∈ lw_tbl := List.mem_of_getElem? (i := 370) (by decide +kernel)
theorem sl_q : Cond.laysStatic "jdk/internal/util/Preconditions" "SIOOBE_FORMATTER" "Ljava/util/function/BiFunction;" ∈ lw_tbl := List.mem_of_getElem? (i := 386) (by decide +kernel)
theorem sl_r : Cond.stringRef "ColdHouse" 63 txS ∈ lw_tbl := List.mem_of_getElem? (i := 360) (by decide +kernel)
theorem sl_o : Cond.arrayOver (.object "ColdHouse$State") ∈ lw_tbl := List.mem_of_getElem? (i := 271) (by decide +kernel)
theorem start_st {s : State} {args : Array Value} (hts : ∀ w ∈ lw_tbl, w.before args s = true) (hs : ∀ c ∈ flatC gN, c.before args s = true) : ∀ k : Nat, ∃ t : Nat, k < 9 → va_Z "ColdHouse" (snX k) "[I" (.ref t) (fun q => s.heap.size ≤ q) s s.heap ∧ va_T .int t (slX k).length (fun j => .int (iI ((slX k).getD j 0))) (fun q => s.heap.size ≤ q) s s.heap := by
  intro k
  by_cases hk : k < 9
  · have hA : ∀ a : Nat, a < s.heap.size → ¬ (s.heap.size ≤ a) := fun a h z => by omega
    rcases (show k = 0 ∨ k = 1 ∨ k = 2 ∨ k = 3 ∨ k = 4 ∨ k = 5 ∨ k = 6 ∨ k = 7 ∨ k = 8 by omega) with rfl | rfl | rfl | rfl | rfl | rfl | rfl | rfl | rfl
    · obtain ⟨t, h1, h2⟩ := va_Tof (f := fun j => .int (iI ((slX 0).getD j 0))) (by decide) (hs _ sa_0.1) (va_eqt (hs _ sa_0.2.1)) (fun j hj => va_eqt (hs _ (sa_0.2.2 j hj))) hA
      exact ⟨t, fun _ => ⟨va_Zof (hts _ sl_0) (hts _ (gw_tbl ini_X7)) h1 hA, h2⟩⟩
    · obtain ⟨t, h1, h2⟩ := va_Tof (f := fun j => .int (iI ((slX 1).getD j 0))) (by decide) (hs _ sa_1.1) (va_eqt (hs _ sa_1.2.1)) (fun j hj => va_eqt (hs _ (sa_1.2.2 j hj))) hA
      exact ⟨t, fun _ => ⟨va_Zof (hts _ sl_1) (hts _ (gw_tbl ini_X7)) h1 hA, h2⟩⟩
    · obtain ⟨t, h1, h2⟩ := va_Tof (f := fun j => .int (iI ((slX 2).getD j 0))) (by decide) (hs _ sa_2.1) (va_eqt (hs _ sa_2.2.1)) (fun j hj => va_eqt (hs _ (sa_2.2.2 j hj))) hA
      exact ⟨t, fun _ => ⟨va_Zof (hts _ sl_2) (hts _ (gw_tbl ini_X7)) h1 hA, h2⟩⟩
    · obtain ⟨t, h1, h2⟩ := va_Tof (f := fun j => .int (iI ((slX 3).getD j 0))) (by decide) (hs _ sa_3.1) (va_eqt (hs _ sa_3.2.1)) (fun j hj => va_eqt (hs _ (sa_3.2.2 j hj))) hA
      exact ⟨t, fun _ => ⟨va_Zof (hts _ sl_3) (hts _ (gw_tbl ini_X7)) h1 hA, h2⟩⟩
    · obtain ⟨t, h1, h2⟩ := va_Tof (f := fun j => .int (iI ((slX 4).getD j 0))) (by decide) (hs _ sa_4.1) (va_eqt (hs _ sa_4.2.1)) (fun j hj => va_eqt (hs _ (sa_4.2.2 j hj))) hA
      exact ⟨t, fun _ => ⟨va_Zof (hts _ sl_4) (hts _ (gw_tbl ini_X7)) h1 hA, h2⟩⟩
    · obtain ⟨t, h1, h2⟩ := va_Tof (f := fun j => .int (iI ((slX 5).getD j 0))) (by decide) (hs _ sa_5.1) (va_eqt (hs _ sa_5.2.1)) (fun j hj => va_eqt (hs _ (sa_5.2.2 j hj))) hA
      exact ⟨t, fun _ => ⟨va_Zof (hts _ sl_5) (hts _ (gw_tbl ini_X7)) h1 hA, h2⟩⟩
    · obtain ⟨t, h1, h2⟩ := va_Tof (f := fun j => .int (iI ((slX 6).getD j 0))) (by decide) (hs _ sa_6.1) (va_eqt (hs _ sa_6.2.1)) (fun j hj => va_eqt (hs _ (sa_6.2.2 j hj))) hA
      exact ⟨t, fun _ => ⟨va_Zof (hts _ sl_6) (hts _ (gw_tbl ini_X7)) h1 hA, h2⟩⟩
    · obtain ⟨t, h1, h2⟩ := va_Tof (f := fun j => .int (iI ((slX 7).getD j 0))) (by decide) (hs _ sa_7.1) (va_eqt (hs _ sa_7.2.1)) (fun j hj => va_eqt (hs _ (sa_7.2.2 j hj))) hA
      exact ⟨t, fun _ => ⟨va_Zof (hts _ sl_7) (hts _ (gw_tbl ini_X7)) h1 hA, h2⟩⟩
    · obtain ⟨t, h1, h2⟩ := va_Tof (f := fun j => .int (iI ((slX 8).getD j 0))) (by decide) (hs _ sa_8.1) (va_eqt (hs _ sa_8.2.1)) (fun j hj => va_eqt (hs _ (sa_8.2.2 j hj))) hA
      exact ⟨t, fun _ => ⟨va_Zof (hts _ sl_8) (hts _ (gw_tbl ini_X7)) h1 hA, h2⟩⟩
  · exact ⟨0, fun h => absurd h hk⟩
theorem start_tx {s : State} {args : Array Value} (hts : ∀ w ∈ lw_tbl, w.before args s = true) (hs : ∀ c ∈ flatC gN, c.before args s = true) : ∃ aK aV : Nat, F7 s.heap.size aK aV s := by
  have hA : ∀ a : Nat, a < s.heap.size → ¬ (s.heap.size ≤ a) := fun a h z => by omega
  obtain ⟨adK, adV, h1, h2⟩ := vk_Sof (args := args) (s := s) (N := 1) (tm := fun _ => .string "ColdHouse" 63) (len := [88]) (byt := [txL.map iI]) (A := fun q => s.heap.size ≤ q)
    (fun i hi => by rw [show i = 0 by omega]; decide) (fun i _ => hs _ st_a.1) (fun i _ => hs _ st_a.2.1) (fun i _ => hs _ st_a.2.2.1) (fun i hi => by rw [show i = 0 by omega]; exact hs _ st_a.2.2.2)
    (fun i hi j hj => by
      have e : i = 0 := by omega
      subst e
      have hj : j < 88 := hj
      have e2 : ((([txL.map iI] : List (List Int32)).getD 0 []).getD j 0) = iI (tX j) := by
        show (txL.map iI).getD j 0 = iI (txL.getD j 0)
        rw [List.getD_eq_getElem?_getD, List.getD_eq_getElem?_getD, List.getElem?_map]
        cases txL[j]? <;> rfl
      rw [e2]
      exact hs _ (st_b j hj))
    (fun i j hi hj hne => absurd (show i = j by omega) hne) hA
  obtain ⟨g1, g2, g3, g4⟩ := h1.1 0 (by decide)
  refine ⟨adK 0, adV 0, va_AO.of (hts _ sl_o), vk_R.of (hts _ sl_r) (h2 0 (by decide)), ⟨g1, g2, g3, ?_⟩, va_Zof (hts _ sl_c) (hts _ (gw_tbl ini_J0)) (va_eqt (hs _ st_c.1)) hA, va_Zqof (hts _ sl_q) (hts _ (gw_tbl ini_J3)) (hs _ st_c.2) hA⟩
  obtain ⟨cell, q1, q2, q3, q4, q5, q6, q7⟩ := g4
  refine ⟨cell, q1, q2, q3, q4, q5, fun j hj => ?_, q7⟩
  rw [q6 j hj]
  show some (Value.int ((txL.map iI).getD j 0)) = some (Value.int (iI (txL.getD j 0)))
  rw [List.getD_eq_getElem?_getD, List.getD_eq_getElem?_getD, List.getElem?_map]
  cases txL[j]? <;> rfl
theorem start_k {s : State} {args : Array Value} (hts : ∀ w ∈ lw_tbl, w.before args s = true) : ∃ (D : va_G) (Ca : Nat → ClassId), va_K D classes [(Ca 0, .int), (Ca 1, .long), (Ca 2, .char), (Ca 3, .object "ColdHouse$State")] s := by
  obtain ⟨c0, i0, k0⟩ := u_known (C := RX0) (T := TX0) (N := 6) hts (fun w hw => gw_tbl (in_X0 w hw)) (hts _ (gw_tbl inst_X0))
  obtain ⟨c1, i1, k1⟩ := u_known (C := RX1) (T := TX1) (N := 3) hts (fun w hw => gw_tbl (in_X1 w hw)) (hts _ (gw_tbl inst_X1))
  obtain ⟨c2, i2, k2⟩ := u_known (C := RX2) (T := TX2) (N := 14) hts (fun w hw => gw_tbl (in_X2 w hw)) (hts _ (gw_tbl inst_X2))
  obtain ⟨c3, i3, k3⟩ := u_known (C := RX3) (T := TX3) (N := 3) hts (fun w hw => gw_tbl (in_X3 w hw)) (hts _ (gw_tbl inst_X3))
  obtain ⟨c4, i4, k4⟩ := u_known (C := RX4) (T := TX4) (N := 9) hts (fun w hw => gw_tbl (in_X4 w hw)) (hts _ (gw_tbl inst_X4))
  obtain ⟨c5, i5, k5⟩ := u_known (C := RX5) (T := TX5) (N := 2) hts (fun w hw => gw_tbl (in_X5 w hw)) (hts _ (gw_tbl inst_X5))
  obtain ⟨c6, i6, k6⟩ := u_known (C := RX6) (T := TX6) (N := 15) hts (fun w hw => gw_tbl (in_X6 w hw)) (hts _ (gw_tbl inst_X6))
  obtain ⟨c7, i7, k7⟩ := u_known (C := RX7) (T := TX7) (N := 8) hts (fun w hw => gw_tbl (in_X7 w hw)) (hts _ (gw_tbl inst_X7))
  obtain ⟨c8, i8, k8⟩ := u_known (C := RX8) (T := TX8) (N := 15) hts (fun w hw => gw_tbl (in_X8 w hw)) (hts _ (gw_tbl inst_X8))
  obtain ⟨a0, kA0, p0, h0, g0, e0⟩ := Cond.arrayClass_spec (hts _ (gw_tbl ac_int))
  obtain ⟨a1, kA1, p1, h1, g1, e1⟩ := Cond.arrayClass_spec (hts _ (gw_tbl ac_long))
  obtain ⟨a2, kA2, p2, h2, g2, e2⟩ := Cond.arrayClass_spec (hts _ (gw_tbl ac_char))
  obtain ⟨p3, a3, kA3, f3, x3, g3, e3, h3⟩ := Cond.arrayOver_spec (hts _ sl_o)
  refine ⟨(fun c => match c with | 0 => c0 | 1 => c1 | 2 => c2 | 3 => c3 | 4 => c4 | 5 => c5 | 6 => c6 | 7 => c7 | _ => c8, fun c => match c with | 0 => i0 | 1 => i1 | 2 => i2 | 3 => i3 | 4 => i4 | 5 => i5 | 6 => i6 | 7 => i7 | _ => i8), fun k => match k with | 0 => a0 | 1 => a1 | 2 => a2 | _ => a3, fun c q hq => ?_, fun k q hq => ?_⟩
  · have hc : c < 9 := (List.getElem?_eq_some_iff.mp hq).1
    rcases (show c = 0 ∨ c = 1 ∨ c = 2 ∨ c = 3 ∨ c = 4 ∨ c = 5 ∨ c = 6 ∨ c = 7 ∨ c = 8 by omega) with rfl | rfl | rfl | rfl | rfl | rfl | rfl | rfl | rfl
    · cases hq; exact k0
    · cases hq; exact k1
    · cases hq; exact k2
    · cases hq; exact k3
    · cases hq; exact k4
    · cases hq; exact k5
    · cases hq; exact k6
    · cases hq; exact k7
    · cases hq; exact k8
  · have hc : k < 4 := (List.getElem?_eq_some_iff.mp hq).1
    rcases (show k = 0 ∨ k = 1 ∨ k = 2 ∨ k = 3 by omega) with rfl | rfl | rfl | rfl
    · cases hq; exact ⟨fun n z => ⟨fun k h => (by cases h), kA0, g0, p0, e0⟩, h0⟩
    · cases hq; exact ⟨fun n z => ⟨fun k h => (by cases h), kA1, g1, p1, e1⟩, h1⟩
    · cases hq; exact ⟨fun n z => ⟨fun k h => (by cases h), kA2, g2, p2, e2⟩, h2⟩
    · cases hq; exact ⟨fun n z => ⟨fun k h => (by cases h), kA3, g3, p3, e3⟩, kA3, p3, g3, e3, f3, h3⟩
theorem start_ok {s : State} {args : Array Value} (hts : ∀ w ∈ lw_tbl, w.before args s = true) (hgv : gN.before args s = true) : ∃ (D : va_G) (Ca : Nat → ClassId) (Sa : Nat → Nat) (aK aV : Nat), Sx (gL s.heap.size D Ca Sa) s s.heap ∧ F7 s.heap.size aK aV s := by
  have hs := flat_of_before _ hgv
  obtain ⟨aK, aV, hF⟩ := start_tx hts hs
  obtain ⟨D, Ca, hK⟩ := start_k hts
  obtain ⟨Sa, hSa⟩ : ∃ Sa : Nat → Nat, ∀ k : Nat, k < 9 → va_Z "ColdHouse" (snX k) "[I" (.ref (Sa k)) (fun q => s.heap.size ≤ q) s s.heap ∧ va_T .int (Sa k) (slX k).length (fun j => .int (iI ((slX k).getD j 0))) (fun q => s.heap.size ≤ q) s s.heap := ⟨fun k => Classical.choose (start_st hts hs k), fun k => Classical.choose_spec (start_st hts hs k)⟩
  refine ⟨D, Ca, Sa, aK, aV, ⟨ap_L _ D Ca Sa, hK, fun w hw => va_Nw.of ?_ (hts w (nw_tbl hw)), fun k hk => ⟨(hSa k hk).1.narrow (fun q z => gA_L z), (hSa k hk).2.narrow (fun q z => gA_L z)⟩⟩, hF⟩
  have h1 := (List.mem_filter.mp hw).2
  cases w <;> first | rfl | (simp [isNest] at h1)
