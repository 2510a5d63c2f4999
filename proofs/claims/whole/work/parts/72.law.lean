/-! the loop; the entry; the claim -/
section LC
variable {p : Program} {l : Launch} {e : Env} {s : State} {m : MethodId} {b : Nat} {below : List Frame} {meth : Method} {c : Code} {D : va_G} {Ca : Nat → ClassId} {Sa : Nat → Nat} {L : Nat} {xs : Nat → Int32}
set_option maxHeartbeats 4000000 in
set_option maxRecDepth 100000 in
theorem law_loop (X : Cb p s m #[Value.ref b] meth c code 4 ret "ColdHouseLaw") (hSx : Sx (gL s.heap.size D Ca Sa) s s.heap) (hXs : va_X b L xs s s.heap) (hbl : b < s.heap.size) (hL : L ≤ 2048) :
    ∀ (d : Nat) (i : Int), 0 ≤ i → i ≤ 4096 → (L : Int) - i ≤ (d : Int) → ∀ w x, INV w x → Lj p l e s m b below meth c D Ca Sa 18 i [] w x := by
  intro d
  have hbA : ¬ (s.heap.size ≤ b) := by omega
  induction d with
  | zero =>
    intro i hi hi4 hd w x h
    refine k_iload_n X dL_18 rfl 0 rfl ?_
    refine k_aload_n X dL_19 rfl 3 rfl ?_
    refine k_slenX X hXs hbl hbA dL_20 ?_
    refine k_iconst X dL_21 ?_
    refine k_isub X dL_22 ?_
    refine k_icmp_gt X dL_23 (tgt := 526) rfl ⟨by omega, by omega⟩ ⟨by omega, by omega⟩ (fun _ => ?_) (fun q => by omega)
    refine k_iconst X dL_526 ?_
    exact fun H locs ls h1 hz h2 h3 => va_forget (fun q hq => h2.2.2 q hq) (W.widen (k := 600000) (n := 7302250) (Nat.le_of_ble_eq_true rfl) (Nat.le_of_ble_eq_true rfl) (lw_ret X.1 X.2.1 X.2.2.2.2.2.2 X.2.2.2.2.2.1 dL_527))
  | succ d ih =>
    intro i hi hi4 hd w x h
    refine k_iload_n X dL_18 rfl 0 rfl ?_
    refine k_aload_n X dL_19 rfl 3 rfl ?_
    refine k_slenX X hXs hbl hbA dL_20 ?_
    refine k_iconst X dL_21 ?_
    refine k_isub X dL_22 ?_
    refine k_icmp_gt X dL_23 (tgt := 526) rfl ⟨by omega, by omega⟩ ⟨by omega, by omega⟩ (fun _ => ?_) (fun hq => ?_)
    · refine k_iconst X dL_526 ?_
      exact fun H locs ls h1 hz h2 h3 => va_forget (fun q hq => h2.2.2 q hq) (W.widen (k := 600000) (n := 7302250) (Nat.le_of_ble_eq_true rfl) (Nat.le_of_ble_eq_true rfl) (lw_ret X.1 X.2.1 X.2.2.2.2.2.2 X.2.2.2.2.2.1 dL_527))
    · have hi2 : i + 3 < (L : Int) := by omega
      have next : ∀ w2 x2, INV w2 x2 → Lj p l e s m b below meth c D Ca Sa 520 i [] w2 x2 := fun w2 x2 h2 => by
        refine k_iinc X dL_520 (j := 0) rfl (by decide) rfl ?_
        refine k_goto X dL_523 (tgt := 18) rfl ?_
        exact ih (i + 4) (by omega) (by omega) (by omega) w2 x2 h2
      refine k_aload_n X dL_26 rfl 3 rfl ?_
      refine k_iload_n X dL_27 rfl 0 rfl ?_
      refine k_sld X hXs hbl hbA ⟨hi, by omega⟩ hL dL_28 ?_
      refine k_bipush X dL_29 rfl ?_
      refine k_iand X dL_31 ?_
      have hb15 := band15_in (xs i.toNat).toInt
      generalize band (xs i.toNat).toInt 15 = v at hb15 ⊢
      rcases (show v = 0 ∨ v = 1 ∨ v = 2 ∨ v = 3 ∨ v = 4 ∨ v = 5 ∨ v = 6 ∨ v = 7 ∨ v = 8 ∨ v = 9 ∨ v = 10 ∨ v = 11 ∨ v = 12 ∨ v = 13 ∨ v = 14 ∨ v = 15 by omega) with rfl | rfl | rfl | rfl | rfl | rfl | rfl | rfl | rfl | rfl | rfl | rfl | rfl | rfl | rfl | rfl
      · exact k_tableIn X dL_32 (a := 0) (off := 80) (tgt := 112) ⟨by decide, by decide⟩ (by decide) (by decide) rfl rfl (case_write X hSx hXs hbl hL hi hi2 h next)
      · exact k_tableIn X dL_32 (a := 1) (off := 103) (tgt := 135) ⟨by decide, by decide⟩ (by decide) (by decide) rfl rfl (case_wipe X hSx hXs hbl hL hi hi2 h next)
      · exact k_tableIn X dL_32 (a := 2) (off := 116) (tgt := 148) ⟨by decide, by decide⟩ (by decide) (by decide) rfl rfl (case_fault X hSx hXs hbl hL hi hi2 h next)
      · exact k_tableIn X dL_32 (a := 3) (off := 129) (tgt := 161) ⟨by decide, by decide⟩ (by decide) (by decide) rfl rfl (case_lay X hSx hXs hbl hL hi hi2 h next)
      · exact k_tableIn X dL_32 (a := 4) (off := 142) (tgt := 174) ⟨by decide, by decide⟩ (by decide) (by decide) rfl rfl (case_tell X hSx hXs hbl hL hi hi2 h next)
      · exact k_tableIn X dL_32 (a := 5) (off := 175) (tgt := 207) ⟨by decide, by decide⟩ (by decide) (by decide) rfl rfl (case_lock X hSx hXs hbl hL hi hi2 h next)
      · exact k_tableIn X dL_32 (a := 6) (off := 208) (tgt := 240) ⟨by decide, by decide⟩ (by decide) (by decide) rfl rfl (case_dip X hSx hXs hbl hL hi hi2 h next)
      · exact k_tableIn X dL_32 (a := 7) (off := 221) (tgt := 253) ⟨by decide, by decide⟩ (by decide) (by decide) rfl rfl (case_tick X hSx hXs hbl hL hi hi2 h next)
      · exact k_tableIn X dL_32 (a := 8) (off := 244) (tgt := 276) ⟨by decide, by decide⟩ (by decide) (by decide) rfl rfl (case_undo X hSx hXs hbl hL hi hi2 h next)
      · exact k_tableIn X dL_32 (a := 9) (off := 257) (tgt := 289) ⟨by decide, by decide⟩ (by decide) (by decide) rfl rfl (case_machine X hSx hXs hbl hL hi hi2 h next)
      · exact k_tableIn X dL_32 (a := 10) (off := 290) (tgt := 322) ⟨by decide, by decide⟩ (by decide) (by decide) rfl rfl (case_power X hSx hXs hbl hL hi hi2 h next)
      · exact k_tableIn X dL_32 (a := 11) (off := 333) (tgt := 365) ⟨by decide, by decide⟩ (by decide) (by decide) rfl rfl (case_share X hSx hXs hbl hL hi hi2 h next)
      · exact k_tableIn X dL_32 (a := 12) (off := 376) (tgt := 408) ⟨by decide, by decide⟩ (by decide) (by decide) rfl rfl (case_best X hSx hXs hbl hL hi hi2 h next)
      · exact k_tableIn X dL_32 (a := 13) (off := 409) (tgt := 441) ⟨by decide, by decide⟩ (by decide) (by decide) rfl rfl (case_now X hSx hXs hbl hL hi hi2 h next)
      · exact k_tableIn X dL_32 (a := 14) (off := 432) (tgt := 464) ⟨by decide, by decide⟩ (by decide) (by decide) rfl rfl (case_ahead X hSx hXs hbl hL hi hi2 h next)
      · exact k_tableIn X dL_32 (a := 15) (off := 465) (tgt := 497) ⟨by decide, by decide⟩ (by decide) (by decide) rfl rfl (case_count X hSx hXs hbl hL hi hi2 h next)
end LC
set_option maxHeartbeats 4000000 in
set_option maxRecDepth 100000 in
/-- YOUR PART: from the entry, for every script of at most 2048 ints, the law comes to its end with true ('hflags': the launch's flags, for a law that throws: no stack traces) -/
theorem whole_start {p : Program} {e : Env} {s : State} {m : MethodId} {below : List Frame} {meth : Method} {c : Code} (l : Launch) (hflags : l.flags = flags0) {b L : Nat} {xs : Nat → Int32} (hL : L ≤ 2048) (C0 : lw_At p s m meth c b L xs) : W p l e room_1 s m #[Value.ref b] below meth c s.heap [] 0 0 (lw_Z below #[Value.ref b] s) (entryFrame m ([Value.ref b] : List Value).toArray 4) := by
  obtain ⟨hx, hb, hr, hml, hown, hts, hXs, hbl, hlk, hgv⟩ := C0
  obtain ⟨D, Ca, Sa, aK, aV, hSx, hF⟩ := start_ok hts hgv
  have X : Cx p s m #[Value.ref b] meth c code 4 ret "ColdHouseLaw" (gL s.heap.size D Ca Sa) := ⟨⟨hx, hb, hml, hown, fun w hw => hts w (gw_tbl hw), hlk, hr⟩, hSx⟩
  have hAG : ∀ q, q < s.heap.size → s.heap.size ≤ q → gA (gL s.heap.size D Ca Sa) q := fun q h1 h2 => by omega
  have K : Kj p l e room_1 s m #[Value.ref b] below meth c (lw_Z below #[Value.ref b] s) (fun q => s.heap.size ≤ q) 4 0 0 0 [(0, .ref b)] [] (fun _ => True) := by
    refine k_new X (w := wz) (o := 0) ck_X7 cl_L_7 inst_X7 ini_X7 nu_7 rfl ⟨(Nat.le_of_ble_eq_true rfl), (Nat.le_of_ble_eq_true rfl)⟩ dL_0 ?_
    refine k_dup X.1 dL_3 rfl ?_
    refine k_init (st := [.ref (s.heap.size + offO 0)]) (As := []) X hAG (c_X7_init l s.heap.size D Ca Sa aK aV) (fun U g mk a h => ⟨va_AO.moved (Vm.Alike.refl _) h.1, h.2.call⟩) (fun H locs U hS hU hW => ⟨va_AO.moved hW.alike hF.1, hF.2.go hS hU hW⟩) cm_X7_init im_X7_init rfl ml_L_9 (fun q h => Nat.le_trans (Nat.le_add_right _ _) h) rfl ⟨(Nat.le_of_ble_eq_true rfl), (Nat.le_of_ble_eq_true rfl)⟩ ⟨(Nat.le_of_ble_eq_true rfl), (Nat.le_of_ble_eq_true rfl)⟩ rfl rfl (Nat.le_of_ble_eq_true rfl) dL_4 (fun w hw => ?_)
    refine k_wk (P' := Hold (gR (gL s.heap.size D Ca Sa) bs9) w) (fun H _ h => h.2) ?_
    refine k_astore_n X.1 dL_7 rfl (by decide) rfl ?_
    refine k_new X (w := wz) (o := 20) ck_X8 cl_L_10 inst_X8 ini_X8 nu_8 rfl ⟨(Nat.le_of_ble_eq_true rfl), (Nat.le_of_ble_eq_true rfl)⟩ dL_8 ?_
    refine k_dup X.1 dL_11 rfl ?_
    refine k_init (st := [.ref (s.heap.size + offO 20)]) (As := []) X hAG (c_X8_init l (gL s.heap.size D Ca Sa) rfl ⟨rfl, rfl, rfl, rfl, rfl, rfl, rfl, rfl, rfl⟩) (fun _ _ _ _ _ => trivial) (fun _ _ _ _ _ _ => trivial) cm_X8_init im_X8_init rfl ml_L_12 (fun q h => Nat.le_trans (Nat.le_add_right _ _) h) rfl ⟨(Nat.le_of_ble_eq_true rfl), (Nat.le_of_ble_eq_true rfl)⟩ ⟨(Nat.le_of_ble_eq_true rfl), (Nat.le_of_ble_eq_true rfl)⟩ rfl rfl (Nat.le_of_ble_eq_true rfl) dL_12 (fun x hx' => ?_)
    refine k_wk (P' := fun H => Hold (gR (gL s.heap.size D Ca Sa) bs9) w H ∧ Hold (gR (gL s.heap.size D Ca Sa) b20) x H) (fun H _ h => ⟨pa_ext ext_hold h.1, h.2⟩) ?_
    refine k_astore_n X.1 dL_15 rfl (by decide) rfl ?_
    refine k_iconst X.1 dL_16 ?_
    refine k_istore_n X.1 dL_17 rfl (by decide) rfl ?_
    exact law_loop X.1 hSx hXs hbl hL L 0 (by decide) (by decide) (by omega) w x (inv_0 hw hx')
  rw [lg_entry_eq]
  exact K s.heap [] _ trivial rfl va_S.rf (lv_entry ([Value.ref b] : List Value) (n := 4) (Nat.le_of_ble_eq_true rfl))
set_option maxHeartbeats 4000000 in
theorem lw_walk (l : Launch) (hflags : l.flags = flags0) (b : Addr) (xs : List Int32) : MetFree l x (headSpec (Jvm.Cond.code x code maxLocals ret :: tables_1) room_1) (lw_P b xs) (fun _ _ _ _ _ => True) lw_Q := by
  refine MetFree.of_bodyS (code := code) (maxLocals := maxLocals) (ret := ret) (by decide) ?_ ?_
  · intro args s m h hn
    obtain ⟨meth, c, h1, h2, h3, h4, h5, h6, -, -⟩ := Cond.code_spec hn (atoms_spec (ws := Jvm.Cond.code x code maxLocals ret :: tables_1) h _ List.mem_cons_self)
    exact ⟨meth, c, h1, h2, h3, h4, h5, h6⟩
  · intro p e s m args below meth c s₁ B hml0 hP _
    obtain ⟨rfl, hx, hbd, hgv⟩ := hP
    obtain ⟨scr, harrAt, hlist, hof, hsmall⟩ := hx
    obtain ⟨hcb, hkn, -, -⟩ := State.arrayAt?_spec harrAt
    have hown : s.vm.findClass R_law = some m.cls := findClass_of_methodNamed B.named
    have hts0 : ∀ c ∈ (Jvm.Cond.code x code maxLocals ret :: tables_1), c.before #[Value.ref b] s = true := atoms_spec (ws := Jvm.Cond.code x code maxLocals ret :: tables_1) B.pre
    have hts : ∀ w ∈ lw_tbl, w.before #[Value.ref b] s = true := k2_hts_sels lw_privs (fun w hw => hts0 w (List.mem_cons_of_mem _ hw)) lw_privs_ok
    have hml : c.maxLocals = 4 := B.maxLocals_eq (hts0 _ List.mem_cons_self)
    have X₀ : Stand p l e room_1 s m #[Value.ref b] below meth c s₁ [] 0 0 := Stand.of_body B
    have hh0 : s₁.heap = s.heap := by rw [B.state]; rfl
    have hsz : scr.slots.size = xs.length := by rw [← Array.length_toList, hlist, List.length_map]
    have hval : ∀ j : Nat, j < xs.length → scr.slots[j]? = some (.int (xs.getD j 0)) := fun j hj => by
      rw [← Array.getElem?_toList, hlist]
      simp [hj]
    have hbl : b < s.heap.size := (Array.getElem?_eq_some_iff.mp hcb).1
    have hX : va_X b xs.length (fun j => xs.getD j 0) s s.heap := ⟨scr, hcb, hof, hkn, hsz, hval⟩
    have K : W p l e room_1 s m #[Value.ref b] below meth c s₁.heap [] 0 0 (lw_Z below #[Value.ref b] s) (entryFrame m ([Value.ref b] : List Value).toArray 4) := by
      rw [hh0]
      exact whole_start l hflags hbd ⟨B.exec, B.bytes, B.returns, hml, hown, hts, hX, hbl, B.notSynchronized, hgv⟩
    obtain ⟨t, a1, o, b1, b2, b3⟩ := K s₁ rfl X₀
    exact ⟨t, o, a1, b1, b2, b3⟩
theorem lw_pre_spec {args : Array Value} {s : State} (h : (Jvm.Cond.and given_1 narrow_1).before args s = true) (hr : rest_1_c.before args s = true) : ∃ (b : Addr) (xs : List Int32), lw_P b xs args s := by
  have hs := flat_of_before _ h
  have hq := flat_of_before _ hr
  have hc : (Cond.count 1).before args s = true := hs _ (by decide +kernel)
  have harr : (Cond.arrayOf (.arg 0) .int).before args s = true := hs _ (by decide +kernel)
  have hle : (Cond.le (.length (.arg 0)) (.int 2048)).before args s = true := hs _ (by decide +kernel)
  have hlen : (Cond.isInt (.length (.arg 0))).before args s = true := hq _ (by decide +kernel)
  have hall : (Cond.all (.arg 0) (.isInt (.elem (.arg 0) (.index 0)))).before args s = true := hq _ (by decide +kernel)
  obtain ⟨b, xs, hb, hx⟩ := State.ints_of_pre rfl harr hlen hall
  have hsm : xs.length < 2 ^ 31 := hx.choose_spec.2.2.2
  have hev : (Term.length (.arg 0)).eval args s none [] s = some (.int xs.length.toInt32) := hx.length_eval hb
  have hv := Cond.le_ints hev (show (Term.int 2048).eval args s none [] s = some (.int 2048) from rfl)
  have hd : xs.length.toInt32 ≤ 2048 := by
    simpa [Cond.before, Cond.holds, hv] using hle
  have hN : xs.length ≤ 2048 := (Int32.ofNat_le_ofNat hsm (by decide)).mp (show Int32.ofNat xs.length ≤ Int32.ofNat 2048 from hd)
  exact ⟨b, xs, Cond.one_arg hc (show args[0]? = some (.ref b) from hb), hx, hN, h⟩
theorem lw_comes (l : Launch) (hflags : l.flags = flags0) : Comes l x (Jvm.Cond.code x code maxLocals ret :: tables_1) room_1 (fun tb e args s => Calls_1 tb e args s ∧ rest_1 tb e args s ∧ Pre_1 tb e args s)
    (fun _ _ args s o t => lw_Q args s o t) := by
  intro p e ha hc hk s m args below hf hfit hheap happ hpre
  obtain ⟨b, xs, hP⟩ := lw_pre_spec hpre.2.2 hpre.2.1
  obtain ⟨k, o, h1, h2, h3, hQ⟩ := lw_walk l hflags b xs p e ha hc hk s m args below hf ((Spec.applies_iff_loose hf).mp happ).1 hP trivial
  exact ⟨k, o, h1, h2, h3, hQ⟩
theorem lw_frame {s t : State} {o : Outcome} {args : Array Value} (h : Framed s o t [] 600000 7302250) :
    Framed s o t (fieldLocs frame_1_writes args s ++ arrayLocs frame_1_arrays args s ++ staticLocs frame_1_statics s) 600000 7302250 := h
theorem lw_limb (L : Cond) (hL : ∀ (args : Array Value) (s t : State), L.after args s (.returned (some (.int 1))) t = true) :
    ArmFor flags0 classFile x code maxLocals ret World_1 tables_1 room_1 Calls_1 rest_1 Pre_1
      (fun tb e a s o t => postC L tb e a s o t ∧ Framed s o t (fieldLocs frame_1_writes a s ++ arrayLocs frame_1_arrays a s ++ staticLocs frame_1_statics s) 600000 7302250) := by
  intro l hflags _ _ p e ha hc hk s m args below hf hfit hheap happ hpre
  obtain ⟨k, o, h1, h2, h3, rfl, hF⟩ := lw_comes l hflags p e ha hc hk s m args below hf hfit hheap happ hpre
  exact ⟨k, _, h1, h2, h3, hL args s _, lw_frame hF⟩
theorem i_vc : Claimed_1_1 ∧ Claimed_1_2 := ⟨lw_limb limb_1_1 (fun args s t => by simp [limb_1_1, Cond.after, Cond.holds, Cond.value]), lw_limb limb_1_2 (fun args s t => Cond.after_iff.mpr (by
  first | (rw [show limb_1_2 = Cond.eq .result (.int 1) from rfl, Cond.eq_ints (x := 1) (y := 1) rfl rfl]; simp; done) | (simp [limb_1_2, Cond.value, Term.eval]; done)))⟩
