section FP
variable {p : Program} {l : Launch} {e : Env} {R : Room} {s : State} {m : MethodId} {args : Array Value} {below : List Frame} {meth : Method} {c : Code} {Q : State → Prop} {G : Ly} {nL pc : Nat} {lv : List (Nat × Value)} {st : List Value}
/-- an answer of which something is said, the world as it was -/
theorem fn_p {P : Int → Prop} {w' : Wd} (k : ∀ z : Int, P z → Gj p l e R s m args below meth c Q G nL pc lv (.int (iI z) :: st) w') : ∀ (z : Int) (w2 : Wd), (w2 = w' ∧ P z) → Gj p l e R s m args below meth c Q G nL pc lv (.int (iI z) :: st) w2 := by
  rintro z _ ⟨rfl, h⟩
  exact k z h
theorem fn_pl {P : Int → Prop} {w' : Wd} (k : ∀ z : Int, P z → Gj p l e R s m args below meth c Q G nL pc lv (.long (lI z) :: st) w') : ∀ (z : Int) (w2 : Wd), (w2 = w' ∧ P z) → Gj p l e R s m args below meth c Q G nL pc lv (.long (lI z) :: st) w2 := by
  rintro z _ ⟨rfl, h⟩
  exact k z h
end FP
def Hid (P : Prop) : Prop := P
theorem cmp_nn (a b : Int) : (0 ≤ (if b < a then (1 : Int) else if a = b then 0 else -1)) ↔ b ≤ a := by
  by_cases h : b < a
  · rw [if_pos h]; omega
  · rw [if_neg h]
    by_cases h2 : a = b
    · rw [if_pos h2]; omega
    · rw [if_neg h2]; omega
theorem cmp_in (a b : Int) : InR (if b < a then (1 : Int) else if a = b then 0 else -1) := by
  by_cases h : b < a
  · rw [if_pos h]; exact ⟨by decide, by decide⟩
  · rw [if_neg h]
    by_cases h2 : a = b
    · rw [if_pos h2]; exact ⟨by decide, by decide⟩
    · rw [if_neg h2]; exact ⟨by decide, by decide⟩
