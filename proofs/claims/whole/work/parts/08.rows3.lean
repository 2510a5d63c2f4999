section RC
variable {p : Program} {l : Launch} {e : Env} {R : Room} {s : State} {m : MethodId} {args : Array Value} {below : List Frame} {meth : Method} {c : Code} {Q : State → Prop} {cc : ByteArray} {nL : Nat} {ret : Option FieldType} {own : String} {G : Ly} {pc : Nat} {lv : List (Nat × Value)} {st : List Value} {w : Wd}
theorem g_w {w' : Wd} (h : w' = w) (k : Gj p l e R s m args below meth c Q G nL pc lv st w') : Gj p l e R s m args below meth c Q G nL pc lv st w := h ▸ k
theorem g_loop1 {α0 : Type} (lvf : (α0 → List (Nat × Value))) (wf : (α0 → Wd)) (I : (α0 → Prop)) (M : (α0 → Nat)) (x0 : α0) (hI : I x0) (step : ∀ (x0 : α0), I x0 → (∀ (y0 : α0), I y0 → M y0 < M x0 → Gj p l e R s m args below meth c Q G nL pc (lvf y0) [] (wf y0)) → Gj p l e R s m args below meth c Q G nL pc (lvf x0) [] (wf x0)) : Gj p l e R s m args below meth c Q G nL pc (lvf x0) [] (wf x0) := by
  have key : ∀ (n : Nat) (x0 : α0), I x0 → M x0 < n → Gj p l e R s m args below meth c Q G nL pc (lvf x0) [] (wf x0) := by
    intro n
    induction n with
    | zero => intro x0 _ h; exact absurd h (Nat.not_lt_zero _)
    | succ n ih => intro x0 h1 h2; exact step x0 h1 (fun y0 g1 g2 => ih y0 g1 (by omega))
  exact key _ x0 hI (Nat.lt_succ_self _)
theorem g_cut1 {α0 : Type} {pc' : Nat} (lvf : (α0 → List (Nat × Value))) (stf : (α0 → List Value)) (wf : (α0 → Wd)) (I : (α0 → Prop)) (body : ∀ (x0 : α0), I x0 → Gj p l e R s m args below meth c Q G nL pc' (lvf x0) (stf x0) (wf x0)) (main : (∀ (x0 : α0), I x0 → Gj p l e R s m args below meth c Q G nL pc' (lvf x0) (stf x0) (wf x0)) → Gj p l e R s m args below meth c Q G nL pc lv st w) : Gj p l e R s m args below meth c Q G nL pc lv st w := main body
theorem g_loop2 {α0 α1 : Type} (lvf : (α0 → α1 → List (Nat × Value))) (wf : (α0 → α1 → Wd)) (I : (α0 → α1 → Prop)) (M : (α0 → α1 → Nat)) (x0 : α0) (x1 : α1) (hI : I x0 x1) (step : ∀ (x0 : α0) (x1 : α1), I x0 x1 → (∀ (y0 : α0) (y1 : α1), I y0 y1 → M y0 y1 < M x0 x1 → Gj p l e R s m args below meth c Q G nL pc (lvf y0 y1) [] (wf y0 y1)) → Gj p l e R s m args below meth c Q G nL pc (lvf x0 x1) [] (wf x0 x1)) : Gj p l e R s m args below meth c Q G nL pc (lvf x0 x1) [] (wf x0 x1) := by
  have key : ∀ (n : Nat) (x0 : α0) (x1 : α1), I x0 x1 → M x0 x1 < n → Gj p l e R s m args below meth c Q G nL pc (lvf x0 x1) [] (wf x0 x1) := by
    intro n
    induction n with
    | zero => intro x0 x1 _ h; exact absurd h (Nat.not_lt_zero _)
    | succ n ih => intro x0 x1 h1 h2; exact step x0 x1 h1 (fun y0 y1 g1 g2 => ih y0 y1 g1 (by omega))
  exact key _ x0 x1 hI (Nat.lt_succ_self _)
theorem g_cut2 {α0 α1 : Type} {pc' : Nat} (lvf : (α0 → α1 → List (Nat × Value))) (stf : (α0 → α1 → List Value)) (wf : (α0 → α1 → Wd)) (I : (α0 → α1 → Prop)) (body : ∀ (x0 : α0) (x1 : α1), I x0 x1 → Gj p l e R s m args below meth c Q G nL pc' (lvf x0 x1) (stf x0 x1) (wf x0 x1)) (main : (∀ (x0 : α0) (x1 : α1), I x0 x1 → Gj p l e R s m args below meth c Q G nL pc' (lvf x0 x1) (stf x0 x1) (wf x0 x1)) → Gj p l e R s m args below meth c Q G nL pc lv st w) : Gj p l e R s m args below meth c Q G nL pc lv st w := main body
theorem g_loop3 {α0 α1 α2 : Type} (lvf : (α0 → α1 → α2 → List (Nat × Value))) (wf : (α0 → α1 → α2 → Wd)) (I : (α0 → α1 → α2 → Prop)) (M : (α0 → α1 → α2 → Nat)) (x0 : α0) (x1 : α1) (x2 : α2) (hI : I x0 x1 x2) (step : ∀ (x0 : α0) (x1 : α1) (x2 : α2), I x0 x1 x2 → (∀ (y0 : α0) (y1 : α1) (y2 : α2), I y0 y1 y2 → M y0 y1 y2 < M x0 x1 x2 → Gj p l e R s m args below meth c Q G nL pc (lvf y0 y1 y2) [] (wf y0 y1 y2)) → Gj p l e R s m args below meth c Q G nL pc (lvf x0 x1 x2) [] (wf x0 x1 x2)) : Gj p l e R s m args below meth c Q G nL pc (lvf x0 x1 x2) [] (wf x0 x1 x2) := by
  have key : ∀ (n : Nat) (x0 : α0) (x1 : α1) (x2 : α2), I x0 x1 x2 → M x0 x1 x2 < n → Gj p l e R s m args below meth c Q G nL pc (lvf x0 x1 x2) [] (wf x0 x1 x2) := by
    intro n
    induction n with
    | zero => intro x0 x1 x2 _ h; exact absurd h (Nat.not_lt_zero _)
    | succ n ih => intro x0 x1 x2 h1 h2; exact step x0 x1 x2 h1 (fun y0 y1 y2 g1 g2 => ih y0 y1 y2 g1 (by omega))
  exact key _ x0 x1 x2 hI (Nat.lt_succ_self _)
theorem g_cut3 {α0 α1 α2 : Type} {pc' : Nat} (lvf : (α0 → α1 → α2 → List (Nat × Value))) (stf : (α0 → α1 → α2 → List Value)) (wf : (α0 → α1 → α2 → Wd)) (I : (α0 → α1 → α2 → Prop)) (body : ∀ (x0 : α0) (x1 : α1) (x2 : α2), I x0 x1 x2 → Gj p l e R s m args below meth c Q G nL pc' (lvf x0 x1 x2) (stf x0 x1 x2) (wf x0 x1 x2)) (main : (∀ (x0 : α0) (x1 : α1) (x2 : α2), I x0 x1 x2 → Gj p l e R s m args below meth c Q G nL pc' (lvf x0 x1 x2) (stf x0 x1 x2) (wf x0 x1 x2)) → Gj p l e R s m args below meth c Q G nL pc lv st w) : Gj p l e R s m args below meth c Q G nL pc lv st w := main body
theorem g_loop4 {α0 α1 α2 α3 : Type} (lvf : (α0 → α1 → α2 → α3 → List (Nat × Value))) (wf : (α0 → α1 → α2 → α3 → Wd)) (I : (α0 → α1 → α2 → α3 → Prop)) (M : (α0 → α1 → α2 → α3 → Nat)) (x0 : α0) (x1 : α1) (x2 : α2) (x3 : α3) (hI : I x0 x1 x2 x3) (step : ∀ (x0 : α0) (x1 : α1) (x2 : α2) (x3 : α3), I x0 x1 x2 x3 → (∀ (y0 : α0) (y1 : α1) (y2 : α2) (y3 : α3), I y0 y1 y2 y3 → M y0 y1 y2 y3 < M x0 x1 x2 x3 → Gj p l e R s m args below meth c Q G nL pc (lvf y0 y1 y2 y3) [] (wf y0 y1 y2 y3)) → Gj p l e R s m args below meth c Q G nL pc (lvf x0 x1 x2 x3) [] (wf x0 x1 x2 x3)) : Gj p l e R s m args below meth c Q G nL pc (lvf x0 x1 x2 x3) [] (wf x0 x1 x2 x3) := by
  have key : ∀ (n : Nat) (x0 : α0) (x1 : α1) (x2 : α2) (x3 : α3), I x0 x1 x2 x3 → M x0 x1 x2 x3 < n → Gj p l e R s m args below meth c Q G nL pc (lvf x0 x1 x2 x3) [] (wf x0 x1 x2 x3) := by
    intro n
    induction n with
    | zero => intro x0 x1 x2 x3 _ h; exact absurd h (Nat.not_lt_zero _)
    | succ n ih => intro x0 x1 x2 x3 h1 h2; exact step x0 x1 x2 x3 h1 (fun y0 y1 y2 y3 g1 g2 => ih y0 y1 y2 y3 g1 (by omega))
  exact key _ x0 x1 x2 x3 hI (Nat.lt_succ_self _)
theorem g_cut4 {α0 α1 α2 α3 : Type} {pc' : Nat} (lvf : (α0 → α1 → α2 → α3 → List (Nat × Value))) (stf : (α0 → α1 → α2 → α3 → List Value)) (wf : (α0 → α1 → α2 → α3 → Wd)) (I : (α0 → α1 → α2 → α3 → Prop)) (body : ∀ (x0 : α0) (x1 : α1) (x2 : α2) (x3 : α3), I x0 x1 x2 x3 → Gj p l e R s m args below meth c Q G nL pc' (lvf x0 x1 x2 x3) (stf x0 x1 x2 x3) (wf x0 x1 x2 x3)) (main : (∀ (x0 : α0) (x1 : α1) (x2 : α2) (x3 : α3), I x0 x1 x2 x3 → Gj p l e R s m args below meth c Q G nL pc' (lvf x0 x1 x2 x3) (stf x0 x1 x2 x3) (wf x0 x1 x2 x3)) → Gj p l e R s m args below meth c Q G nL pc lv st w) : Gj p l e R s m args below meth c Q G nL pc lv st w := main body
theorem g_loop5 {α0 α1 α2 α3 α4 : Type} (lvf : (α0 → α1 → α2 → α3 → α4 → List (Nat × Value))) (wf : (α0 → α1 → α2 → α3 → α4 → Wd)) (I : (α0 → α1 → α2 → α3 → α4 → Prop)) (M : (α0 → α1 → α2 → α3 → α4 → Nat)) (x0 : α0) (x1 : α1) (x2 : α2) (x3 : α3) (x4 : α4) (hI : I x0 x1 x2 x3 x4) (step : ∀ (x0 : α0) (x1 : α1) (x2 : α2) (x3 : α3) (x4 : α4), I x0 x1 x2 x3 x4 → (∀ (y0 : α0) (y1 : α1) (y2 : α2) (y3 : α3) (y4 : α4), I y0 y1 y2 y3 y4 → M y0 y1 y2 y3 y4 < M x0 x1 x2 x3 x4 → Gj p l e R s m args below meth c Q G nL pc (lvf y0 y1 y2 y3 y4) [] (wf y0 y1 y2 y3 y4)) → Gj p l e R s m args below meth c Q G nL pc (lvf x0 x1 x2 x3 x4) [] (wf x0 x1 x2 x3 x4)) : Gj p l e R s m args below meth c Q G nL pc (lvf x0 x1 x2 x3 x4) [] (wf x0 x1 x2 x3 x4) := by
  have key : ∀ (n : Nat) (x0 : α0) (x1 : α1) (x2 : α2) (x3 : α3) (x4 : α4), I x0 x1 x2 x3 x4 → M x0 x1 x2 x3 x4 < n → Gj p l e R s m args below meth c Q G nL pc (lvf x0 x1 x2 x3 x4) [] (wf x0 x1 x2 x3 x4) := by
    intro n
    induction n with
    | zero => intro x0 x1 x2 x3 x4 _ h; exact absurd h (Nat.not_lt_zero _)
    | succ n ih => intro x0 x1 x2 x3 x4 h1 h2; exact step x0 x1 x2 x3 x4 h1 (fun y0 y1 y2 y3 y4 g1 g2 => ih y0 y1 y2 y3 y4 g1 (by omega))
  exact key _ x0 x1 x2 x3 x4 hI (Nat.lt_succ_self _)
theorem g_cut5 {α0 α1 α2 α3 α4 : Type} {pc' : Nat} (lvf : (α0 → α1 → α2 → α3 → α4 → List (Nat × Value))) (stf : (α0 → α1 → α2 → α3 → α4 → List Value)) (wf : (α0 → α1 → α2 → α3 → α4 → Wd)) (I : (α0 → α1 → α2 → α3 → α4 → Prop)) (body : ∀ (x0 : α0) (x1 : α1) (x2 : α2) (x3 : α3) (x4 : α4), I x0 x1 x2 x3 x4 → Gj p l e R s m args below meth c Q G nL pc' (lvf x0 x1 x2 x3 x4) (stf x0 x1 x2 x3 x4) (wf x0 x1 x2 x3 x4)) (main : (∀ (x0 : α0) (x1 : α1) (x2 : α2) (x3 : α3) (x4 : α4), I x0 x1 x2 x3 x4 → Gj p l e R s m args below meth c Q G nL pc' (lvf x0 x1 x2 x3 x4) (stf x0 x1 x2 x3 x4) (wf x0 x1 x2 x3 x4)) → Gj p l e R s m args below meth c Q G nL pc lv st w) : Gj p l e R s m args below meth c Q G nL pc lv st w := main body
theorem g_loop6 {α0 α1 α2 α3 α4 α5 : Type} (lvf : (α0 → α1 → α2 → α3 → α4 → α5 → List (Nat × Value))) (wf : (α0 → α1 → α2 → α3 → α4 → α5 → Wd)) (I : (α0 → α1 → α2 → α3 → α4 → α5 → Prop)) (M : (α0 → α1 → α2 → α3 → α4 → α5 → Nat)) (x0 : α0) (x1 : α1) (x2 : α2) (x3 : α3) (x4 : α4) (x5 : α5) (hI : I x0 x1 x2 x3 x4 x5) (step : ∀ (x0 : α0) (x1 : α1) (x2 : α2) (x3 : α3) (x4 : α4) (x5 : α5), I x0 x1 x2 x3 x4 x5 → (∀ (y0 : α0) (y1 : α1) (y2 : α2) (y3 : α3) (y4 : α4) (y5 : α5), I y0 y1 y2 y3 y4 y5 → M y0 y1 y2 y3 y4 y5 < M x0 x1 x2 x3 x4 x5 → Gj p l e R s m args below meth c Q G nL pc (lvf y0 y1 y2 y3 y4 y5) [] (wf y0 y1 y2 y3 y4 y5)) → Gj p l e R s m args below meth c Q G nL pc (lvf x0 x1 x2 x3 x4 x5) [] (wf x0 x1 x2 x3 x4 x5)) : Gj p l e R s m args below meth c Q G nL pc (lvf x0 x1 x2 x3 x4 x5) [] (wf x0 x1 x2 x3 x4 x5) := by
  have key : ∀ (n : Nat) (x0 : α0) (x1 : α1) (x2 : α2) (x3 : α3) (x4 : α4) (x5 : α5), I x0 x1 x2 x3 x4 x5 → M x0 x1 x2 x3 x4 x5 < n → Gj p l e R s m args below meth c Q G nL pc (lvf x0 x1 x2 x3 x4 x5) [] (wf x0 x1 x2 x3 x4 x5) := by
    intro n
    induction n with
    | zero => intro x0 x1 x2 x3 x4 x5 _ h; exact absurd h (Nat.not_lt_zero _)
    | succ n ih => intro x0 x1 x2 x3 x4 x5 h1 h2; exact step x0 x1 x2 x3 x4 x5 h1 (fun y0 y1 y2 y3 y4 y5 g1 g2 => ih y0 y1 y2 y3 y4 y5 g1 (by omega))
  exact key _ x0 x1 x2 x3 x4 x5 hI (Nat.lt_succ_self _)
theorem g_cut6 {α0 α1 α2 α3 α4 α5 : Type} {pc' : Nat} (lvf : (α0 → α1 → α2 → α3 → α4 → α5 → List (Nat × Value))) (stf : (α0 → α1 → α2 → α3 → α4 → α5 → List Value)) (wf : (α0 → α1 → α2 → α3 → α4 → α5 → Wd)) (I : (α0 → α1 → α2 → α3 → α4 → α5 → Prop)) (body : ∀ (x0 : α0) (x1 : α1) (x2 : α2) (x3 : α3) (x4 : α4) (x5 : α5), I x0 x1 x2 x3 x4 x5 → Gj p l e R s m args below meth c Q G nL pc' (lvf x0 x1 x2 x3 x4 x5) (stf x0 x1 x2 x3 x4 x5) (wf x0 x1 x2 x3 x4 x5)) (main : (∀ (x0 : α0) (x1 : α1) (x2 : α2) (x3 : α3) (x4 : α4) (x5 : α5), I x0 x1 x2 x3 x4 x5 → Gj p l e R s m args below meth c Q G nL pc' (lvf x0 x1 x2 x3 x4 x5) (stf x0 x1 x2 x3 x4 x5) (wf x0 x1 x2 x3 x4 x5)) → Gj p l e R s m args below meth c Q G nL pc lv st w) : Gj p l e R s m args below meth c Q G nL pc lv st w := main body
theorem g_loop7 {α0 α1 α2 α3 α4 α5 α6 : Type} (lvf : (α0 → α1 → α2 → α3 → α4 → α5 → α6 → List (Nat × Value))) (wf : (α0 → α1 → α2 → α3 → α4 → α5 → α6 → Wd)) (I : (α0 → α1 → α2 → α3 → α4 → α5 → α6 → Prop)) (M : (α0 → α1 → α2 → α3 → α4 → α5 → α6 → Nat)) (x0 : α0) (x1 : α1) (x2 : α2) (x3 : α3) (x4 : α4) (x5 : α5) (x6 : α6) (hI : I x0 x1 x2 x3 x4 x5 x6) (step : ∀ (x0 : α0) (x1 : α1) (x2 : α2) (x3 : α3) (x4 : α4) (x5 : α5) (x6 : α6), I x0 x1 x2 x3 x4 x5 x6 → (∀ (y0 : α0) (y1 : α1) (y2 : α2) (y3 : α3) (y4 : α4) (y5 : α5) (y6 : α6), I y0 y1 y2 y3 y4 y5 y6 → M y0 y1 y2 y3 y4 y5 y6 < M x0 x1 x2 x3 x4 x5 x6 → Gj p l e R s m args below meth c Q G nL pc (lvf y0 y1 y2 y3 y4 y5 y6) [] (wf y0 y1 y2 y3 y4 y5 y6)) → Gj p l e R s m args below meth c Q G nL pc (lvf x0 x1 x2 x3 x4 x5 x6) [] (wf x0 x1 x2 x3 x4 x5 x6)) : Gj p l e R s m args below meth c Q G nL pc (lvf x0 x1 x2 x3 x4 x5 x6) [] (wf x0 x1 x2 x3 x4 x5 x6) := by
  have key : ∀ (n : Nat) (x0 : α0) (x1 : α1) (x2 : α2) (x3 : α3) (x4 : α4) (x5 : α5) (x6 : α6), I x0 x1 x2 x3 x4 x5 x6 → M x0 x1 x2 x3 x4 x5 x6 < n → Gj p l e R s m args below meth c Q G nL pc (lvf x0 x1 x2 x3 x4 x5 x6) [] (wf x0 x1 x2 x3 x4 x5 x6) := by
    intro n
    induction n with
    | zero => intro x0 x1 x2 x3 x4 x5 x6 _ h; exact absurd h (Nat.not_lt_zero _)
    | succ n ih => intro x0 x1 x2 x3 x4 x5 x6 h1 h2; exact step x0 x1 x2 x3 x4 x5 x6 h1 (fun y0 y1 y2 y3 y4 y5 y6 g1 g2 => ih y0 y1 y2 y3 y4 y5 y6 g1 (by omega))
  exact key _ x0 x1 x2 x3 x4 x5 x6 hI (Nat.lt_succ_self _)
theorem g_cut7 {α0 α1 α2 α3 α4 α5 α6 : Type} {pc' : Nat} (lvf : (α0 → α1 → α2 → α3 → α4 → α5 → α6 → List (Nat × Value))) (stf : (α0 → α1 → α2 → α3 → α4 → α5 → α6 → List Value)) (wf : (α0 → α1 → α2 → α3 → α4 → α5 → α6 → Wd)) (I : (α0 → α1 → α2 → α3 → α4 → α5 → α6 → Prop)) (body : ∀ (x0 : α0) (x1 : α1) (x2 : α2) (x3 : α3) (x4 : α4) (x5 : α5) (x6 : α6), I x0 x1 x2 x3 x4 x5 x6 → Gj p l e R s m args below meth c Q G nL pc' (lvf x0 x1 x2 x3 x4 x5 x6) (stf x0 x1 x2 x3 x4 x5 x6) (wf x0 x1 x2 x3 x4 x5 x6)) (main : (∀ (x0 : α0) (x1 : α1) (x2 : α2) (x3 : α3) (x4 : α4) (x5 : α5) (x6 : α6), I x0 x1 x2 x3 x4 x5 x6 → Gj p l e R s m args below meth c Q G nL pc' (lvf x0 x1 x2 x3 x4 x5 x6) (stf x0 x1 x2 x3 x4 x5 x6) (wf x0 x1 x2 x3 x4 x5 x6)) → Gj p l e R s m args below meth c Q G nL pc lv st w) : Gj p l e R s m args below meth c Q G nL pc lv st w := main body
theorem g_loop8 {α0 α1 α2 α3 α4 α5 α6 α7 : Type} (lvf : (α0 → α1 → α2 → α3 → α4 → α5 → α6 → α7 → List (Nat × Value))) (wf : (α0 → α1 → α2 → α3 → α4 → α5 → α6 → α7 → Wd)) (I : (α0 → α1 → α2 → α3 → α4 → α5 → α6 → α7 → Prop)) (M : (α0 → α1 → α2 → α3 → α4 → α5 → α6 → α7 → Nat)) (x0 : α0) (x1 : α1) (x2 : α2) (x3 : α3) (x4 : α4) (x5 : α5) (x6 : α6) (x7 : α7) (hI : I x0 x1 x2 x3 x4 x5 x6 x7) (step : ∀ (x0 : α0) (x1 : α1) (x2 : α2) (x3 : α3) (x4 : α4) (x5 : α5) (x6 : α6) (x7 : α7), I x0 x1 x2 x3 x4 x5 x6 x7 → (∀ (y0 : α0) (y1 : α1) (y2 : α2) (y3 : α3) (y4 : α4) (y5 : α5) (y6 : α6) (y7 : α7), I y0 y1 y2 y3 y4 y5 y6 y7 → M y0 y1 y2 y3 y4 y5 y6 y7 < M x0 x1 x2 x3 x4 x5 x6 x7 → Gj p l e R s m args below meth c Q G nL pc (lvf y0 y1 y2 y3 y4 y5 y6 y7) [] (wf y0 y1 y2 y3 y4 y5 y6 y7)) → Gj p l e R s m args below meth c Q G nL pc (lvf x0 x1 x2 x3 x4 x5 x6 x7) [] (wf x0 x1 x2 x3 x4 x5 x6 x7)) : Gj p l e R s m args below meth c Q G nL pc (lvf x0 x1 x2 x3 x4 x5 x6 x7) [] (wf x0 x1 x2 x3 x4 x5 x6 x7) := by
  have key : ∀ (n : Nat) (x0 : α0) (x1 : α1) (x2 : α2) (x3 : α3) (x4 : α4) (x5 : α5) (x6 : α6) (x7 : α7), I x0 x1 x2 x3 x4 x5 x6 x7 → M x0 x1 x2 x3 x4 x5 x6 x7 < n → Gj p l e R s m args below meth c Q G nL pc (lvf x0 x1 x2 x3 x4 x5 x6 x7) [] (wf x0 x1 x2 x3 x4 x5 x6 x7) := by
    intro n
    induction n with
    | zero => intro x0 x1 x2 x3 x4 x5 x6 x7 _ h; exact absurd h (Nat.not_lt_zero _)
    | succ n ih => intro x0 x1 x2 x3 x4 x5 x6 x7 h1 h2; exact step x0 x1 x2 x3 x4 x5 x6 x7 h1 (fun y0 y1 y2 y3 y4 y5 y6 y7 g1 g2 => ih y0 y1 y2 y3 y4 y5 y6 y7 g1 (by omega))
  exact key _ x0 x1 x2 x3 x4 x5 x6 x7 hI (Nat.lt_succ_self _)
theorem g_cut8 {α0 α1 α2 α3 α4 α5 α6 α7 : Type} {pc' : Nat} (lvf : (α0 → α1 → α2 → α3 → α4 → α5 → α6 → α7 → List (Nat × Value))) (stf : (α0 → α1 → α2 → α3 → α4 → α5 → α6 → α7 → List Value)) (wf : (α0 → α1 → α2 → α3 → α4 → α5 → α6 → α7 → Wd)) (I : (α0 → α1 → α2 → α3 → α4 → α5 → α6 → α7 → Prop)) (body : ∀ (x0 : α0) (x1 : α1) (x2 : α2) (x3 : α3) (x4 : α4) (x5 : α5) (x6 : α6) (x7 : α7), I x0 x1 x2 x3 x4 x5 x6 x7 → Gj p l e R s m args below meth c Q G nL pc' (lvf x0 x1 x2 x3 x4 x5 x6 x7) (stf x0 x1 x2 x3 x4 x5 x6 x7) (wf x0 x1 x2 x3 x4 x5 x6 x7)) (main : (∀ (x0 : α0) (x1 : α1) (x2 : α2) (x3 : α3) (x4 : α4) (x5 : α5) (x6 : α6) (x7 : α7), I x0 x1 x2 x3 x4 x5 x6 x7 → Gj p l e R s m args below meth c Q G nL pc' (lvf x0 x1 x2 x3 x4 x5 x6 x7) (stf x0 x1 x2 x3 x4 x5 x6 x7) (wf x0 x1 x2 x3 x4 x5 x6 x7)) → Gj p l e R s m args below meth c Q G nL pc lv st w) : Gj p l e R s m args below meth c Q G nL pc lv st w := main body
/-- System.arraycopy, from place 0 to place 0 -/
def cpyA (w : Wd) (o o2 f n : Nat) : Wd := fun o' f' j' => if o' = o ∧ f' = f ∧ j' < n then w o2 f j' else w o' f' j'
def cpyS (w : Wd) (o f k n : Nat) : Wd := fun o' f' j' => if o' = o ∧ f' = f ∧ j' < n then (slX k).getD j' 0 else w o' f' j'
theorem cpyW (X : Cx p s m args meth c cc nL ret own G) {idx : Nat} (hl : Cond.methodLink own idx arraycopyName ∈ gw) {ci o f N a0 : Nat} {n : Nat} {cs : Cell} {v : Nat → Int} {H : Heap} {locs : List Loc} {ls : Array Slot} (ho : gOb G o = some ci) (hf : f < nfX ci) (hk : fkX ci f = (1, N)) (hN : n ≤ N) (hn : n ≤ 100000)
    (hc0 : H[a0]? = some cs) (h0a : s.isArrayOf cs .int) (h0k : cs.vm ≠ .unknown) (h0n : n ≤ cs.slots.size) (h0v : ∀ j, j < n → cs.slots[j]? = some (.int (iI (v j)))) (hR : 1 ≤ R.frames ∧ 35 ≤ R.locals) (hcat : (st.map fun v => v.category).sum ≤ 8) (hd : decode cc pc = .ok (.invokestatic idx, 3)) (h1 : Hold G w H) (h2 : va_S (gA G) s.heap H locs) (h3 : lv_has ls nL lv)
    (k : Gj p l e R s m args below meth c Q G nL (pc + 3) lv st (fun o' f' j' => if o' = o ∧ f' = f ∧ j' < n then v j' else w o' f' j')) : W p l e R s m args below meth c H locs 0 0 Q (F0 m pc ls (.int (iI (n : Int)) :: .int (iI 0) :: .ref (gAr G o f) :: .int (iI 0) :: .ref a0 :: st)) := by
  have hA := isA_of hk (Or.inl rfl)
  have hc := (h1 o ci ho).2 f hf hA
  rw [hk] at hc
  have ht := X.1.2.2.2.2.1
  have nn : (iI (n : Int)).toInt = (n : Int) := iI_to ⟨by omega, by omega⟩
  have nc : (iI (n : Int)).toNatClampNeg = n := by rw [iI_clamp (by omega) (by omega)]; omega
  have zc : (iI 0).toNatClampNeg = 0 := rfl
  have zi : (iI 0).toInt = 0 := rfl
  intro T hT X'
  obtain ⟨h0s, k0, hk0, cm0, hkk0⟩ := h0a
  obtain ⟨-, k1, hk1, cm1, hkk1⟩ := (X.2.2.1.2 0 _ rfl).1 N (fun j => .int (iI (w o f j)))
  obtain ⟨vm', X'', step⟩ := X'.arraycopy X.1.1 X.1.2.2.2.1 (ht _ hl) (ht _ acp_nat) (ht _ acp_st) (ht _ ini_javalangSystem) (src := a0) (dst := gAr G o f) (cs := cs) (cd := acell G w o f (1, N)) (srcPos := iI 0) (destPos := iI 0) (n := iI (n : Int)) (by rw [hT]; exact hc0) (by rw [hT]; exact hc)
    h0s (fun _ h => by cases h) h0k (fun h => by cases h) hk0 hk1 hkk0 hkk1 (by simp [refKind]) (by decide) (by decide) (by rw [← iI_zero, iI_lt ⟨by omega, by omega⟩ inR_zero]; omega)
    (by rw [zi, nn]; omega)
    (by rw [zi, nn]; show ¬ _ > ((arrV _ N _).slots.size : Int); rw [arrV_size]; omega)
    (fun vm₁ _ i hi => by
      rw [nc] at hi
      have e : cs.slots.getD ((iI 0).toNatClampNeg + i) .null = .int (iI (v i)) := by
        rw [zc, Nat.zero_add, Array.getD_eq_getD_getElem?, h0v i hi]
        rfl
      exact ⟨by rw [e]; rfl, by rw [e]; exact trivial⟩)
    (g := F0 m pc ls (.int (iI (n : Int)) :: .int (iI 0) :: .ref (gAr G o f) :: .int (iI 0) :: .ref a0 :: st)) rfl (by rw [X.1.2.2.1]; exact h3.1) (rest := st) rfl (by rw [X.1.2.1]; exact hd) hR.1 (by show 2 * 0 + _ + (7 + 11) ≤ _; omega)
  have es : cs.stretch (iI 0).toNatClampNeg (iI (n : Int)).toNatClampNeg = (List.range n).map (fun i => .int (iI (v i))) := by
    unfold Cell.stretch
    rw [nc, zc]
    apply List.map_congr_left
    intro i hi
    have hi' := List.mem_range.mp hi
    rw [Nat.zero_add, Array.getD_eq_getD_getElem?, h0v i hi']
    rfl
  have e1 : copied cs (acell G w o f (1, N)) (iI 0) (iI 0) (iI (n : Int)) = acell G (fun o' f' j' => if o' = o ∧ f' = f ∧ j' < n then v j' else w o' f' j') o f (1, N) := by
    show (acell G w o f (1, N)).storeRun _ _ = _
    rw [es]
    simp only [acell]
    rw [vp_cell_i, vp_cell_i, Cell.storeRun, va_pairs]
    congr 1
    funext j
    rw [zc]
    simp only [List.length_map, List.length_range, Nat.zero_add, Nat.zero_le, true_and, Nat.sub_zero]
    by_cases h : j < n
    · rw [if_pos h, if_pos h, List.getD_eq_getElem?_getD, List.getElem?_map, List.getElem?_range (by omega)]
      rfl
    · rw [if_neg h, if_neg h]
  rw [e1] at X'' step
  have hl9 : gAr G o f < H.size := (Array.getElem?_eq_some_iff.mp hc).1
  have oq : ∀ q : Nat, q ≠ gAr G o f → (H.setIfInBounds (gAr G o f) (acell G (fun o' f' j' => if o' = o ∧ f' = f ∧ j' < n then v j' else w o' f' j') o f (1, N)))[q]? = H[q]? := fun q hq => by simp [Array.getElem?_setIfInBounds, Ne.symm hq]
  have hheap : ((T.setVm vm').setCell (gAr G o f) (acell G (fun o' f' j' => if o' = o ∧ f' = f ∧ j' < n then v j' else w o' f' j') o f (1, N))).heap = H.setIfInBounds (gAr G o f) (acell G (fun o' f' j' => if o' = o ∧ f' = f ∧ j' < n then v j' else w o' f' j') o f (1, N)) := by rw [← hT]; rfl
  obtain ⟨t, a1, b1⟩ := k _ _ ls (h1.puta X.2.1 ho hf hA (fun o' f' j' hq => if_neg (fun z => hq ⟨z.1, z.2.1⟩)) (by rw [hk]; simp [Array.getElem?_setIfInBounds, hl9]) oq) ⟨by simp; exact h2.1, fun q g1 g2 => by
      rw [oq q (fun e => g2 (by rw [e]; exact gA_a ho hf hA))]
      exact h2.2.1 q g1 g2, fun q hq => by
      rcases List.mem_append.mp hq with h | h
      · exact h2.2.2 q h
      · obtain ⟨z, -, hz⟩ := List.mem_map.mp h
        rw [← hz]
        exact gA_a ho hf hA⟩ h3 _ hheap X''
  exact ⟨t, step t a1, b1⟩
theorem g_cpya (X : Cx p s m args meth c cc nL ret own G) {idx : Nat} (hl : Cond.methodLink own idx arraycopyName ∈ gw) {ci o o2 f N n : Nat} (ho2 : gOb G o2 = some ci) (ho : gOb G o = some ci) (hf : f < nfX ci) (hk : fkX ci f = (1, N)) (hN : n ≤ N) (hn : n ≤ 100000) (hN2 : N ≤ 100000)
    (hR : 1 ≤ R.frames ∧ 35 ≤ R.locals) (hcat : (st.map fun v => v.category).sum ≤ 8) (hd : decode cc pc = .ok (.invokestatic idx, 3)) (k : Gj p l e R s m args below meth c Q G nL (pc + 3) lv st (cpyA w o o2 f n)) : Gj p l e R s m args below meth c Q G nL pc lv (.int (iI (n : Int)) :: .int (iI 0) :: .ref (gAr G o f) :: .int (iI 0) :: .ref (gAr G o2 f) :: st) w := by
  intro H locs ls h1 h2 h3
  have hc := (h1 o2 ci ho2).2 f hf (isA_of hk (Or.inl rfl))
  rw [hk] at hc
  exact cpyW (v := fun j => w o2 f j) X hl ho hf hk hN hn hc ((X.2.2.1.2 0 _ rfl).1 N (fun j => .int (iI (w o2 f j)))) (fun q => by cases q) (by show n ≤ (arrV _ N _).slots.size; rw [arrV_size]; exact hN) (fun j hj => by show (arrV _ N _).slots[j]? = _; rw [arrV_read _ _ (by omega)]) hR hcat hd h1 h2 h3 k
theorem g_cpys (X : Cx p s m args meth c cc nL ret own G) {idx : Nat} (hl : Cond.methodLink own idx arraycopyName ∈ gw) (k0 : Nat) (hk0 : k0 < 9) {ci o f N n : Nat} (ho : gOb G o = some ci) (hf : f < nfX ci) (hk : fkX ci f = (1, N)) (hN : n ≤ N) (hn : n ≤ 100000) (hsl : n ≤ (slX k0).length)
    (hR : 1 ≤ R.frames ∧ 35 ≤ R.locals) (hcat : (st.map fun v => v.category).sum ≤ 8) (hd : decode cc pc = .ok (.invokestatic idx, 3)) (k : Gj p l e R s m args below meth c Q G nL (pc + 3) lv st (cpyS w o f k0 n)) : Gj p l e R s m args below meth c Q G nL pc lv (.int (iI (n : Int)) :: .int (iI 0) :: .ref (gAr G o f) :: .int (iI 0) :: .ref (gSa G k0) :: st) w := by
  intro H locs ls h1 h2 h3
  obtain ⟨cell, c1, c2, c3, c4, c5, c6, c7⟩ := (X.2.2.2.2 k0 hk0).2
  exact cpyW (v := fun j => (slX k0).getD j 0) X hl ho hf hk hN hn (by rw [h2.2.1 _ (Array.getElem?_eq_some_iff.mp c1).1 c7]; exact c1) c2 c3 (by omega) (fun j hj => c6 j (by omega)) hR hcat hd h1 h2 h3 k
end RC
theorem cm_X0_forget : CM yX0_forget cX0_forget 1 none 0 := ⟨co_X0_forget, ini_X0, by decide, by decide, by decide +kernel⟩
theorem cm_X0_reckon : CM yX0_reckon cX0_reckon 4 none 2 := ⟨co_X0_reckon, ini_X0, by decide, by decide, by decide +kernel⟩
theorem cm_X0_has : CM yX0_has cX0_has 2 (some .boolean) 1 := ⟨co_X0_has, ini_X0, by decide, by decide, by decide +kernel⟩
theorem cm_X0_setFor : CM yX0_setFor cX0_setFor 2 (some .int) 1 := ⟨co_X0_setFor, ini_X0, by decide, by decide, by decide +kernel⟩
theorem cm_X0_leastPower : CM yX0_leastPower cX0_leastPower 2 (some .int) 1 := ⟨co_X0_leastPower, ini_X0, by decide, by decide, by decide +kernel⟩
theorem cm_X0_addMachine : CM yX0_addMachine cX0_addMachine 4 none 1 := ⟨co_X0_addMachine, ini_X0, by decide, by decide, by decide +kernel⟩
theorem cm_X0_fillRow : CM yX0_fillRow cX0_fillRow 3 none 1 := ⟨co_X0_fillRow, ini_X0, by decide, by decide, by decide +kernel⟩
theorem cm_X0_leastWith : CM yX0_leastWith cX0_leastWith 7 (some .int) 2 := ⟨co_X0_leastWith, ini_X0, by decide, by decide, by decide +kernel⟩
theorem cm_X1_forget : CM yX1_forget cX1_forget 1 none 0 := ⟨co_X1_forget, ini_X1, by decide, by decide, by decide +kernel⟩
theorem cm_X1_keep : CM yX1_keep cX1_keep 2 none 1 := ⟨co_X1_keep, ini_X1, by decide, by decide, by decide +kernel⟩
theorem cm_X1_giveBack : CM yX1_giveBack cX1_giveBack 2 (some .boolean) 1 := ⟨co_X1_giveBack, ini_X1, by decide, by decide, by decide +kernel⟩
theorem cm_X2_reset : CM yX2_reset cX2_reset 1 none 0 := ⟨co_X2_reset, ini_X2, by decide, by decide, by decide +kernel⟩
theorem cm_X2_take : CM yX2_take cX2_take 3 none 2 := ⟨co_X2_take, ini_X2, by decide, by decide, by decide +kernel⟩
theorem cm_X2_takeMachine : CM yX2_takeMachine cX2_takeMachine 2 none 1 := ⟨co_X2_takeMachine, ini_X2, by decide, by decide, by decide +kernel⟩
theorem cm_X2_all : CM yX2_all cX2_all 1 (some .int) 0 := ⟨co_X2_all, ini_X2, by decide, by decide, by decide +kernel⟩
theorem cm_X2_powerAt : CM yX2_powerAt cX2_powerAt 4 (some .int) 3 := ⟨co_X2_powerAt, ini_X2, by decide, by decide, by decide +kernel⟩
theorem cm_X2_can : CM yX2_can cX2_can 3 (some .boolean) 2 := ⟨co_X2_can, ini_X2, by decide, by decide, by decide +kernel⟩
theorem cm_X2_leasts : CM yX2_leasts cX2_leasts 2 (some .int) 1 := ⟨co_X2_leasts, ini_X2, by decide, by decide, by decide +kernel⟩
theorem cm_X2_mosts : CM yX2_mosts cX2_mosts 2 (some .int) 1 := ⟨co_X2_mosts, ini_X2, by decide, by decide, by decide +kernel⟩
theorem cm_X2_flows : CM yX2_flows cX2_flows 2 (some .int) 1 := ⟨co_X2_flows, ini_X2, by decide, by decide, by decide +kernel⟩
theorem cm_X2_sumOver : CM yX2_sumOver cX2_sumOver 5 (some .int) 2 := ⟨co_X2_sumOver, ini_X2, by decide, by decide, by decide +kernel⟩
theorem cm_X3_add : CM yX3_add cX3_add 2 (some .boolean) 1 := ⟨co_X3_add, ini_X3, by decide, by decide, by decide +kernel⟩
theorem cm_X3_empty : CM yX3_empty cX3_empty 1 none 0 := ⟨co_X3_empty, ini_X3, by decide, by decide, by decide +kernel⟩
theorem cm_X3_firstFault : CM yX3_firstFault cX3_firstFault 5 (some .int) 0 := ⟨co_X3_firstFault, ini_X3, by decide, by decide, by decide +kernel⟩
theorem cm_X3_machines : CM yX3_machines cX3_machines 3 (some .int) 0 := ⟨co_X3_machines, ini_X3, by decide, by decide, by decide +kernel⟩
theorem cm_X3_layInto : CM yX3_layInto cX3_layInto 5 none 1 := ⟨co_X3_layInto, ini_X3, by decide, by decide, by decide +kernel⟩
theorem cm_X3_readItem : CM yX3_readItem cX3_readItem 4 (some .int) 1 := ⟨co_X3_readItem, ini_X3, by decide, by decide, by decide +kernel⟩
theorem cm_X3_readNumbers : CM yX3_readNumbers cX3_readNumbers 9 (some .int) 3 := ⟨co_X3_readNumbers, ini_X3, by decide, by decide, by decide +kernel⟩
theorem cm_X3_isFigure : CM yX3_isFigure cX3_isFigure 3 (some .boolean) 1 := ⟨co_X3_isFigure, ini_X3, by decide, by decide, by decide +kernel⟩
theorem cm_X3_letterAt : CM yX3_letterAt cX3_letterAt 2 (some .char) 1 := ⟨co_X3_letterAt, ini_X3, by decide, by decide, by decide +kernel⟩
theorem cm_X4_forget : CM yX4_forget cX4_forget 1 none 0 := ⟨co_X4_forget, ini_X4, by decide, by decide, by decide +kernel⟩
theorem cm_X4_find : CM yX4_find cX4_find 5 (some .boolean) 3 := ⟨co_X4_find, ini_X4, by decide, by decide, by decide +kernel⟩
theorem cm_X4_leastPower : CM yX4_leastPower cX4_leastPower 1 (some .int) 0 := ⟨co_X4_leastPower, ini_X4, by decide, by decide, by decide +kernel⟩
theorem cm_X4_part : CM yX4_part cX4_part 2 (some .int) 1 := ⟨co_X4_part, ini_X4, by decide, by decide, by decide +kernel⟩
theorem cm_X4_shiftOf : CM yX4_shiftOf cX4_shiftOf 1 (some .int) 1 := ⟨co_X4_shiftOf, ini_X4, by decide, by decide, by decide +kernel⟩
theorem cm_X4_addMachine : CM yX4_addMachine cX4_addMachine 6 none 2 := ⟨co_X4_addMachine, ini_X4, by decide, by decide, by decide +kernel⟩
theorem cm_X4_fillRow : CM yX4_fillRow cX4_fillRow 3 none 1 := ⟨co_X4_fillRow, ini_X4, by decide, by decide, by decide +kernel⟩
theorem cm_X4_leastWith : CM yX4_leastWith cX4_leastWith 9 (some .long) 2 := ⟨co_X4_leastWith, ini_X4, by decide, by decide, by decide +kernel⟩
theorem cm_X5_made : CM yX5_made cX5_made 2 (some .int) 1 := ⟨co_X5_made, ini_X5, by decide, by decide, by decide +kernel⟩
theorem cm_X5_powerNow : CM yX5_powerNow cX5_powerNow 2 (some .int) 1 := ⟨co_X5_powerNow, ini_X5, by decide, by decide, by decide +kernel⟩
theorem cm_X5_madeBy : CM yX5_madeBy cX5_madeBy 3 (some .int) 2 := ⟨co_X5_madeBy, ini_X5, by decide, by decide, by decide +kernel⟩
theorem cm_X5_pass : CM yX5_pass cX5_pass 3 none 1 := ⟨co_X5_pass, ini_X5, by decide, by decide, by decide +kernel⟩
theorem cm_X5_comeOn : CM yX5_comeOn cX5_comeOn 3 none 2 := ⟨co_X5_comeOn, ini_X5, by decide, by decide, by decide +kernel⟩
theorem cm_X5_comeBack : CM yX5_comeBack cX5_comeBack 3 none 1 := ⟨co_X5_comeBack, ini_X5, by decide, by decide, by decide +kernel⟩
theorem cm_X5_stageUp : CM yX5_stageUp cX5_stageUp 3 none 1 := ⟨co_X5_stageUp, ini_X5, by decide, by decide, by decide +kernel⟩
theorem cm_X5_stageDown : CM yX5_stageDown cX5_stageDown 3 none 1 := ⟨co_X5_stageDown, ini_X5, by decide, by decide, by decide +kernel⟩
theorem cm_X5_gapIsOver : CM yX5_gapIsOver cX5_gapIsOver 3 (some .boolean) 2 := ⟨co_X5_gapIsOver, ini_X5, by decide, by decide, by decide +kernel⟩
theorem cm_X5_mayStart : CM yX5_mayStart cX5_mayStart 4 (some .boolean) 3 := ⟨co_X5_mayStart, ini_X5, by decide, by decide, by decide +kernel⟩
theorem cm_X5_nextToStart : CM yX5_nextToStart cX5_nextToStart 4 (some .int) 1 := ⟨co_X5_nextToStart, ini_X5, by decide, by decide, by decide +kernel⟩
theorem cm_X5_nextToStop : CM yX5_nextToStop cX5_nextToStop 4 (some .int) 1 := ⟨co_X5_nextToStop, ini_X5, by decide, by decide, by decide +kernel⟩
theorem cm_X5_fall : CM yX5_fall cX5_fall 5 none 1 := ⟨co_X5_fall, ini_X5, by decide, by decide, by decide +kernel⟩
theorem cm_X5_greatestOf : CM yX5_greatestOf cX5_greatestOf 5 (some .int) 1 := ⟨co_X5_greatestOf, ini_X5, by decide, by decide, by decide +kernel⟩
theorem cm_X6_reset : CM yX6_reset cX6_reset 1 none 0 := ⟨co_X6_reset, ini_X6, by decide, by decide, by decide +kernel⟩
theorem cm_X6_copyFrom : CM yX6_copyFrom cX6_copyFrom 2 none 1 := ⟨co_X6_copyFrom, ini_X6, by decide, by decide, by decide +kernel⟩
theorem cm_X6_running : CM yX6_running cX6_running 1 (some .int) 0 := ⟨co_X6_running, ini_X6, by decide, by decide, by decide +kernel⟩
theorem cm_X6_lift : CM yX6_lift cX6_lift 1 (some .int) 0 := ⟨co_X6_lift, ini_X6, by decide, by decide, by decide +kernel⟩
theorem cm_X6_startedSoFar : CM yX6_startedSoFar cX6_startedSoFar 3 (some .int) 0 := ⟨co_X6_startedSoFar, ini_X6, by decide, by decide, by decide +kernel⟩
theorem cm_X6_start : CM yX6_start cX6_start 2 none 1 := ⟨co_X6_start, ini_X6, by decide, by decide, by decide +kernel⟩
theorem cm_X6_stop : CM yX6_stop cX6_stop 2 none 1 := ⟨co_X6_stop, ini_X6, by decide, by decide, by decide +kernel⟩
theorem cm_X6_ticksSinceStart : CM yX6_ticksSinceStart cX6_ticksSinceStart 3 (some .int) 2 := ⟨co_X6_ticksSinceStart, ini_X6, by decide, by decide, by decide +kernel⟩
theorem cm_X6_ticksSinceStop : CM yX6_ticksSinceStop cX6_ticksSinceStop 3 (some .int) 2 := ⟨co_X6_ticksSinceStop, ini_X6, by decide, by decide, by decide +kernel⟩
theorem cm_X6_startBack : CM yX6_startBack cX6_startBack 3 (some .int) 2 := ⟨co_X6_startBack, ini_X6, by decide, by decide, by decide +kernel⟩
theorem cm_X6_ringPlace : CM yX6_ringPlace cX6_ringPlace 2 (some .int) 2 := ⟨co_X6_ringPlace, ini_X6, by decide, by decide, by decide +kernel⟩
theorem cm_X6_putOnList : CM yX6_putOnList cX6_putOnList 2 none 1 := ⟨co_X6_putOnList, ini_X6, by decide, by decide, by decide +kernel⟩
theorem cm_X6_firstOfList : CM yX6_firstOfList cX6_firstOfList 1 (some .int) 0 := ⟨co_X6_firstOfList, ini_X6, by decide, by decide, by decide +kernel⟩
theorem cm_X6_takeOffList : CM yX6_takeOffList cX6_takeOffList 4 none 1 := ⟨co_X6_takeOffList, ini_X6, by decide, by decide, by decide +kernel⟩
theorem cm_X6_placeInList : CM yX6_placeInList cX6_placeInList 3 (some .int) 1 := ⟨co_X6_placeInList, ini_X6, by decide, by decide, by decide +kernel⟩
theorem cm_X7_write : CM yX7_write cX7_write 2 (some .int) 1 := ⟨co_X7_write, ini_X7, by decide, by decide, by decide +kernel⟩
theorem cm_X7_wipe : CM yX7_wipe cX7_wipe 2 (some .int) 0 := ⟨co_X7_wipe, ini_X7, by decide, by decide, by decide +kernel⟩
theorem cm_X7_fault : CM yX7_fault cX7_fault 1 (some .int) 0 := ⟨co_X7_fault, ini_X7, by decide, by decide, by decide +kernel⟩
theorem cm_X7_lay : CM yX7_lay cX7_lay 1 (some .int) 0 := ⟨co_X7_lay, ini_X7, by decide, by decide, by decide +kernel⟩
theorem cm_X7_tell : CM yX7_tell cX7_tell 4 (some .int) 2 := ⟨co_X7_tell, ini_X7, by decide, by decide, by decide +kernel⟩
theorem cm_X7_lock : CM yX7_lock cX7_lock 4 (some .int) 2 := ⟨co_X7_lock, ini_X7, by decide, by decide, by decide +kernel⟩
theorem cm_X7_dip : CM yX7_dip cX7_dip 2 (some .int) 0 := ⟨co_X7_dip, ini_X7, by decide, by decide, by decide +kernel⟩
theorem cm_X7_tick : CM yX7_tick cX7_tick 4 (some .int) 1 := ⟨co_X7_tick, ini_X7, by decide, by decide, by decide +kernel⟩
theorem cm_X7_undo : CM yX7_undo cX7_undo 1 (some .int) 0 := ⟨co_X7_undo, ini_X7, by decide, by decide, by decide +kernel⟩
theorem cm_X7_machine : CM yX7_machine cX7_machine 3 (some .int) 2 := ⟨co_X7_machine, ini_X7, by decide, by decide, by decide +kernel⟩
theorem cm_X7_power : CM yX7_power cX7_power 4 (some .int) 3 := ⟨co_X7_power, ini_X7, by decide, by decide, by decide +kernel⟩
theorem cm_X7_share : CM yX7_share cX7_share 4 (some .int) 3 := ⟨co_X7_share, ini_X7, by decide, by decide, by decide +kernel⟩
theorem cm_X7_best : CM yX7_best cX7_best 3 (some .int) 2 := ⟨co_X7_best, ini_X7, by decide, by decide, by decide +kernel⟩
theorem cm_X7_now : CM yX7_now cX7_now 4 (some .int) 1 := ⟨co_X7_now, ini_X7, by decide, by decide, by decide +kernel⟩
theorem cm_X7_ahead : CM yX7_ahead cX7_ahead 5 (some .int) 2 := ⟨co_X7_ahead, ini_X7, by decide, by decide, by decide +kernel⟩
theorem cm_X7_count : CM yX7_count cX7_count 2 (some .int) 1 := ⟨co_X7_count, ini_X7, by decide, by decide, by decide +kernel⟩
theorem cm_X7_isMachine : CM yX7_isMachine cX7_isMachine 2 (some .boolean) 1 := ⟨co_X7_isMachine, ini_X7, by decide, by decide, by decide +kernel⟩
theorem cm_X7_isLoad : CM yX7_isLoad cX7_isLoad 1 (some .boolean) 1 := ⟨co_X7_isLoad, ini_X7, by decide, by decide, by decide +kernel⟩
theorem cm_X7_bitOf : CM yX7_bitOf cX7_bitOf 2 (some .int) 2 := ⟨co_X7_bitOf, ini_X7, by decide, by decide, by decide +kernel⟩
theorem cm_X7_aboveBest : CM yX7_aboveBest cX7_aboveBest 2 (some .int) 1 := ⟨co_X7_aboveBest, ini_X7, by decide, by decide, by decide +kernel⟩
theorem cm_X8_in : CM yX8_in cX8_in 3 (some .boolean) 3 := ⟨co_X8_in, ini_X8, by decide, by decide, by decide +kernel⟩
theorem cm_X8_beginRead : CM yX8_beginRead cX8_beginRead 2 none 0 := ⟨co_X8_beginRead, ini_X8, by decide, by decide, by decide +kernel⟩
theorem cm_X8_putMachine : CM yX8_putMachine cX8_putMachine 8 none 6 := ⟨co_X8_putMachine, ini_X8, by decide, by decide, by decide +kernel⟩
theorem cm_X8_takeRead : CM yX8_takeRead cX8_takeRead 3 none 0 := ⟨co_X8_takeRead, ini_X8, by decide, by decide, by decide +kernel⟩
theorem cm_X8_isFigure : CM yX8_isFigure cX8_isFigure 1 (some .boolean) 0 := ⟨co_X8_isFigure, ini_X8, by decide, by decide, by decide +kernel⟩
theorem cm_X8_readNumbers : CM yX8_readNumbers cX8_readNumbers 5 (some .boolean) 1 := ⟨co_X8_readNumbers, ini_X8, by decide, by decide, by decide +kernel⟩
theorem cm_X8_isNumber : CM yX8_isNumber cX8_isNumber 4 (some .boolean) 3 := ⟨co_X8_isNumber, ini_X8, by decide, by decide, by decide +kernel⟩
theorem cm_X8_readMachine : CM yX8_readMachine cX8_readMachine 1 (some .boolean) 0 := ⟨co_X8_readMachine, ini_X8, by decide, by decide, by decide +kernel⟩
theorem cm_X8_readOther : CM yX8_readOther cX8_readOther 6 (some .boolean) 1 := ⟨co_X8_readOther, ini_X8, by decide, by decide, by decide +kernel⟩
theorem cm_X8_readText : CM yX8_readText cX8_readText 4 (some .int) 0 := ⟨co_X8_readText, ini_X8, by decide, by decide, by decide +kernel⟩
theorem cm_X8_write : CM yX8_write cX8_write 2 (some .int) 1 := ⟨co_X8_write, ini_X8, by decide, by decide, by decide +kernel⟩
theorem cm_X8_wipe : CM yX8_wipe cX8_wipe 2 (some .int) 0 := ⟨co_X8_wipe, ini_X8, by decide, by decide, by decide +kernel⟩
theorem cm_X8_fault : CM yX8_fault cX8_fault 1 (some .int) 0 := ⟨co_X8_fault, ini_X8, by decide, by decide, by decide +kernel⟩
theorem cm_X8_lay : CM yX8_lay cX8_lay 1 (some .int) 0 := ⟨co_X8_lay, ini_X8, by decide, by decide, by decide +kernel⟩
theorem cm_X8_leastOf : CM yX8_leastOf cX8_leastOf 2 (some .int) 1 := ⟨co_X8_leastOf, ini_X8, by decide, by decide, by decide +kernel⟩
theorem cm_X8_mostOf : CM yX8_mostOf cX8_mostOf 2 (some .int) 1 := ⟨co_X8_mostOf, ini_X8, by decide, by decide, by decide +kernel⟩
theorem cm_X8_powerOf : CM yX8_powerOf cX8_powerOf 5 (some .int) 3 := ⟨co_X8_powerOf, ini_X8, by decide, by decide, by decide +kernel⟩
theorem cm_X8_lift : CM yX8_lift cX8_lift 1 (some .int) 0 := ⟨co_X8_lift, ini_X8, by decide, by decide, by decide +kernel⟩
theorem cm_X8_has : CM yX8_has cX8_has 2 (some .boolean) 2 := ⟨co_X8_has, ini_X8, by decide, by decide, by decide +kernel⟩
theorem cm_X8_sumOf : CM yX8_sumOf cX8_sumOf 5 (some .int) 2 := ⟨co_X8_sumOf, ini_X8, by decide, by decide, by decide +kernel⟩
theorem cm_X8_can : CM yX8_can cX8_can 3 (some .boolean) 2 := ⟨co_X8_can, ini_X8, by decide, by decide, by decide +kernel⟩
theorem cm_X8_lowest : CM yX8_lowest cX8_lowest 2 (some .int) 1 := ⟨co_X8_lowest, ini_X8, by decide, by decide, by decide +kernel⟩
theorem cm_X8_leastBy : CM yX8_leastBy cX8_leastBy 9 (some .int) 4 := ⟨co_X8_leastBy, ini_X8, by decide, by decide, by decide +kernel⟩
theorem cm_X8_layTable : CM yX8_layTable cX8_layTable 5 none 0 := ⟨co_X8_layTable, ini_X8, by decide, by decide, by decide +kernel⟩
theorem cm_X8_leastPower : CM yX8_leastPower cX8_leastPower 3 (some .int) 2 := ⟨co_X8_leastPower, ini_X8, by decide, by decide, by decide +kernel⟩
theorem cm_X8_layShare : CM yX8_layShare cX8_layShare 8 none 2 := ⟨co_X8_layShare, ini_X8, by decide, by decide, by decide +kernel⟩
theorem cm_X8_lockedOnes : CM yX8_lockedOnes cX8_lockedOnes 3 (some .int) 0 := ⟨co_X8_lockedOnes, ini_X8, by decide, by decide, by decide +kernel⟩
theorem cm_X8_ones : CM yX8_ones cX8_ones 3 (some .int) 1 := ⟨co_X8_ones, ini_X8, by decide, by decide, by decide +kernel⟩
theorem cm_X8_findBest : CM yX8_findBest cX8_findBest 7 (some .int) 1 := ⟨co_X8_findBest, ini_X8, by decide, by decide, by decide +kernel⟩
theorem cm_X8_own : CM yX8_own cX8_own 3 (some .int) 2 := ⟨co_X8_own, ini_X8, by decide, by decide, by decide +kernel⟩
theorem cm_X8_standing : CM yX8_standing cX8_standing 4 (some .int) 1 := ⟨co_X8_standing, ini_X8, by decide, by decide, by decide +kernel⟩
theorem cm_X8_made : CM yX8_made cX8_made 5 (some .int) 0 := ⟨co_X8_made, ini_X8, by decide, by decide, by decide +kernel⟩
theorem cm_X8_powerNow : CM yX8_powerNow cX8_powerNow 3 (some .int) 0 := ⟨co_X8_powerNow, ini_X8, by decide, by decide, by decide +kernel⟩
theorem cm_X8_isGapOver : CM yX8_isGapOver cX8_isGapOver 2 (some .boolean) 1 := ⟨co_X8_isGapOver, ini_X8, by decide, by decide, by decide +kernel⟩
theorem cm_X8_mayStart : CM yX8_mayStart cX8_mayStart 5 (some .boolean) 2 := ⟨co_X8_mayStart, ini_X8, by decide, by decide, by decide +kernel⟩
theorem cm_X8_start : CM yX8_start cX8_start 5 none 2 := ⟨co_X8_start, ini_X8, by decide, by decide, by decide +kernel⟩
theorem cm_X8_stop : CM yX8_stop cX8_stop 3 none 2 := ⟨co_X8_stop, ini_X8, by decide, by decide, by decide +kernel⟩
theorem cm_X8_starter : CM yX8_starter cX8_starter 4 (some .int) 1 := ⟨co_X8_starter, ini_X8, by decide, by decide, by decide +kernel⟩
theorem cm_X8_stopper : CM yX8_stopper cX8_stopper 5 (some .int) 1 := ⟨co_X8_stopper, ini_X8, by decide, by decide, by decide +kernel⟩
theorem cm_X8_unlist : CM yX8_unlist cX8_unlist 4 none 1 := ⟨co_X8_unlist, ini_X8, by decide, by decide, by decide +kernel⟩
theorem cm_X8_tickOnce : CM yX8_tickOnce cX8_tickOnce 6 none 0 := ⟨co_X8_tickOnce, ini_X8, by decide, by decide, by decide +kernel⟩
theorem cm_X8_note : CM yX8_note cX8_note 2 none 0 := ⟨co_X8_note, ini_X8, by decide, by decide, by decide +kernel⟩
theorem cm_X8_undo : CM yX8_undo cX8_undo 2 (some .int) 0 := ⟨co_X8_undo, ini_X8, by decide, by decide, by decide +kernel⟩
theorem cm_X8_tell : CM yX8_tell cX8_tell 5 (some .int) 2 := ⟨co_X8_tell, ini_X8, by decide, by decide, by decide +kernel⟩
theorem cm_X8_isMachine : CM yX8_isMachine cX8_isMachine 2 (some .boolean) 1 := ⟨co_X8_isMachine, ini_X8, by decide, by decide, by decide +kernel⟩
theorem cm_X8_lock : CM yX8_lock cX8_lock 3 (some .int) 2 := ⟨co_X8_lock, ini_X8, by decide, by decide, by decide +kernel⟩
theorem cm_X8_dip : CM yX8_dip cX8_dip 4 (some .int) 0 := ⟨co_X8_dip, ini_X8, by decide, by decide, by decide +kernel⟩
theorem cm_X8_tick : CM yX8_tick cX8_tick 4 (some .int) 1 := ⟨co_X8_tick, ini_X8, by decide, by decide, by decide +kernel⟩
theorem cm_X8_placeInList : CM yX8_placeInList cX8_placeInList 4 (some .int) 1 := ⟨co_X8_placeInList, ini_X8, by decide, by decide, by decide +kernel⟩
theorem cm_X8_machine : CM yX8_machine cX8_machine 3 (some .int) 2 := ⟨co_X8_machine, ini_X8, by decide, by decide, by decide +kernel⟩
theorem cm_X8_power : CM yX8_power cX8_power 4 (some .int) 3 := ⟨co_X8_power, ini_X8, by decide, by decide, by decide +kernel⟩
theorem cm_X8_share : CM yX8_share cX8_share 4 (some .int) 3 := ⟨co_X8_share, ini_X8, by decide, by decide, by decide +kernel⟩
theorem cm_X8_best : CM yX8_best cX8_best 4 (some .int) 2 := ⟨co_X8_best, ini_X8, by decide, by decide, by decide +kernel⟩
theorem cm_X8_more : CM yX8_more cX8_more 3 (some .int) 0 := ⟨co_X8_more, ini_X8, by decide, by decide, by decide +kernel⟩
theorem cm_X8_now : CM yX8_now cX8_now 4 (some .int) 1 := ⟨co_X8_now, ini_X8, by decide, by decide, by decide +kernel⟩
theorem cm_X8_ahead : CM yX8_ahead cX8_ahead 8 (some .int) 2 := ⟨co_X8_ahead, ini_X8, by decide, by decide, by decide +kernel⟩
theorem cm_X8_count : CM yX8_count cX8_count 2 (some .int) 1 := ⟨co_X8_count, ini_X8, by decide, by decide, by decide +kernel⟩
theorem cm_J6_bitCount_0f7a4 : CM yJ6_bitCount_0f7a4 cJ6_bitCount_0f7a4 1 (some .int) 1 := ⟨co_J6_bitCount_0f7a4, ini_J6, by decide, by decide, by decide +kernel⟩
theorem cm_J9_floorMod_7cf53 : CM yJ9_floorMod_7cf53 cJ9_floorMod_7cf53 3 (some .int) 2 := ⟨co_J9_floorMod_7cf53, ini_J9, by decide, by decide, by decide +kernel⟩
theorem cm_J0_length_8abf5 : CM yJ0_length_8abf5 cJ0_length_8abf5 1 (some .int) 0 := ⟨co_J0_length_8abf5, ini_J0, by decide, by decide, by decide +kernel⟩
theorem cm_J0_charAt_5068e : CM yJ0_charAt_5068e cJ0_charAt_5068e 2 (some .char) 1 := ⟨co_J0_charAt_5068e, ini_J0, by decide, by decide, by decide +kernel⟩
theorem cm_J0_coder_7d493 : CM yJ0_coder_7d493 cJ0_coder_7d493 1 (some .byte) 0 := ⟨co_J0_coder_7d493, ini_J0, by decide, by decide, by decide +kernel⟩
theorem cm_J0_isLatin1_aae02 : CM yJ0_isLatin1_aae02 cJ0_isLatin1_aae02 1 (some .boolean) 0 := ⟨co_J0_isLatin1_aae02, ini_J0, by decide, by decide, by decide +kernel⟩
theorem cm_J0_checkIndex_df160 : CM yJ0_checkIndex_df160 cJ0_checkIndex_df160 2 none 2 := ⟨co_J0_checkIndex_df160, ini_J0, by decide, by decide, by decide +kernel⟩
theorem cm_J1_charAt_3b067 : CM yJ1_charAt_3b067 cJ1_charAt_3b067 2 (some .char) 2 := ⟨co_J1_charAt_3b067, ini_J1, by decide, by decide, by decide +kernel⟩
theorem cm_J7_fill_53178 : CM yJ7_fill_53178 cJ7_fill_53178 4 none 2 := ⟨co_J7_fill_53178, ini_J7, by decide, by decide, by decide +kernel⟩
theorem cm_J3_checkIndex_8e157 : CM yJ3_checkIndex_8e157 cJ3_checkIndex_8e157 3 (some .int) 3 := ⟨co_J3_checkIndex_8e157, ini_J3, by decide, by decide, by decide +kernel⟩
/-- all objects of the class are there -/
def FX (G : Ly) : Prop := (gOb G 0 = some 7 ∧ gOb G 1 = some 3 ∧ gOb G 2 = some 2 ∧ gOb G 3 = some 6 ∧ gOb G 4 = some 6 ∧ gOb G 5 = some 6 ∧ gOb G 6 = some 6 ∧ gOb G 7 = some 6 ∧ gOb G 8 = some 6 ∧ gOb G 9 = some 1 ∧ gOb G 10 = some 5 ∧ gOb G 11 = some 4 ∧ gOb G 12 = some 4 ∧ gOb G 13 = some 0) ∧ (gLk G 0 0 = 1 ∧ gLk G 0 1 = 2 ∧ gLk G 0 2 = 3 ∧ gLk G 0 3 = 4 ∧ gLk G 0 4 = 9 ∧ gLk G 0 5 = 10 ∧ gLk G 0 6 = 12 ∧ gLk G 0 7 = 13 ∧ gLk G 9 100 = 5 ∧ gLk G 9 101 = 6 ∧ gLk G 9 102 = 7 ∧ gLk G 9 103 = 8 ∧ gLk G 10 0 = 11 ∧ gLk G 10 1 = 2 ∧ gLk G 11 0 = 2 ∧ gLk G 12 0 = 2 ∧ gLk G 13 0 = 2)
theorem fx0 {G : Ly} (F : FX G) : gOb G 0 = some 7 := F.1.1
theorem fx1 {G : Ly} (F : FX G) : gOb G 1 = some 3 := F.1.2.1
theorem fx2 {G : Ly} (F : FX G) : gOb G 2 = some 2 := F.1.2.2.1
theorem fx3 {G : Ly} (F : FX G) : gOb G 3 = some 6 := F.1.2.2.2.1
theorem fx4 {G : Ly} (F : FX G) : gOb G 4 = some 6 := F.1.2.2.2.2.1
theorem fx5 {G : Ly} (F : FX G) : gOb G 5 = some 6 := F.1.2.2.2.2.2.1
theorem fx6 {G : Ly} (F : FX G) : gOb G 6 = some 6 := F.1.2.2.2.2.2.2.1
theorem fx7 {G : Ly} (F : FX G) : gOb G 7 = some 6 := F.1.2.2.2.2.2.2.2.1
theorem fx8 {G : Ly} (F : FX G) : gOb G 8 = some 6 := F.1.2.2.2.2.2.2.2.2.1
theorem fx9 {G : Ly} (F : FX G) : gOb G 9 = some 1 := F.1.2.2.2.2.2.2.2.2.2.1
theorem fx10 {G : Ly} (F : FX G) : gOb G 10 = some 5 := F.1.2.2.2.2.2.2.2.2.2.2.1
theorem fx11 {G : Ly} (F : FX G) : gOb G 11 = some 4 := F.1.2.2.2.2.2.2.2.2.2.2.2.1
theorem fx12 {G : Ly} (F : FX G) : gOb G 12 = some 4 := F.1.2.2.2.2.2.2.2.2.2.2.2.2.1
theorem fx13 {G : Ly} (F : FX G) : gOb G 13 = some 0 := F.1.2.2.2.2.2.2.2.2.2.2.2.2.2
theorem fl0_0 {G : Ly} (F : FX G) : gLk G 0 0 = 1 := F.2.1
theorem fl0_1 {G : Ly} (F : FX G) : gLk G 0 1 = 2 := F.2.2.1
theorem fl0_2 {G : Ly} (F : FX G) : gLk G 0 2 = 3 := F.2.2.2.1
theorem fl0_3 {G : Ly} (F : FX G) : gLk G 0 3 = 4 := F.2.2.2.2.1
theorem fl0_4 {G : Ly} (F : FX G) : gLk G 0 4 = 9 := F.2.2.2.2.2.1
theorem fl0_5 {G : Ly} (F : FX G) : gLk G 0 5 = 10 := F.2.2.2.2.2.2.1
theorem fl0_6 {G : Ly} (F : FX G) : gLk G 0 6 = 12 := F.2.2.2.2.2.2.2.1
theorem fl0_7 {G : Ly} (F : FX G) : gLk G 0 7 = 13 := F.2.2.2.2.2.2.2.2.1
theorem fl9_100 {G : Ly} (F : FX G) : gLk G 9 100 = 5 := F.2.2.2.2.2.2.2.2.2.1
theorem fl9_101 {G : Ly} (F : FX G) : gLk G 9 101 = 6 := F.2.2.2.2.2.2.2.2.2.2.1
theorem fl9_102 {G : Ly} (F : FX G) : gLk G 9 102 = 7 := F.2.2.2.2.2.2.2.2.2.2.2.1
theorem fl9_103 {G : Ly} (F : FX G) : gLk G 9 103 = 8 := F.2.2.2.2.2.2.2.2.2.2.2.2.1
theorem fl10_0 {G : Ly} (F : FX G) : gLk G 10 0 = 11 := F.2.2.2.2.2.2.2.2.2.2.2.2.2.1
theorem fl10_1 {G : Ly} (F : FX G) : gLk G 10 1 = 2 := F.2.2.2.2.2.2.2.2.2.2.2.2.2.2.1
theorem fl11_0 {G : Ly} (F : FX G) : gLk G 11 0 = 2 := F.2.2.2.2.2.2.2.2.2.2.2.2.2.2.2.1
theorem fl12_0 {G : Ly} (F : FX G) : gLk G 12 0 = 2 := F.2.2.2.2.2.2.2.2.2.2.2.2.2.2.2.2.1
theorem fl13_0 {G : Ly} (F : FX G) : gLk G 13 0 = 2 := F.2.2.2.2.2.2.2.2.2.2.2.2.2.2.2.2.2
/-- the reference is there -/
def FM (G : Ly) : Prop := gOb G 20 = some 8
