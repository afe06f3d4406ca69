/-! ===== the judgement jWP, and its rows ===== -/
def jDig (j : Nat) : Int := match j with
  | 0 => 0
  | 1 => 1
  | 2 => 2
  | 3 => 9
  | _ => 59
/-- what lies outside the world and never changes: two links of nest mates, the text "telwx" (its cell 78, its bytes 79), a static, the row of DIGEST_STEPS (80) -/
def jOld (E : jE) (s : State) : Prop := va_Nw (.methodLinkNest RX3 25 yX4_isStep RX4) s ∧ va_Nw (.methodLinkNest RX3 29 yX4_isNumber RX4) s ∧ vk_R RX0 38 "telwx" (E.2.2.1 78) s ∧ vk_S 1 [5] [[116, 101, 108, 119, 120]] (fun _ => E.2.2.1 78) (fun _ => E.2.2.1 79) (jA E) s s.heap ∧
  va_Z "java/lang/String" "COMPACT_STRINGS" "Z" (.int 1) (jA E) s s.heap ∧ va_Z RX4 "DIGEST_STEPS" "[I" (.ref (E.2.2.1 80)) (jA E) s s.heap ∧ va_T .int (E.2.2.1 80) 5 (fun j => .int (jI (jDig j))) (jA E) s s.heap
theorem jOld.go {E : jE} {s U : State} {locs : List Loc} (h : jOld E s) (hS : va_S (jA E) s.heap U.heap locs) (hW : s.WarmedH U.vm) : jOld E U := by
  obtain ⟨h1, h2, h3, h4, h5, h6, h7⟩ := h
  exact ⟨h1.warmM hW, h2.warmM hW, h3.warm hW, (h4.kept hS.2.1).moved hW.alike, (h5.kept hS.2.1).moved hW.alike, (h6.kept hS.2.1).moved hW.alike, (h7.kept hS.2.1).moved hW.alike⟩
theorem jOld.blind {E : jE} {U : State} {g : JFrame} {mk : MethodId} {a : Array Value} (h : jOld E U) : jOld E (U.calling g mk a) := by
  obtain ⟨h1, h2, h3, h4, h5, h6, h7⟩ := h
  exact ⟨h1.same rfl rfl, h2.same rfl rfl, h3.same rfl, h4.moved (U := U.calling g mk a) (Vm.Alike.refl U.vm), h5.moved (U := U.calling g mk a) (Vm.Alike.refl U.vm), h6.moved (U := U.calling g mk a) (Vm.Alike.refl U.vm), h7.moved (U := U.calling g mk a) (Vm.Alike.refl U.vm)⟩
def jWS (E : jE) (s : State) : Prop := va_K E.2.1 jCl (jTys E) s ∧ jInj E ∧ jOld E s
def jWH (E : jE) (H : jH) (heap : Heap) : Prop := va_P E.2.1 jCl (jWs E H) heap ∧ jR H
theorem jWS.go {E : jE} {s U : State} {locs : List Loc} (h : jWS E s) (hS : va_S (jA E) s.heap U.heap locs) (hW : s.WarmedH U.vm) : jWS E U := ⟨va_K.moved hW.alike h.1, h.2.1, h.2.2.go hS hW⟩
def jFx (me : jM) (p : Program) (s : State) (m : MethodId) (args : Array Value) (meth : Method) (c : Code) : Prop :=
  p.tables.exec = Jvm.exec ∧ c.code = me.2.1 ∧ c.maxLocals = me.2.2.1 ∧ s.vm.findClass me.1.cls = some m.cls ∧ (∀ w ∈ jWd me, w.before args s = true) ∧ meth.sig.returnType = me.2.2.2.1 ∧ meth.locks = false
def jQQ (E : jE) (Q : Option Value → jH → Prop) : Array Value → State → Outcome → State → Prop := fun _ st oc t => (∃ (r : Option Value) (H' : jH), oc = .returned r ∧ Q r H' ∧ jWH E H' t.heap) ∧ va_F (jA E) st t
/-! locals -/
def jGet : List (Option Value) → Nat → Option Value
  | [], _ => none
  | a :: _, 0 => a
  | _ :: t, n + 1 => jGet t n
def jSt : List (Option Value) → Nat → Value → List (Option Value)
  | [], _, _ => []
  | _ :: t, 0, v => some v :: t
  | a :: t, n + 1, v => a :: jSt t n v
def jSt2 : List (Option Value) → Nat → Value → List (Option Value)
  | [], _, _ => []
  | [a], _, _ => [a]
  | _ :: _ :: t, 0, v => some v :: none :: t
  | a :: b :: t, n + 1, v => a :: jSt2 (b :: t) n v
def jCk (lv : List (Option Value)) : Nat → Bool
  | 0 => true
  | i + 1 => match jGet lv i with
    | some v => v.category == 1
    | none => true
def jAsc : Nat → List (Option Value) → List (Nat × Value)
  | _, [] => []
  | i, none :: t => jAsc (i + 1) t
  | i, some v :: t => (i, v) :: jAsc (i + 1) t
theorem jAsc_mem : ∀ (l : List (Option Value)) (i d : Nat) (v : Value), jGet l d = some v → (i + d, v) ∈ jAsc i l
  | [], i, d, v, h => by simp [jGet] at h
  | none :: t, i, 0, v, h => by simp [jGet] at h
  | some w :: t, i, 0, v, h => by
    simp [jGet] at h
    subst h
    simp [jAsc]
  | none :: t, i, d + 1, v, h => by
    have := jAsc_mem t (i + 1) d v h
    rw [show i + (d + 1) = i + 1 + d by omega]
    exact this
  | some w :: t, i, d + 1, v, h => by
    have := jAsc_mem t (i + 1) d v h
    rw [show i + (d + 1) = i + 1 + d by omega]
    exact List.mem_cons_of_mem _ this
theorem jAsc_at : ∀ (l : List (Option Value)) (i : Nat) (q : Nat × Value), q ∈ jAsc i l → ∃ d, q.1 = i + d ∧ jGet l d = some q.2
  | [], i, q, h => by simp [jAsc] at h
  | none :: t, i, q, h => by
    obtain ⟨d, h1, h2⟩ := jAsc_at t (i + 1) q h
    exact ⟨d + 1, by omega, h2⟩
  | some w :: t, i, q, h => by
    rcases List.mem_cons.mp h with rfl | h
    · exact ⟨0, rfl, rfl⟩
    · obtain ⟨d, h1, h2⟩ := jAsc_at t (i + 1) q h
      exact ⟨d + 1, by omega, h2⟩
def jHas (ls : Array Slot) (nL : Nat) (lv : List (Option Value)) : Prop := lv_has ls nL (jAsc 0 lv)
theorem jHas.get {ls : Array Slot} {nL : Nat} {lv : List (Option Value)} (h : jHas ls nL lv) {i : Nat} {v : Value} (hv : jGet lv i = some v) : ls[i]? = some (.val v) := by
  have := h.2.2 _ (jAsc_mem lv 0 i v hv)
  rwa [Nat.zero_add] at this
theorem jHas.of {ls : Array Slot} {nL : Nat} {lv : List (Option Value)} {l : List (Nat × Value)} (h : lv_has ls nL l) (hs : ∀ i v, jGet lv i = some v → (i, v) ∈ l) : jHas ls nL lv := by
  refine ⟨h.1, h.2.1, fun q hq => ?_⟩
  obtain ⟨d, h1, h2⟩ := jAsc_at lv 0 q hq
  rw [Nat.zero_add] at h1
  rw [h1]
  exact h.2.2 _ (hs d q.2 h2)
theorem jSt_get : ∀ (lv : List (Option Value)) (i : Nat) (v : Value) (j : Nat) (w : Value), jGet (jSt lv i v) j = some w → (j = i ∧ w = v) ∨ (j ≠ i ∧ jGet lv j = some w)
  | [], i, v, j, w, h => by simp [jSt, jGet] at h
  | a :: t, 0, v, 0, w, h => by
    simp [jSt, jGet] at h
    exact Or.inl ⟨rfl, h.symm⟩
  | a :: t, 0, v, j + 1, w, h => Or.inr ⟨by omega, h⟩
  | a :: t, n + 1, v, 0, w, h => Or.inr ⟨by omega, h⟩
  | a :: t, n + 1, v, j + 1, w, h => by
    rcases jSt_get t n v j w h with ⟨h1, h2⟩ | ⟨h1, h2⟩
    · exact Or.inl ⟨by omega, h2⟩
    · exact Or.inr ⟨by omega, h2⟩
theorem jSt2_get : ∀ (lv : List (Option Value)) (i : Nat) (v : Value) (j : Nat) (w : Value), i + 1 < lv.length → jGet (jSt2 lv i v) j = some w → (j = i ∧ w = v) ∨ (j ≠ i ∧ j ≠ i + 1 ∧ jGet lv j = some w)
  | [], i, v, j, w, hl, h => by simp at hl
  | [a], i, v, j, w, hl, h => by simp at hl
  | a :: b :: t, 0, v, 0, w, hl, h => by
    simp [jSt2, jGet] at h
    exact Or.inl ⟨rfl, h.symm⟩
  | a :: b :: t, 0, v, 1, w, hl, h => by simp [jSt2, jGet] at h
  | a :: b :: t, 0, v, j + 2, w, hl, h => Or.inr ⟨by omega, by omega, h⟩
  | a :: b :: t, n + 1, v, 0, w, hl, h => Or.inr ⟨by omega, by omega, h⟩
  | a :: b :: t, n + 1, v, j + 1, w, hl, h => by
    have hl' : n + 1 < (b :: t).length := by simp at hl ⊢; omega
    rcases jSt2_get (b :: t) n v j w hl' h with ⟨h1, h2⟩ | ⟨h1, h2, h3⟩
    · exact Or.inl ⟨by omega, h2⟩
    · exact Or.inr ⟨by omega, by omega, h3⟩
theorem jHas.st {ls : Array Slot} {nL : Nat} {lv : List (Option Value)} {i : Nat} {v : Value} (hc : jCk lv i = true) (h : lv_has ls nL ((i, v) :: (jAsc 0 lv).filter (fun q => !(q.1 == i) && !(q.1 + 1 == i && q.2.category == 2)))) : jHas ls nL (jSt lv i v) := by
  refine jHas.of h (fun j w hw => ?_)
  rcases jSt_get lv i v j w hw with ⟨rfl, rfl⟩ | ⟨h1, h2⟩
  · exact List.mem_cons_self
  · refine List.mem_cons_of_mem _ (List.mem_filter.mpr ⟨by have := jAsc_mem lv 0 j w h2; rwa [Nat.zero_add] at this, ?_⟩)
    have hcat : ¬ (j + 1 = i ∧ w.category = 2) := by
      rintro ⟨rfl, q⟩
      simp [jCk, h2, q] at hc
    simp only [Bool.and_eq_true, Bool.not_eq_true', beq_eq_false_iff_ne, ne_eq, Bool.and_eq_false_iff]
    refine ⟨h1, ?_⟩
    by_cases hj : j + 1 = i
    · right
      intro q
      exact hcat ⟨hj, q⟩
    · left
      exact hj
theorem jHas.st2 {ls : Array Slot} {nL : Nat} {lv : List (Option Value)} {i : Nat} {v : Value} (hl : i + 1 < lv.length) (hc : jCk lv i = true) (h : lv_has ls nL ((i, v) :: (jAsc 0 lv).filter (fun q => !(q.1 == i) && (!(q.1 == i + 1) && !(q.1 + 1 == i && q.2.category == 2))))) : jHas ls nL (jSt2 lv i v) := by
  refine jHas.of h (fun j w hw => ?_)
  rcases jSt2_get lv i v j w hl hw with ⟨rfl, rfl⟩ | ⟨h1, h1', h2⟩
  · exact List.mem_cons_self
  · refine List.mem_cons_of_mem _ (List.mem_filter.mpr ⟨by have := jAsc_mem lv 0 j w h2; rwa [Nat.zero_add] at this, ?_⟩)
    have hcat : ¬ (j + 1 = i ∧ w.category = 2) := by
      rintro ⟨rfl, q⟩
      simp [jCk, h2, q] at hc
    simp only [Bool.and_eq_true, Bool.not_eq_true', beq_eq_false_iff_ne, ne_eq, Bool.and_eq_false_iff]
    refine ⟨h1, h1', ?_⟩
    by_cases hj : j + 1 = i
    · right
      intro q
      exact hcat ⟨hj, q⟩
    · left
      exact hj
/-! the judgement -/
def jWP (E : jE) (me : jM) (Q : Option Value → jH → Prop) (pc : Nat) (lv : List (Option Value)) (st : List Value) (H : jH) : Prop :=
  ∀ (p : Program) (e : Env) (s : State) (m : MethodId) (args : Array Value) (below : List Frame) (meth : Method) (c : Code) (heap : Heap) (locs : List Loc) (ls : Array Slot),
    jFx me p s m args meth c → jWS E s → jWH E H heap → va_S (jA E) s.heap heap locs → jHas ls me.2.2.1 lv →
      W p E.1 e (jRoom me) s m args below meth c heap locs 0 0 (MQ below (jQQ E Q) args s 0 0 (jA E)) (F0 m pc ls st)
def jPc (E : jE) (vs : List Value) (H : jH) : Array Value → State → Prop := va_Pc vs (fun U => jWH E H U.heap ∧ jWS E U)
def jOk (E : jE) (me : jM) (vs : List Value) (H : jH) (Q : Option Value → jH → Prop) : Prop := Met E.1 me.1 (jWd me) (jRoom me) (jPc E vs H) (jQQ E Q) 0 0 (jA E)
def jEnt : List Value → Nat → List (Option Value)
  | [], n => List.replicate n none
  | v :: vs, n => if v.category = 2 then some v :: none :: jEnt vs (n - 2) else some v :: jEnt vs (n - 1)
theorem jEnt_get : ∀ (vs : List Value) (n i : Nat) (w : Value) (b : Nat), jGet (jEnt vs n) i = some w → (b + i, w) ∈ lv_args b vs
  | [], n, i, w, b, h => by
    exfalso
    have : ∀ n i, jGet (List.replicate n (none : Option Value)) i = none := by
      intro n
      induction n with
      | zero => intro i; rfl
      | succ n ih =>
        intro i
        rw [List.replicate_succ]
        cases i with
        | zero => rfl
        | succ i => exact ih i
    unfold jEnt at h
    rw [this] at h
    cases h
  | v :: vs, n, i, w, b, h => by
    unfold jEnt at h
    by_cases hc : v.category = 2
    · rw [if_pos hc] at h
      cases i with
      | zero => simp [jGet] at h; subst h; simp [lv_args]
      | succ i =>
        cases i with
        | zero => simp [jGet] at h
        | succ i =>
          have := jEnt_get vs (n - 2) i w (b + 2) h
          simp only [lv_args, hc, if_true]
          rw [show b + (i + 1 + 1) = b + 2 + i by omega]
          exact List.mem_cons_of_mem _ this
    · rw [if_neg hc] at h
      cases i with
      | zero => simp [jGet] at h; subst h; simp [lv_args]
      | succ i =>
        have := jEnt_get vs (n - 1) i w (b + 1) h
        simp only [lv_args, hc, if_false]
        rw [show b + (i + 1) = b + 1 + i by omega]
        exact List.mem_cons_of_mem _ this
/-- a method's contract out of the walk from its entry -/
theorem jOk.of {E : jE} {me : jM} {vs : List Value} {H : jH} {Q : Option Value → jH → Prop} (hy : plainName me.1.cls = true) (hl : (lg_sl vs).length ≤ me.2.2.1) (k : jWP E me Q 0 (jEnt vs me.2.2.1) [] H) : jOk E me vs H Q := by
  refine Met.ofW (cc := me.2.1) (maxL := me.2.2.1) (ret := me.2.2.2.1) (ws' := jW) hy rfl ?_
  intro p e s m args below meth c s₁ B hml hv
  obtain ⟨rfl, hWH, hWS⟩ := hv
  rw [lg_entry_eq]
  exact k p e s m _ below meth c s.heap [] _ ⟨B.exec, B.bytes, hml, findClass_of_methodNamed B.named, atoms_spec (ws := jWd me) B.pre, B.returns, B.notSynchronized⟩ hWS hWH va_S.rf (jHas.of (lv_entry vs hl) (fun i v h => by have := jEnt_get vs me.2.2.1 i v 0 h; rwa [Nat.zero_add] at this))
theorem jOk.mono {E : jE} {me : jM} {vs : List Value} {H : jH} {Q Q' : Option Value → jH → Prop} (h : jOk E me vs H Q) (hq : ∀ r H', Q r H' → Q' r H') : jOk E me vs H Q' := by
  intro p e ha hc hk s m args below hf hpre hP hK
  obtain ⟨k, o, h1, h2, h3, ⟨⟨r, H', e1, e2, e3⟩, e4⟩, e5⟩ := h p e ha hc hk s m args below hf hpre hP hK
  exact ⟨k, o, h1, h2, h3, ⟨⟨r, H', e1, hq r H' e2, e3⟩, e4⟩, e5⟩
section JROWS
variable {E : jE} {me : jM} {Q : Option Value → jH → Prop} {pc : Nat} {lv : List (Option Value)} {st : List Value} {H : jH}
theorem jWP.at {pc' : Nat} (h : pc = pc') (k : jWP E me Q pc' lv st H) : jWP E me Q pc lv st H := by subst h; exact k

theorem j_iconst (n : Nat) (hn : pc + 1 = n) {x : Int} (hd : decode me.2.1 pc = .ok (.iconst x, 1)) (k : jWP E me Q n lv (.int (jI x) :: st) H) : jWP E me Q pc lv (st) H := by
  subst hn
  intro p e s m args below meth c heap locs ls F S X V Y
  refine lv_iconst F.1 F.2.1 hd (v := jI x) rfl ?_
  exact k p e s m args below meth c heap locs ls F S X V Y
theorem j_bipush (n : Nat) (hn : pc + 2 = n) {x : Int} (hv : (Int8.ofInt x).toInt32 = jI x) (hd : decode me.2.1 pc = .ok (.bipush x, 2)) (k : jWP E me Q n lv (.int (jI x) :: st) H) : jWP E me Q pc lv (st) H := by
  subst hn
  intro p e s m args below meth c heap locs ls F S X V Y
  refine lv_bipush F.1 F.2.1 hd hv ?_
  exact k p e s m args below meth c heap locs ls F S X V Y
theorem j_sipush (n : Nat) (hn : pc + 3 = n) {x : Int} (hv : (Int16.ofInt x).toInt32 = jI x) (hd : decode me.2.1 pc = .ok (.sipush x, 3)) (k : jWP E me Q n lv (.int (jI x) :: st) H) : jWP E me Q pc lv (st) H := by
  subst hn
  intro p e s m args below meth c heap locs ls F S X V Y
  refine lv_sipush F.1 F.2.1 hd hv ?_
  exact k p e s m args below meth c heap locs ls F S X V Y
theorem j_lconst (n : Nat) (hn : pc + 1 = n) {z : Fin 2} {x : Int} (hv : Int64.ofNat (z : Nat) = jL x) (hd : decode me.2.1 pc = .ok (.lconst z, 1)) (k : jWP E me Q n lv (.long (jL x) :: st) H) : jWP E me Q pc lv (st) H := by
  subst hn
  intro p e s m args below meth c heap locs ls F S X V Y
  refine lv_lconst F.1 F.2.1 hd hv ?_
  exact k p e s m args below meth c heap locs ls F S X V Y
theorem j_ldc (n : Nat) (hn : pc + 2 = n) {ix : Nat} {x : Int} (hc : Cond.constant me.1.cls ix (jI x) ∈ jW) (hd : decode me.2.1 pc = .ok (.ldc ix, 2)) (k : jWP E me Q n lv (.int (jI x) :: st) H) : jWP E me Q pc lv (st) H := by
  subst hn
  intro p e s m args below meth c heap locs ls F S X V Y
  refine lv_ldc F.1 F.2.1 F.2.2.2.1 (F.2.2.2.2.1 _ (List.mem_cons_of_mem _ hc)) hd ?_
  exact k p e s m args below meth c heap locs ls F S X V Y
theorem j_ldcw (n : Nat) (hn : pc + 3 = n) {ix : Nat} {x : Int} (hc : Cond.constant me.1.cls ix (jI x) ∈ jW) (hd : decode me.2.1 pc = .ok (.ldc_w ix, 3)) (k : jWP E me Q n lv (.int (jI x) :: st) H) : jWP E me Q pc lv (st) H := by
  subst hn
  intro p e s m args below meth c heap locs ls F S X V Y
  refine lv_ldcw F.1 F.2.1 F.2.2.2.1 (F.2.2.2.2.1 _ (List.mem_cons_of_mem _ hc)) hd ?_
  exact k p e s m args below meth c heap locs ls F S X V Y
theorem j_ldc2 (n : Nat) (hn : pc + 3 = n) {ix : Nat} {x : Int} (hc : Cond.constantLong me.1.cls ix (jL x) ∈ jW) (hd : decode me.2.1 pc = .ok (.ldc2_w ix, 3)) (k : jWP E me Q n lv (.long (jL x) :: st) H) : jWP E me Q pc lv (st) H := by
  subst hn
  intro p e s m args below meth c heap locs ls F S X V Y
  refine lv_ldc2 F.1 F.2.1 F.2.2.2.1 (F.2.2.2.2.1 _ (List.mem_cons_of_mem _ hc)) hd ?_
  exact k p e s m args below meth c heap locs ls F S X V Y
theorem j_iload_n (n : Nat) (hn : pc + 1 = n) {i : Fin 4} {x : Int} (hl : jGet lv i = some (.int (jI x))) (hd : decode me.2.1 pc = .ok (.iload_n i, 1)) (k : jWP E me Q n lv (.int (jI x) :: st) H) : jWP E me Q pc lv (st) H := by
  subst hn
  intro p e s m args below meth c heap locs ls F S X V Y
  refine lv_iload_n F.1 F.2.1 hd rfl (Y.get hl) ?_
  exact k p e s m args below meth c heap locs ls F S X V Y
theorem j_lload_n (n : Nat) (hn : pc + 1 = n) {i : Fin 4} {x : Int} (hl : jGet lv i = some (.long (jL x))) (hd : decode me.2.1 pc = .ok (.lload_n i, 1)) (k : jWP E me Q n lv (.long (jL x) :: st) H) : jWP E me Q pc lv (st) H := by
  subst hn
  intro p e s m args below meth c heap locs ls F S X V Y
  refine lv_lload_n F.1 F.2.1 hd rfl (Y.get hl) ?_
  exact k p e s m args below meth c heap locs ls F S X V Y
theorem j_iload (n : Nat) (hn : pc + 2 = n) {i : Nat} {x : Int} (hl : jGet lv i = some (.int (jI x))) (hd : decode me.2.1 pc = .ok (.iload i, 2)) (k : jWP E me Q n lv (.int (jI x) :: st) H) : jWP E me Q pc lv (st) H := by
  subst hn
  intro p e s m args below meth c heap locs ls F S X V Y
  refine lv_iload F.1 F.2.1 hd (Y.get hl) ?_
  exact k p e s m args below meth c heap locs ls F S X V Y
theorem j_lload (n : Nat) (hn : pc + 2 = n) {i : Nat} {x : Int} (hl : jGet lv i = some (.long (jL x))) (hd : decode me.2.1 pc = .ok (.lload i, 2)) (k : jWP E me Q n lv (.long (jL x) :: st) H) : jWP E me Q pc lv (st) H := by
  subst hn
  intro p e s m args below meth c heap locs ls F S X V Y
  refine lv_lload F.1 F.2.1 hd (Y.get hl) ?_
  exact k p e s m args below meth c heap locs ls F S X V Y
theorem j_aload_n (n : Nat) (hn : pc + 1 = n) {i : Fin 4} {x : Nat} (hl : jGet lv i = some (jRF E x)) (hd : decode me.2.1 pc = .ok (.aload_n i, 1)) (k : jWP E me Q n lv (jRF E x :: st) H) : jWP E me Q pc lv (st) H := by
  subst hn
  intro p e s m args below meth c heap locs ls F S X V Y
  refine lv_aload_n F.1 F.2.1 hd rfl (Y.get hl) ?_
  exact k p e s m args below meth c heap locs ls F S X V Y
theorem j_aload (n : Nat) (hn : pc + 2 = n) {i : Nat} {x : Nat} (hl : jGet lv i = some (jRF E x)) (hd : decode me.2.1 pc = .ok (.aload i, 2)) (k : jWP E me Q n lv (jRF E x :: st) H) : jWP E me Q pc lv (st) H := by
  subst hn
  intro p e s m args below meth c heap locs ls F S X V Y
  refine lv_aload F.1 F.2.1 hd (Y.get hl) ?_
  exact k p e s m args below meth c heap locs ls F S X V Y
theorem j_istore_n (n : Nat) (hn : pc + 1 = n) {i : Fin 4} {x : Int} {lv' : List (Option Value)} (hs : jSt lv i (.int (jI x)) = lv') (hi : (i : Nat) < me.2.2.1) (hc : jCk lv i = true) (hd : decode me.2.1 pc = .ok (.istore_n i, 1)) (k : jWP E me Q n lv' st H) : jWP E me Q pc lv (.int (jI x) :: st) H := by
  subst hn
  subst hs
  intro p e s m args below meth c heap locs ls F S X V Y
  refine lv_istore_n F.1 F.2.1 hd rfl Y hi rfl (fun ls q => ?_)
  exact k p e s m args below meth c heap locs ls F S X V (jHas.st hc q)
theorem j_istore (n : Nat) (hn : pc + 2 = n) {i : Nat} {x : Int} {lv' : List (Option Value)} (hs : jSt lv i (.int (jI x)) = lv') (hi : (i : Nat) < me.2.2.1) (hc : jCk lv i = true) (hd : decode me.2.1 pc = .ok (.istore i, 2)) (k : jWP E me Q n lv' st H) : jWP E me Q pc lv (.int (jI x) :: st) H := by
  subst hn
  subst hs
  intro p e s m args below meth c heap locs ls F S X V Y
  refine lv_istore F.1 F.2.1 hd Y hi rfl (fun ls q => ?_)
  exact k p e s m args below meth c heap locs ls F S X V (jHas.st hc q)
theorem j_lstore_n (n : Nat) (hn : pc + 1 = n) {i : Fin 4} {x : Int} {lv' : List (Option Value)} (hs : jSt2 lv i (.long (jL x)) = lv') (hi : (i : Nat) + 1 < me.2.2.1) (hll : (i : Nat) + 1 < lv.length) (hc : jCk lv i = true) (hd : decode me.2.1 pc = .ok (.lstore_n i, 1)) (k : jWP E me Q n lv' st H) : jWP E me Q pc lv (.long (jL x) :: st) H := by
  subst hn
  subst hs
  intro p e s m args below meth c heap locs ls F S X V Y
  refine lv_lstore_n F.1 F.2.1 hd rfl Y hi rfl (fun ls q => ?_)
  exact k p e s m args below meth c heap locs ls F S X V (jHas.st2 hll hc q)
theorem j_lstore (n : Nat) (hn : pc + 2 = n) {i : Nat} {x : Int} {lv' : List (Option Value)} (hs : jSt2 lv i (.long (jL x)) = lv') (hi : (i : Nat) + 1 < me.2.2.1) (hll : (i : Nat) + 1 < lv.length) (hc : jCk lv i = true) (hd : decode me.2.1 pc = .ok (.lstore i, 2)) (k : jWP E me Q n lv' st H) : jWP E me Q pc lv (.long (jL x) :: st) H := by
  subst hn
  subst hs
  intro p e s m args below meth c heap locs ls F S X V Y
  refine lv_lstore F.1 F.2.1 hd Y hi rfl (fun ls q => ?_)
  exact k p e s m args below meth c heap locs ls F S X V (jHas.st2 hll hc q)
theorem j_astore_n (n : Nat) (hn : pc + 1 = n) {i : Fin 4} {x : Nat} {lv' : List (Option Value)} (hs : jSt lv i (jRF E x) = lv') (hi : (i : Nat) < me.2.2.1) (hc : jCk lv i = true) (hd : decode me.2.1 pc = .ok (.astore_n i, 1)) (k : jWP E me Q n lv' st H) : jWP E me Q pc lv (jRF E x :: st) H := by
  subst hn
  subst hs
  intro p e s m args below meth c heap locs ls F S X V Y
  refine lv_astore_n F.1 F.2.1 hd rfl Y hi rfl (fun ls q => ?_)
  exact k p e s m args below meth c heap locs ls F S X V (jHas.st hc q)
theorem j_astore (n : Nat) (hn : pc + 2 = n) {i : Nat} {x : Nat} {lv' : List (Option Value)} (hs : jSt lv i (jRF E x) = lv') (hi : (i : Nat) < me.2.2.1) (hc : jCk lv i = true) (hd : decode me.2.1 pc = .ok (.astore i, 2)) (k : jWP E me Q n lv' st H) : jWP E me Q pc lv (jRF E x :: st) H := by
  subst hn
  subst hs
  intro p e s m args below meth c heap locs ls F S X V Y
  refine lv_astore F.1 F.2.1 hd Y hi rfl (fun ls q => ?_)
  exact k p e s m args below meth c heap locs ls F S X V (jHas.st hc q)
theorem j_iinc (n : Nat) (hn : pc + 3 = n) {i : Nat} {x y : Int} {lv' : List (Option Value)} (hl : jGet lv i = some (.int (jI x))) (hs : jSt lv i (.int (jI (x + y))) = lv') (hi : i < me.2.2.1) (hc : jCk lv i = true) (hd : decode me.2.1 pc = .ok (.iinc i y, 3)) (k : jWP E me Q n lv' st H) : jWP E me Q pc lv st H := by
  subst hn
  subst hs
  intro p e s m args below meth c heap locs ls F S X V Y
  have hm := jAsc_mem lv 0 i _ hl
  rw [Nat.zero_add] at hm
  obtain ⟨k0, hk0⟩ := List.getElem?_of_mem hm
  refine lv_iinc (v := jI (x + y)) F.1 F.2.1 hd Y hk0 (by rw [← jI_add]; rfl) hi rfl (fun ls q => ?_)
  exact k p e s m args below meth c heap locs ls F S X V (jHas.st hc q)
theorem j_iadd (n : Nat) (hn : pc + 1 = n) {a b : Int} (hd : decode me.2.1 pc = .ok (.iadd, 1)) (k : jWP E me Q n lv (.int (jI (a + b)) :: st) H) : jWP E me Q pc lv (.int (jI b) :: .int (jI a) :: st) H := by
  subst hn
  intro p e s m args below meth c heap locs ls F S X V Y
  refine lv_iadd F.1 F.2.1 hd ?_
  rw [jI_add]
  exact k p e s m args below meth c heap locs ls F S X V Y
theorem j_isub (n : Nat) (hn : pc + 1 = n) {a b : Int} (hd : decode me.2.1 pc = .ok (.isub, 1)) (k : jWP E me Q n lv (.int (jI (a - b)) :: st) H) : jWP E me Q pc lv (.int (jI b) :: .int (jI a) :: st) H := by
  subst hn
  intro p e s m args below meth c heap locs ls F S X V Y
  refine lv_isub F.1 F.2.1 hd ?_
  rw [jI_sub]
  exact k p e s m args below meth c heap locs ls F S X V Y
theorem j_imul (n : Nat) (hn : pc + 1 = n) {a b : Int} (hd : decode me.2.1 pc = .ok (.imul, 1)) (k : jWP E me Q n lv (.int (jI (a * b)) :: st) H) : jWP E me Q pc lv (.int (jI b) :: .int (jI a) :: st) H := by
  subst hn
  intro p e s m args below meth c heap locs ls F S X V Y
  refine lv_imul F.1 F.2.1 hd ?_
  rw [jI_mul]
  exact k p e s m args below meth c heap locs ls F S X V Y
theorem j_ladd (n : Nat) (hn : pc + 1 = n) {a b : Int} (hd : decode me.2.1 pc = .ok (.ladd, 1)) (k : jWP E me Q n lv (.long (jL (a + b)) :: st) H) : jWP E me Q pc lv (.long (jL b) :: .long (jL a) :: st) H := by
  subst hn
  intro p e s m args below meth c heap locs ls F S X V Y
  refine lv_ladd F.1 F.2.1 hd ?_
  rw [jL_add]
  exact k p e s m args below meth c heap locs ls F S X V Y
theorem j_lsub (n : Nat) (hn : pc + 1 = n) {a b : Int} (hd : decode me.2.1 pc = .ok (.lsub, 1)) (k : jWP E me Q n lv (.long (jL (a - b)) :: st) H) : jWP E me Q pc lv (.long (jL b) :: .long (jL a) :: st) H := by
  subst hn
  intro p e s m args below meth c heap locs ls F S X V Y
  refine lv_lsub F.1 F.2.1 hd ?_
  rw [jL_sub]
  exact k p e s m args below meth c heap locs ls F S X V Y
theorem j_lmul (n : Nat) (hn : pc + 1 = n) {a b : Int} (hd : decode me.2.1 pc = .ok (.lmul, 1)) (k : jWP E me Q n lv (.long (jL (a * b)) :: st) H) : jWP E me Q pc lv (.long (jL b) :: .long (jL a) :: st) H := by
  subst hn
  intro p e s m args below meth c heap locs ls F S X V Y
  refine lv_lmul F.1 F.2.1 hd ?_
  rw [jL_mul]
  exact k p e s m args below meth c heap locs ls F S X V Y
theorem j_ineg (n : Nat) (hn : pc + 1 = n) {a : Int} (hd : decode me.2.1 pc = .ok (.ineg, 1)) (k : jWP E me Q n lv (.int (jI (-a)) :: st) H) : jWP E me Q pc lv (.int (jI a) :: st) H := by
  subst hn
  intro p e s m args below meth c heap locs ls F S X V Y
  refine lv_ineg F.1 F.2.1 hd ?_
  rw [jI_neg]
  exact k p e s m args below meth c heap locs ls F S X V Y
theorem j_iand (n : Nat) (hn : pc + 1 = n) {a b : Int} (v : Int) (hv : jR H → jI a &&& jI b = jI v) (hd : decode me.2.1 pc = .ok (.iand, 1)) (k : jWP E me Q n lv (.int (jI v) :: st) H) : jWP E me Q pc lv (.int (jI b) :: .int (jI a) :: st) H := by
  subst hn
  intro p e s m args below meth c heap locs ls F S X V Y
  refine lv_iand F.1 F.2.1 hd ?_
  rw [hv X.2]
  exact k p e s m args below meth c heap locs ls F S X V Y
theorem j_ior (n : Nat) (hn : pc + 1 = n) {a b : Int} (v : Int) (hv : jR H → jI a ||| jI b = jI v) (hd : decode me.2.1 pc = .ok (.ior, 1)) (k : jWP E me Q n lv (.int (jI v) :: st) H) : jWP E me Q pc lv (.int (jI b) :: .int (jI a) :: st) H := by
  subst hn
  intro p e s m args below meth c heap locs ls F S X V Y
  refine lv_ior F.1 F.2.1 hd ?_
  rw [hv X.2]
  exact k p e s m args below meth c heap locs ls F S X V Y
theorem j_ixor (n : Nat) (hn : pc + 1 = n) {a b : Int} (v : Int) (hv : jR H → jI a ^^^ jI b = jI v) (hd : decode me.2.1 pc = .ok (.ixor, 1)) (k : jWP E me Q n lv (.int (jI v) :: st) H) : jWP E me Q pc lv (.int (jI b) :: .int (jI a) :: st) H := by
  subst hn
  intro p e s m args below meth c heap locs ls F S X V Y
  refine lv_ixor F.1 F.2.1 hd ?_
  rw [hv X.2]
  exact k p e s m args below meth c heap locs ls F S X V Y
theorem j_ishl (n : Nat) (hn : pc + 1 = n) {a b : Int} (v : Int) (hv : jR H → jI a <<< (jI b &&& 31) = jI v) (hd : decode me.2.1 pc = .ok (.ishl, 1)) (k : jWP E me Q n lv (.int (jI v) :: st) H) : jWP E me Q pc lv (.int (jI b) :: .int (jI a) :: st) H := by
  subst hn
  intro p e s m args below meth c heap locs ls F S X V Y
  refine lv_ishl F.1 F.2.1 hd ?_
  rw [hv X.2]
  exact k p e s m args below meth c heap locs ls F S X V Y
theorem j_ishr (n : Nat) (hn : pc + 1 = n) {a b : Int} (v : Int) (hv : jR H → jI a >>> (jI b &&& 31) = jI v) (hd : decode me.2.1 pc = .ok (.ishr, 1)) (k : jWP E me Q n lv (.int (jI v) :: st) H) : jWP E me Q pc lv (.int (jI b) :: .int (jI a) :: st) H := by
  subst hn
  intro p e s m args below meth c heap locs ls F S X V Y
  refine lv_ishr F.1 F.2.1 hd ?_
  rw [hv X.2]
  exact k p e s m args below meth c heap locs ls F S X V Y
theorem j_iushr (n : Nat) (hn : pc + 1 = n) {a b : Int} (v : Int) (hv : jR H → ((jI a).toUInt32 >>> ((jI b).toUInt32 &&& Int32.toUInt32 31)).toInt32 = jI v) (hd : decode me.2.1 pc = .ok (.iushr, 1)) (k : jWP E me Q n lv (.int (jI v) :: st) H) : jWP E me Q pc lv (.int (jI b) :: .int (jI a) :: st) H := by
  subst hn
  intro p e s m args below meth c heap locs ls F S X V Y
  refine lv_iushr (v := jI v) F.1 F.2.1 hd (hv X.2) ?_
  exact k p e s m args below meth c heap locs ls F S X V Y
theorem j_lshl (n : Nat) (hn : pc + 1 = n) {a b : Int} (v : Int) (hv : jR H → jL a <<< ((jI b).toInt64 &&& 63) = jL v) (hd : decode me.2.1 pc = .ok (.lshl, 1)) (k : jWP E me Q n lv (.long (jL v) :: st) H) : jWP E me Q pc lv (.int (jI b) :: .long (jL a) :: st) H := by
  subst hn
  intro p e s m args below meth c heap locs ls F S X V Y
  refine lv_lshl (v := jL v) F.1 F.2.1 hd (hv X.2) ?_
  exact k p e s m args below meth c heap locs ls F S X V Y
theorem j_idiv (n : Nat) (hn : pc + 1 = n) {a b : Int} (v : Int) (hb : jR H → ¬ jI b = 0) (hv : jR H → jI a / jI b = jI v) (hd : decode me.2.1 pc = .ok (.idiv, 1)) (k : jWP E me Q n lv (.int (jI v) :: st) H) : jWP E me Q pc lv (.int (jI b) :: .int (jI a) :: st) H := by
  subst hn
  intro p e s m args below meth c heap locs ls F S X V Y
  refine lv_idiv F.1 F.2.1 hd (hb X.2) ?_
  rw [hv X.2]
  exact k p e s m args below meth c heap locs ls F S X V Y
theorem j_irem (n : Nat) (hn : pc + 1 = n) {a b : Int} (v : Int) (hb : jR H → ¬ jI b = 0) (hv : jR H → jI a - jI a / jI b * jI b = jI v) (hd : decode me.2.1 pc = .ok (.irem, 1)) (k : jWP E me Q n lv (.int (jI v) :: st) H) : jWP E me Q pc lv (.int (jI b) :: .int (jI a) :: st) H := by
  subst hn
  intro p e s m args below meth c heap locs ls F S X V Y
  refine lv_irem F.1 F.2.1 hd (hb X.2) ?_
  rw [hv X.2]
  exact k p e s m args below meth c heap locs ls F S X V Y
theorem j_ldiv (n : Nat) (hn : pc + 1 = n) {a b : Int} (v : Int) (hb : jR H → ¬ jL b = 0) (hv : jR H → jL a / jL b = jL v) (hd : decode me.2.1 pc = .ok (.ldiv, 1)) (k : jWP E me Q n lv (.long (jL v) :: st) H) : jWP E me Q pc lv (.long (jL b) :: .long (jL a) :: st) H := by
  subst hn
  intro p e s m args below meth c heap locs ls F S X V Y
  refine lv_ldiv F.1 F.2.1 hd (hb X.2) ?_
  rw [hv X.2]
  exact k p e s m args below meth c heap locs ls F S X V Y
theorem j_lrem (n : Nat) (hn : pc + 1 = n) {a b : Int} (v : Int) (hb : jR H → ¬ jL b = 0) (hv : jR H → jL a - jL a / jL b * jL b = jL v) (hd : decode me.2.1 pc = .ok (.lrem, 1)) (k : jWP E me Q n lv (.long (jL v) :: st) H) : jWP E me Q pc lv (.long (jL b) :: .long (jL a) :: st) H := by
  subst hn
  intro p e s m args below meth c heap locs ls F S X V Y
  refine lv_lrem F.1 F.2.1 hd (hb X.2) ?_
  rw [hv X.2]
  exact k p e s m args below meth c heap locs ls F S X V Y
theorem j_i2l (n : Nat) (hn : pc + 1 = n) {a : Int} (ha : jR H → -2147483648 ≤ a ∧ a ≤ 2147483647) (hd : decode me.2.1 pc = .ok (.i2l, 1)) (k : jWP E me Q n lv (.long (jL a) :: st) H) : jWP E me Q pc lv (.int (jI a) :: st) H := by
  subst hn
  intro p e s m args below meth c heap locs ls F S X V Y
  refine lv_i2l (v := jL a) F.1 F.2.1 hd (jI_i2l (ha X.2)) ?_
  exact k p e s m args below meth c heap locs ls F S X V Y
theorem j_i2b (n : Nat) (hn : pc + 1 = n) {a : Int} (v : Int) (hv : jR H → (jI a).toInt8.toInt32 = jI v) (hd : decode me.2.1 pc = .ok (.i2b, 1)) (k : jWP E me Q n lv (.int (jI v) :: st) H) : jWP E me Q pc lv (.int (jI a) :: st) H := by
  subst hn
  intro p e s m args below meth c heap locs ls F S X V Y
  refine lv_i2b (v := jI v) F.1 F.2.1 hd (hv X.2) ?_
  exact k p e s m args below meth c heap locs ls F S X V Y
theorem j_i2s (n : Nat) (hn : pc + 1 = n) {a : Int} (v : Int) (hv : jR H → (jI a).toInt16.toInt32 = jI v) (hd : decode me.2.1 pc = .ok (.i2s, 1)) (k : jWP E me Q n lv (.int (jI v) :: st) H) : jWP E me Q pc lv (.int (jI a) :: st) H := by
  subst hn
  intro p e s m args below meth c heap locs ls F S X V Y
  refine lv_i2s (v := jI v) F.1 F.2.1 hd (hv X.2) ?_
  exact k p e s m args below meth c heap locs ls F S X V Y
theorem j_i2c (n : Nat) (hn : pc + 1 = n) {a : Int} (v : Int) (hv : jR H → ((jI a).toUInt32 % 65536).toInt32 = jI v) (hd : decode me.2.1 pc = .ok (.i2c, 1)) (k : jWP E me Q n lv (.int (jI v) :: st) H) : jWP E me Q pc lv (.int (jI a) :: st) H := by
  subst hn
  intro p e s m args below meth c heap locs ls F S X V Y
  refine lv_i2c (v := jI v) F.1 F.2.1 hd (hv X.2) ?_
  exact k p e s m args below meth c heap locs ls F S X V Y
theorem j_dup (n : Nat) (hn : pc + 1 = n) {v : Value} (hc : v.category = 1) (hd : decode me.2.1 pc = .ok (.dup, 1)) (k : jWP E me Q n lv (v :: v :: st) H) : jWP E me Q pc lv (v :: st) H := by
  subst hn
  intro p e s m args below meth c heap locs ls F S X V Y
  refine lv_dup F.1 F.2.1 hd hc ?_
  exact k p e s m args below meth c heap locs ls F S X V Y
theorem j_pop (n : Nat) (hn : pc + 1 = n) {v : Value} (hc : v.category = 1) (hd : decode me.2.1 pc = .ok (.pop, 1)) (k : jWP E me Q n lv (st) H) : jWP E me Q pc lv (v :: st) H := by
  subst hn
  intro p e s m args below meth c heap locs ls F S X V Y
  refine lv_pop F.1 F.2.1 hd hc ?_
  exact k p e s m args below meth c heap locs ls F S X V Y
theorem j_dup2 (n : Nat) (hn : pc + 1 = n) {v w : Value} (hc : v.category = 1) (hw : w.category = 1) (hd : decode me.2.1 pc = .ok (.dup2, 1)) (k : jWP E me Q n lv (v :: w :: v :: w :: st) H) : jWP E me Q pc lv (v :: w :: st) H := by
  subst hn
  intro p e s m args below meth c heap locs ls F S X V Y
  refine lv_dup2_11 F.1 F.2.1 hd hc hw ?_
  exact k p e s m args below meth c heap locs ls F S X V Y
theorem j_dup_x1 (n : Nat) (hn : pc + 1 = n) {v w : Value} (hc : v.category = 1) (hw : w.category = 1) (hd : decode me.2.1 pc = .ok (.dup_x1, 1)) (k : jWP E me Q n lv (v :: w :: v :: st) H) : jWP E me Q pc lv (v :: w :: st) H := by
  subst hn
  intro p e s m args below meth c heap locs ls F S X V Y
  refine lv_dup_x1 F.1 F.2.1 hd hc hw ?_
  exact k p e s m args below meth c heap locs ls F S X V Y
theorem j_dup_x2 (n : Nat) (hn : pc + 1 = n) {v w x : Value} (hc : v.category = 1) (hw : w.category = 1) (hx : x.category = 1) (hd : decode me.2.1 pc = .ok (.dup_x2, 1)) (k : jWP E me Q n lv (v :: w :: x :: v :: st) H) : jWP E me Q pc lv (v :: w :: x :: st) H := by
  subst hn
  intro p e s m args below meth c heap locs ls F S X V Y
  refine lv_dup_x2 F.1 F.2.1 hd hc hw hx ?_
  exact k p e s m args below meth c heap locs ls F S X V Y
theorem j_goto (t : Nat) {off : Int} (ht : (pc : Int) + off = (t : Int)) (hd : decode me.2.1 pc = .ok (.goto off, 3)) (k : jWP E me Q t lv st H) : jWP E me Q pc lv st H := by
  intro p e s m args below meth c heap locs ls F S X V Y
  exact lv_goto F.1 F.2.1 hd ht (k p e s m args below meth c heap locs ls F S X V Y)
theorem j_icmp_eq (t n : Nat) {off : Int} {a b : Int} (ht : (pc : Int) + off = (t : Int)) (hn : pc + 3 = n) (hd : decode me.2.1 pc = .ok (.if_icmp .eq off, 3)) (ha : jR H → -2147483648 ≤ a ∧ a ≤ 2147483647) (hb : jR H → -2147483648 ≤ b ∧ b ≤ 2147483647) (kt : a = b → jWP E me Q t lv st H) (kf : a ≠ b → jWP E me Q n lv st H) : jWP E me Q pc lv (.int (jI b) :: .int (jI a) :: st) H := by
  subst hn
  intro p e s m args below meth c heap locs ls F S X V Y
  have ra := ha X.2
  have rb := hb X.2
  refine lv_icmp_eq F.1 F.2.1 hd ht (fun h => kt ?_ p e s m args below meth c heap locs ls F S X V Y) (fun h => kf ?_ p e s m args below meth c heap locs ls F S X V Y) <;> rw [jI_eq ra rb] at h <;> omega
theorem j_if_eq (t n : Nat) {off : Int} {a : Int} (ht : (pc : Int) + off = (t : Int)) (hn : pc + 3 = n) (hd : decode me.2.1 pc = .ok (.ifCond .eq off, 3)) (ha : jR H → -2147483648 ≤ a ∧ a ≤ 2147483647) (kt : a = 0 → jWP E me Q t lv st H) (kf : a ≠ 0 → jWP E me Q n lv st H) : jWP E me Q pc lv (.int (jI a) :: st) H := by
  subst hn
  intro p e s m args below meth c heap locs ls F S X V Y
  have ra := ha X.2
  have rb : -2147483648 ≤ (0 : Int) ∧ (0 : Int) ≤ 2147483647 := by omega
  refine lv_if_eq F.1 F.2.1 hd ht (fun h => kt ?_ p e s m args below meth c heap locs ls F S X V Y) (fun h => kf ?_ p e s m args below meth c heap locs ls F S X V Y) <;> rw [← jI_0, jI_eq ra rb] at h <;> omega
theorem j_icmp_ne (t n : Nat) {off : Int} {a b : Int} (ht : (pc : Int) + off = (t : Int)) (hn : pc + 3 = n) (hd : decode me.2.1 pc = .ok (.if_icmp .ne off, 3)) (ha : jR H → -2147483648 ≤ a ∧ a ≤ 2147483647) (hb : jR H → -2147483648 ≤ b ∧ b ≤ 2147483647) (kt : a ≠ b → jWP E me Q t lv st H) (kf : a = b → jWP E me Q n lv st H) : jWP E me Q pc lv (.int (jI b) :: .int (jI a) :: st) H := by
  subst hn
  intro p e s m args below meth c heap locs ls F S X V Y
  have ra := ha X.2
  have rb := hb X.2
  refine lv_icmp_ne F.1 F.2.1 hd ht (fun h => kt ?_ p e s m args below meth c heap locs ls F S X V Y) (fun h => kf ?_ p e s m args below meth c heap locs ls F S X V Y) <;> rw [jI_eq ra rb] at h <;> omega
theorem j_if_ne (t n : Nat) {off : Int} {a : Int} (ht : (pc : Int) + off = (t : Int)) (hn : pc + 3 = n) (hd : decode me.2.1 pc = .ok (.ifCond .ne off, 3)) (ha : jR H → -2147483648 ≤ a ∧ a ≤ 2147483647) (kt : a ≠ 0 → jWP E me Q t lv st H) (kf : a = 0 → jWP E me Q n lv st H) : jWP E me Q pc lv (.int (jI a) :: st) H := by
  subst hn
  intro p e s m args below meth c heap locs ls F S X V Y
  have ra := ha X.2
  have rb : -2147483648 ≤ (0 : Int) ∧ (0 : Int) ≤ 2147483647 := by omega
  refine lv_if_ne F.1 F.2.1 hd ht (fun h => kt ?_ p e s m args below meth c heap locs ls F S X V Y) (fun h => kf ?_ p e s m args below meth c heap locs ls F S X V Y) <;> rw [← jI_0, jI_eq ra rb] at h <;> omega
theorem j_icmp_lt (t n : Nat) {off : Int} {a b : Int} (ht : (pc : Int) + off = (t : Int)) (hn : pc + 3 = n) (hd : decode me.2.1 pc = .ok (.if_icmp .lt off, 3)) (ha : jR H → -2147483648 ≤ a ∧ a ≤ 2147483647) (hb : jR H → -2147483648 ≤ b ∧ b ≤ 2147483647) (kt : a < b → jWP E me Q t lv st H) (kf : b ≤ a → jWP E me Q n lv st H) : jWP E me Q pc lv (.int (jI b) :: .int (jI a) :: st) H := by
  subst hn
  intro p e s m args below meth c heap locs ls F S X V Y
  have ra := ha X.2
  have rb := hb X.2
  refine lv_icmp_lt F.1 F.2.1 hd ht (fun h => kt ?_ p e s m args below meth c heap locs ls F S X V Y) (fun h => kf ?_ p e s m args below meth c heap locs ls F S X V Y) <;> rw [jI_lt ra rb] at h <;> omega
theorem j_if_lt (t n : Nat) {off : Int} {a : Int} (ht : (pc : Int) + off = (t : Int)) (hn : pc + 3 = n) (hd : decode me.2.1 pc = .ok (.ifCond .lt off, 3)) (ha : jR H → -2147483648 ≤ a ∧ a ≤ 2147483647) (kt : a < 0 → jWP E me Q t lv st H) (kf : 0 ≤ a → jWP E me Q n lv st H) : jWP E me Q pc lv (.int (jI a) :: st) H := by
  subst hn
  intro p e s m args below meth c heap locs ls F S X V Y
  have ra := ha X.2
  have rb : -2147483648 ≤ (0 : Int) ∧ (0 : Int) ≤ 2147483647 := by omega
  refine lv_if_lt F.1 F.2.1 hd ht (fun h => kt ?_ p e s m args below meth c heap locs ls F S X V Y) (fun h => kf ?_ p e s m args below meth c heap locs ls F S X V Y) <;> rw [← jI_0, jI_lt ra rb] at h <;> omega
theorem j_icmp_ge (t n : Nat) {off : Int} {a b : Int} (ht : (pc : Int) + off = (t : Int)) (hn : pc + 3 = n) (hd : decode me.2.1 pc = .ok (.if_icmp .ge off, 3)) (ha : jR H → -2147483648 ≤ a ∧ a ≤ 2147483647) (hb : jR H → -2147483648 ≤ b ∧ b ≤ 2147483647) (kt : b ≤ a → jWP E me Q t lv st H) (kf : a < b → jWP E me Q n lv st H) : jWP E me Q pc lv (.int (jI b) :: .int (jI a) :: st) H := by
  subst hn
  intro p e s m args below meth c heap locs ls F S X V Y
  have ra := ha X.2
  have rb := hb X.2
  refine lv_icmp_ge F.1 F.2.1 hd ht (fun h => kt ?_ p e s m args below meth c heap locs ls F S X V Y) (fun h => kf ?_ p e s m args below meth c heap locs ls F S X V Y) <;> rw [jI_le rb ra] at h <;> omega
theorem j_if_ge (t n : Nat) {off : Int} {a : Int} (ht : (pc : Int) + off = (t : Int)) (hn : pc + 3 = n) (hd : decode me.2.1 pc = .ok (.ifCond .ge off, 3)) (ha : jR H → -2147483648 ≤ a ∧ a ≤ 2147483647) (kt : 0 ≤ a → jWP E me Q t lv st H) (kf : a < 0 → jWP E me Q n lv st H) : jWP E me Q pc lv (.int (jI a) :: st) H := by
  subst hn
  intro p e s m args below meth c heap locs ls F S X V Y
  have ra := ha X.2
  have rb : -2147483648 ≤ (0 : Int) ∧ (0 : Int) ≤ 2147483647 := by omega
  refine lv_if_ge F.1 F.2.1 hd ht (fun h => kt ?_ p e s m args below meth c heap locs ls F S X V Y) (fun h => kf ?_ p e s m args below meth c heap locs ls F S X V Y) <;> rw [← jI_0, jI_le rb ra] at h <;> omega
theorem j_icmp_gt (t n : Nat) {off : Int} {a b : Int} (ht : (pc : Int) + off = (t : Int)) (hn : pc + 3 = n) (hd : decode me.2.1 pc = .ok (.if_icmp .gt off, 3)) (ha : jR H → -2147483648 ≤ a ∧ a ≤ 2147483647) (hb : jR H → -2147483648 ≤ b ∧ b ≤ 2147483647) (kt : b < a → jWP E me Q t lv st H) (kf : a ≤ b → jWP E me Q n lv st H) : jWP E me Q pc lv (.int (jI b) :: .int (jI a) :: st) H := by
  subst hn
  intro p e s m args below meth c heap locs ls F S X V Y
  have ra := ha X.2
  have rb := hb X.2
  refine lv_icmp_gt F.1 F.2.1 hd ht (fun h => kt ?_ p e s m args below meth c heap locs ls F S X V Y) (fun h => kf ?_ p e s m args below meth c heap locs ls F S X V Y) <;> rw [jI_lt rb ra] at h <;> omega
theorem j_if_gt (t n : Nat) {off : Int} {a : Int} (ht : (pc : Int) + off = (t : Int)) (hn : pc + 3 = n) (hd : decode me.2.1 pc = .ok (.ifCond .gt off, 3)) (ha : jR H → -2147483648 ≤ a ∧ a ≤ 2147483647) (kt : 0 < a → jWP E me Q t lv st H) (kf : a ≤ 0 → jWP E me Q n lv st H) : jWP E me Q pc lv (.int (jI a) :: st) H := by
  subst hn
  intro p e s m args below meth c heap locs ls F S X V Y
  have ra := ha X.2
  have rb : -2147483648 ≤ (0 : Int) ∧ (0 : Int) ≤ 2147483647 := by omega
  refine lv_if_gt F.1 F.2.1 hd ht (fun h => kt ?_ p e s m args below meth c heap locs ls F S X V Y) (fun h => kf ?_ p e s m args below meth c heap locs ls F S X V Y) <;> rw [← jI_0, jI_lt rb ra] at h <;> omega
theorem j_icmp_le (t n : Nat) {off : Int} {a b : Int} (ht : (pc : Int) + off = (t : Int)) (hn : pc + 3 = n) (hd : decode me.2.1 pc = .ok (.if_icmp .le off, 3)) (ha : jR H → -2147483648 ≤ a ∧ a ≤ 2147483647) (hb : jR H → -2147483648 ≤ b ∧ b ≤ 2147483647) (kt : a ≤ b → jWP E me Q t lv st H) (kf : b < a → jWP E me Q n lv st H) : jWP E me Q pc lv (.int (jI b) :: .int (jI a) :: st) H := by
  subst hn
  intro p e s m args below meth c heap locs ls F S X V Y
  have ra := ha X.2
  have rb := hb X.2
  refine lv_icmp_le F.1 F.2.1 hd ht (fun h => kt ?_ p e s m args below meth c heap locs ls F S X V Y) (fun h => kf ?_ p e s m args below meth c heap locs ls F S X V Y) <;> rw [jI_le ra rb] at h <;> omega
theorem j_if_le (t n : Nat) {off : Int} {a : Int} (ht : (pc : Int) + off = (t : Int)) (hn : pc + 3 = n) (hd : decode me.2.1 pc = .ok (.ifCond .le off, 3)) (ha : jR H → -2147483648 ≤ a ∧ a ≤ 2147483647) (kt : a ≤ 0 → jWP E me Q t lv st H) (kf : 0 < a → jWP E me Q n lv st H) : jWP E me Q pc lv (.int (jI a) :: st) H := by
  subst hn
  intro p e s m args below meth c heap locs ls F S X V Y
  have ra := ha X.2
  have rb : -2147483648 ≤ (0 : Int) ∧ (0 : Int) ≤ 2147483647 := by omega
  refine lv_if_le F.1 F.2.1 hd ht (fun h => kt ?_ p e s m args below meth c heap locs ls F S X V Y) (fun h => kf ?_ p e s m args below meth c heap locs ls F S X V Y) <;> rw [← jI_0, jI_le ra rb] at h <;> omega
end JROWS
