/-! ===== rows of the heap, of calls and of ends ===== -/
section JHEAP
variable {E : jE} {me : jM} {Q : Option Value → jH → Prop} {pc : Nat} {lv : List (Option Value)} {st : List Value} {H : jH}
/-- an entry of a method's class is the link to field j of class ci -/
def jFL (own : String) (ix ci j : Nat) : Prop := ∃ (C : String) (T : u_T) (N : Nat), jCl[ci]? = some (C, T, N) ∧ j < N ∧ Cond.fieldLink own ix (T j).1 (T j).2.1 (T j).2.2.1 ∈ jW ∧ (∀ w ∈ u_ws C T N, w ∈ jW)
theorem jFlds_get (E : jE) (H : jH) (k j : Nat) {o : Option Nat} (h : (j_refL.getD k [])[j]? = some o) : (jFlds E H k)[j]? = some (jFld E H k j o) := by
  unfold jFlds
  rw [List.getElem?_mapIdx, h]
  rfl
theorem jCell_o (E : jE) (H : jH) {k ci : Nat} (h : j_shp k = .inr (.inr ci)) : jCell E H k = .inr (ci, jFlds E H k) := by unfold jCell; rw [h]
theorem jCell_a (E : jE) (H : jH) {k n : Nat} (h : j_shp k = .inl n) : jCell E H k = .inl (E.2.2.2 k, (n, .inl (fun j => jI (H k j)))) := by unfold jCell; rw [h]
theorem jCell_r (E : jE) (H : jH) {k n : Nat} (h : j_shp k = .inr (.inl n)) : jCell E H k = .inl (E.2.2.2 k, (n, .inr (.inr (.inr (.inr (fun j => (j_ref k j).map E.2.2.1)))))) := by unfold jCell; rw [h]
theorem j_geti (n : Nat) (hn : pc + 3 = n) {ix ci k : Nat} (j : Nat) (hl : jFL me.1.cls ix ci j) (hd : decode me.2.1 pc = .ok (.getfield ix, 3)) (hk : k < jK) (ho : j_shp k = .inr (.inr ci)) (hr : (j_refL.getD k [])[j]? = some none) (kk : jWP E me Q n lv (.int (jI (H k j)) :: st) H) : jWP E me Q pc lv (jRF E k :: st) H := by
  subst hn
  intro p e s m args below meth c heap locs ls F S X V Y
  obtain ⟨C, T, N, h1, h2, h3, h4⟩ := hl
  have he := jWs_get E H hk
  rw [jCell_o E H ho] at he
  refine va_get (ci := ci) (C := C) (T := T) (N := N) (Ts := jWd me) F.1 F.2.1 F.2.2.2.2.1 (fun w h => List.mem_cons_of_mem _ (h4 w h)) F.2.2.2.1 S.1 X.1 k he h1 j h2 (F.2.2.2.2.1 _ (List.mem_cons_of_mem _ h3)) (fun _ h => h) (jFlds_get E H k j hr) hd ?_
  exact kk p e s m args below meth c heap locs ls F S X V Y
theorem j_getr (n : Nat) (hn : pc + 3 = n) {ix ci k a : Nat} (j : Nat) (hl : jFL me.1.cls ix ci j) (hd : decode me.2.1 pc = .ok (.getfield ix, 3)) (hk : k < jK) (ho : j_shp k = .inr (.inr ci)) (hr : (j_refL.getD k [])[j]? = some (some a)) (kk : jWP E me Q n lv (jRF E a :: st) H) : jWP E me Q pc lv (jRF E k :: st) H := by
  subst hn
  intro p e s m args below meth c heap locs ls F S X V Y
  obtain ⟨C, T, N, h1, h2, h3, h4⟩ := hl
  have he := jWs_get E H hk
  rw [jCell_o E H ho] at he
  refine va_get (ci := ci) (C := C) (T := T) (N := N) (Ts := jWd me) F.1 F.2.1 F.2.2.2.2.1 (fun w h => List.mem_cons_of_mem _ (h4 w h)) F.2.2.2.1 S.1 X.1 k he h1 j h2 (F.2.2.2.2.1 _ (List.mem_cons_of_mem _ h3)) (fun _ h => h) (jFlds_get E H k j hr) hd ?_
  exact kk p e s m args below meth c heap locs ls F S X V Y
/-- what a field of ints takes -/
def jFT (ci j : Nat) (ty : FieldType) : Prop := ∃ (C : String) (T : u_T) (N : Nat) (t0 : Nat → FieldType), jCl[ci]? = some (C, T, N) ∧ j < N ∧ (T j).2.2.2 = false ∧ parseFieldDescriptor (T j).2.2.1 = some ty ∧ (∀ k, k < N → parseFieldDescriptor (T k).2.2.1 = some (t0 k)) ∧ (∀ a, a < N → ∀ b, b < N → a ≠ b → (T a).2.1 ≠ (T b).2.1)
theorem jFlds_set (E : jE) (H : jH) (k j : Nat) (v : Int) (h : (j_refL.getD k [])[j]? = some none) : (jFlds E H k).set j (.int (jI v)) = jFlds E (jU H k j v) k := by
  apply List.ext_getElem?
  intro i
  have hl : j < (j_refL.getD k []).length := (List.getElem?_eq_some_iff.mp h).1
  have hl2 : j < (jFlds E H k).length := by unfold jFlds; simpa using hl
  rw [List.getElem?_set]
  by_cases hi : j = i
  · subst hi
    rw [if_pos rfl, if_pos hl2, jFlds_get E (jU H k j v) k j h]
    simp [jFld, jU]
  · rw [if_neg hi]
    unfold jFlds
    rw [List.getElem?_mapIdx, List.getElem?_mapIdx]
    cases (j_refL.getD k [])[i]? with
    | none => rfl
    | some o =>
      cases o with
      | some a => rfl
      | none =>
        have hne : ¬ ((i : Int) = (j : Int)) := by omega
        simp [jFld, jU, hne]
theorem j_put {ty : FieldType} (n : Nat) (hn : pc + 3 = n) {ix ci k : Nat} (j : Nat) {x : Int} (hl : jFL me.1.cls ix ci j) (hf : jFT ci j ty) (hd : decode me.2.1 pc = .ok (.putfield ix, 3)) (hk : k < jK) (ho : j_shp k = .inr (.inr ci)) (hr : (j_refL.getD k [])[j]? = some none) (hx : jR H → -2147483648 ≤ x ∧ x ≤ 2147483647) (hnr : narrow ty (.int (jI x)) = .int (jI x)) (hft : fits ty (.int (jI x)) = true) (kk : jWP E me Q n lv st (jU H k j x)) : jWP E me Q pc lv (.int (jI x) :: jRF E k :: st) H := by
  subst hn
  intro p e s m args below meth c heap locs ls F S X V Y
  obtain ⟨C, T, N, h1, h2, h3, h4⟩ := hl
  obtain ⟨C', T', N', t0, g1, g2, g3, g4, g5, g6⟩ := hf
  have hq := Option.some.inj (h1.symm.trans g1)
  obtain ⟨rfl, hq2⟩ := Prod.mk.inj hq
  obtain ⟨rfl, rfl⟩ := Prod.mk.inj hq2
  have he := jWs_get E H hk
  rw [jCell_o E H ho] at he
  have hll : j < (jFlds E H k).length := by
    have := (List.getElem?_eq_some_iff.mp hr).1
    unfold jFlds
    simpa using this
  refine va_put (ci := ci) (C := C) (T := T) (N := N) (Ts := jWd me) (A := jA E) F.1 F.2.1 F.2.2.2.2.1 (fun w h => List.mem_cons_of_mem _ (h4 w h)) t0 g5 g6 F.2.2.2.1 S.1 X.1 (jD S.2.1 H) V k he h1 j h2 (F.2.2.2.2.1 _ (List.mem_cons_of_mem _ h3)) (fun _ h => h) g3 g4 hnr hft hll hd ?_
  intro H1 locs1 hP hD hS
  rw [jWs_set E H (jU H k j x) hk (by rw [jCell_o E _ ho, jFlds_set E H k j x hr]) (jU_other H k j x)] at hP
  exact kk p e s m args below meth c H1 locs1 ls F S ⟨hP, jR_u X.2 (hx X.2)⟩ hS Y
theorem j_puti (n : Nat) (hn : pc + 3 = n) {ix ci k : Nat} (j : Nat) {x : Int} (hl : jFL me.1.cls ix ci j) (hf : jFT ci j .int) (hd : decode me.2.1 pc = .ok (.putfield ix, 3)) (hk : k < jK) (ho : j_shp k = .inr (.inr ci)) (hr : (j_refL.getD k [])[j]? = some none) (hx : jR H → -2147483648 ≤ x ∧ x ≤ 2147483647) (kk : jWP E me Q n lv st (jU H k j x)) : jWP E me Q pc lv (.int (jI x) :: jRF E k :: st) H :=
  j_put n hn j hl hf hd hk ho hr hx rfl rfl kk
theorem j_putz (n : Nat) (hn : pc + 3 = n) {ix ci k : Nat} (j : Nat) {x : Int} (hl : jFL me.1.cls ix ci j) (hf : jFT ci j .boolean) (hd : decode me.2.1 pc = .ok (.putfield ix, 3)) (hk : k < jK) (ho : j_shp k = .inr (.inr ci)) (hr : (j_refL.getD k [])[j]? = some none) (hx : x = 0 ∨ x = 1) (kk : jWP E me Q n lv st (jU H k j x)) : jWP E me Q pc lv (.int (jI x) :: jRF E k :: st) H := by
  rcases hx with rfl | rfl
  · exact j_put n hn j hl hf hd hk ho hr (fun _ => by omega) (by decide) (by decide) kk
  · exact j_put n hn j hl hf hd hk ho hr (fun _ => by omega) (by decide) (by decide) kk
theorem j_iald (n : Nat) (hn : pc + 1 = n) {k N : Nat} {i : Int} (hd : decode me.2.1 pc = .ok (.iaload, 1)) (hk : k < jK) (ho : j_shp k = .inl N) (hN : N < 2 ^ 31) (hty : j_ty k = .int) (h0 : 0 ≤ i ∧ i < N) (kk : jWP E me Q n lv (.int (jI (H k i)) :: st) H) : jWP E me Q pc lv (.int (jI i) :: jRF E k :: st) H := by
  subst hn
  intro p e s m args below meth c heap locs ls F S X V Y
  have he := jWs_get E H hk
  rw [jCell_a E H ho] at he
  have ht := jTys_get E hk
  rw [hty] at ht
  refine va_iald F.1 F.2.1 S.1 X.1 k k he ht (jI_in hN h0.1 h0.2) hd ?_
  rw [jI_cl h0.1 (by omega)]
  have e1 : ((i.toNat : Nat) : Int) = i := Int.toNat_of_nonneg h0.1
  rw [e1]
  exact kk p e s m args below meth c heap locs ls F S X V Y
theorem jU_fn (H : jH) (k : Nat) {i v : Int} (h0 : 0 ≤ i) : (fun j : Nat => jI (jU H k i v k j)) = upd (fun j : Nat => jI (H k j)) i.toNat (jI v) := by
  funext q
  unfold upd jU
  by_cases h : q = i.toNat
  · subst h
    rw [if_pos rfl, if_pos ⟨rfl, Int.toNat_of_nonneg h0⟩]
  · rw [if_neg h, if_neg (fun z => h (by omega))]
theorem j_iast (n : Nat) (hn : pc + 1 = n) {k N : Nat} {i x : Int} (hd : decode me.2.1 pc = .ok (.iastore, 1)) (hk : k < jK) (ho : j_shp k = .inl N) (hN : N < 2 ^ 31) (hty : j_ty k = .int) (h0 : 0 ≤ i ∧ i < N) (hx : jR H → -2147483648 ≤ x ∧ x ≤ 2147483647) (kk : jWP E me Q n lv st (jU H k i x)) : jWP E me Q pc lv (.int (jI x) :: .int (jI i) :: jRF E k :: st) H := by
  subst hn
  intro p e s m args below meth c heap locs ls F S X V Y
  have he := jWs_get E H hk
  rw [jCell_a E H ho] at he
  have ht := jTys_get E hk
  rw [hty] at ht
  refine va_iast F.1 F.2.1 S.1 X.1 (jD S.2.1 H) V k k he ht (jI_in hN h0.1 h0.2) hd ?_
  intro H1 locs1 hP hD hS
  rw [jI_cl h0.1 (by omega)] at hP
  rw [jWs_set E H (jU H k i x) hk (by rw [jCell_a E _ ho, jU_fn H k h0.1]) (jU_other H k i x)] at hP
  exact kk p e s m args below meth c H1 locs1 ls F S ⟨hP, jR_u X.2 (hx X.2)⟩ hS Y
theorem j_aald (n : Nat) (hn : pc + 1 = n) {k N a : Nat} {i : Int} (hd : decode me.2.1 pc = .ok (.aaload, 1)) (hk : k < jK) (ho : j_shp k = .inr (.inl N)) (hN : N < 2 ^ 31) (hty : (j_ty k).isReference = true) (h0 : 0 ≤ i ∧ i < N) (hr : j_ref k i.toNat = some a) (kk : jWP E me Q n lv (jRF E a :: st) H) : jWP E me Q pc lv (.int (jI i) :: jRF E k :: st) H := by
  subst hn
  intro p e s m args below meth c heap locs ls F S X V Y
  have he := jWs_get E H hk
  rw [jCell_r E H ho] at he
  have ht := jTys_get E hk
  have hin := jI_in hN h0.1 h0.2
  have hlt : (jI i).toNatClampNeg < N := Nat.not_le.mp fun q => hin (Or.inr q)
  have e0 : (jI i).toNatClampNeg = i.toNat := jI_cl h0.1 (by omega)
  refine W.aald (v := jRF E a) (ty := j_ty k) F.1 F.2.1 (X.1 k _ he) ((S.1.2 k _ ht).1 N (fun j => va_rf ((j_ref k j).map E.2.2.1))) hty (fun q => by cases q) (by show ¬ (jI i < 0 ∨ (arrV _ _ _).slots.size ≤ _); rw [arrV_size]; exact hin) (by show (arrV _ _ _).slots[_]? = _; rw [arrV_read _ _ hlt, e0]; show some (va_rf ((j_ref k i.toNat).map E.2.2.1)) = some (jRF E a); rw [hr]; rfl) rfl rfl hd ?_
  exact kk p e s m args below meth c heap locs ls F S X V Y
theorem j_alen (n : Nat) (hn : pc + 1 = n) {k N : Nat} (hd : decode me.2.1 pc = .ok (.arraylength, 1)) (hk : k < jK) (ho : j_shp k = .inl N) (kk : jWP E me Q n lv (.int (jI N) :: st) H) : jWP E me Q pc lv (jRF E k :: st) H := by
  subst hn
  intro p e s m args below meth c heap locs ls F S X V Y
  have he := jWs_get E H hk
  rw [jCell_a E H ho] at he
  refine va_alen (v := jI N) F.1 F.2.1 S.1 X.1 k k he (jTys_get E hk) ?_ hd ?_
  · show Int32.ofNat N = Int32.ofInt N
    exact (Int32.ofInt_eq_ofNat).symm
  · exact kk p e s m args below meth c heap locs ls F S X V Y
/-! ends -/
theorem j_iret {x : Int} (hd : decode me.2.1 pc = .ok (.ireturn, 1)) (hr : me.2.2.2.1 = some .int) (hq : Q (some (.int (jI x))) H) : jWP E me Q pc lv [.int (jI x)] H := by
  intro p e s m args below meth c heap locs ls F S X V Y
  exact W.iret (hlocks := F.2.2.2.2.2.2) F.1 F.2.1 (F.2.2.2.2.2.1.trans hr) (fun t ht _ => ⟨⟨_, H, rfl, hq, by rw [ht]; exact X⟩, V.F ht⟩) V.2.2 hd
theorem j_zret {x : Int} (hd : decode me.2.1 pc = .ok (.ireturn, 1)) (hr : me.2.2.2.1 = some .boolean) (hx : x = 0 ∨ x = 1) (hq : Q (some (.int (jI x))) H) : jWP E me Q pc lv [.int (jI x)] H := by
  intro p e s m args below meth c heap locs ls F S X V Y
  have hn : narrow .boolean (.int (jI x)) = .int (jI x) := by rcases hx with rfl | rfl <;> decide
  exact W.zret (hlocks := F.2.2.2.2.2.2) F.1 F.2.1 (F.2.2.2.2.2.1.trans hr) hn (fun t ht _ => ⟨⟨_, H, rfl, hq, by rw [ht]; exact X⟩, V.F ht⟩) V.2.2 hd
theorem j_lret {x : Int} (hd : decode me.2.1 pc = .ok (.lreturn, 1)) (hr : me.2.2.2.1 = some .long) (hq : Q (some (.long (jL x))) H) : jWP E me Q pc lv [.long (jL x)] H := by
  intro p e s m args below meth c heap locs ls F S X V Y
  exact W.lret (hlocks := F.2.2.2.2.2.2) F.1 F.2.1 (F.2.2.2.2.2.1.trans hr) (fun t ht _ => ⟨⟨_, H, rfl, hq, by rw [ht]; exact X⟩, V.F ht⟩) V.2.2 hd
theorem j_vret (hd : decode me.2.1 pc = .ok (.return_, 1)) (hr : me.2.2.2.1 = none) (hq : Q none H) : jWP E me Q pc lv [] H := by
  intro p e s m args below meth c heap locs ls F S X V Y
  exact W.vret (hlocks := F.2.2.2.2.2.2) F.1 F.2.1 (F.2.2.2.2.2.1.trans hr) (fun t ht _ => ⟨⟨_, H, rfl, hq, by rw [ht]; exact X⟩, V.F ht⟩) V.2.2 hd
/-! calls -/
theorem jPc_blind (E : jE) (vs : List Value) (H : jH) : FrameBlind (jPc E vs H) := by
  intro a U g mk h
  obtain ⟨h1, h2, h3, h4, h5⟩ := h
  exact ⟨h1, h2, va_K.moved (u := U) (U := U.calling g mk a) (Vm.Alike.refl U.vm) h3, h4, h5.blind⟩
/-- behind a call -/
theorem jBack {p : Program} {e : Env} {s : State} {m : MethodId} {args : Array Value} {below : List Frame} {meth : Method} {c : Code} {heap : Heap} {locs : List Loc} {ls : Array Slot} {Q' : Option Value → jH → Prop} {st0 : List Value} {av : Array Value}
    (hr : va_Run p E.1 e (jRoom me) s m args below meth c heap locs 0 0 0 0 (F0 m pc ls st0) st (jQQ E Q' av) (jA E))
    (k : ∀ r H', Q' r H' → jWP E me Q (pc + 3) lv (r.toList ++ st) H')
    (F : jFx me p s m args meth c) (S : jWS E s) (V : va_S (jA E) s.heap heap locs) (Y : jHas ls me.2.2.1 lv) : W p E.1 e (jRoom me) s m args below meth c heap locs 0 0 (MQ below (jQQ E Q) args s 0 0 (jA E)) (F0 m pc ls st0) := by
  intro T hT X
  obtain ⟨v, st₀, t, T', L, h0, X', hL, e1, e2, ⟨⟨r, H', hv, hq, hw⟩, hz, hk⟩, stp⟩ := hr T hT X
  cases hv
  rw [h0] at hz hk
  obtain ⟨t2, a1, b1⟩ := k v H' hq p e s m args below meth c T'.heap (locs ++ L) ls F S (by rw [e1]; exact hw)
    ⟨Nat.le_trans V.1 (by rw [e1]; exact hz), fun q h1 h2 => by rw [e1, hk q (Nat.lt_of_lt_of_le h1 V.1) h2]; exact V.2.1 q h1 h2, fun q hq => by
      rcases List.mem_append.mp hq with h | h
      · exact V.2.2 q h
      · exact hL q h⟩ Y T' rfl X'
  exact ⟨t2, stp t2 a1, b1⟩
/-- the link of a call to the method me', whose class name and number of arguments fit -/
def jLk (own : String) (ix : Nat) (me' : jM) (na : Nat) : Prop := Cond.methodLink own ix me'.1 ∈ jW ∧ Cond.initialized me'.1.cls ∈ jW ∧ Cond.code me'.1 me'.2.1 me'.2.2.1 me'.2.2.2.1 ∈ jW ∧ (me'.1.cls ≠ "java/lang/invoke/MethodHandle" ∧ me'.1.cls ≠ "java/lang/invoke/VarHandle" ∧ (parseMethodDescriptor me'.1.desc).map (fun d => d.parameters.length) = some na)
def jFit (me me' : jM) : Bool := Nat.ble (me'.2.2.2.2.1 + 1) me.2.2.2.2.1 && Nat.ble (8 + (me'.2.2.1 + 11) + me'.2.2.2.2.2) me.2.2.2.2.2
theorem jFit_of {me me' : jM} (h : jFit me me' = true) : (jRoom me').frames + 1 ≤ (jRoom me).frames ∧ 8 + (me'.2.2.1 + 11) + (jRoom me').locals ≤ (jRoom me).locals := by
  unfold jFit at h
  rw [Bool.and_eq_true] at h
  exact ⟨Nat.le_of_ble_eq_true h.1, Nat.le_of_ble_eq_true h.2⟩
def jCat (st : List Value) : Bool := Nat.ble (st.map fun v => v.category).sum 8
theorem j_callS {me' : jM} {ix na : Nat} {vs st0 : List Value} {Q' : Option Value → jH → Prop} (hd : decode me.2.1 pc = .ok (.invokestatic ix, 3)) (hl : jLk me.1.cls ix me' na) (hs : Cond.static me'.1 ∈ jW) (hf : jFit me me' = true) (hc : jCat st = true) (hna : vs.length = na) (hst : st0 = vs.reverse ++ st) (hok : jOk E me' vs H Q') (k : ∀ r H', Q' r H' → jWP E me Q (pc + 3) lv (r.toList ++ st) H') : jWP E me Q pc lv st0 H := by
  intro p e s m args below meth c heap locs ls F S X V Y
  have cw : CallB (jRoom me) s args me.1.cls ix me'.1 me'.2.1 me'.2.2.1 me'.2.2.2.1 (jWd me') (jRoom me') 0 0 na := callB_of na F.2.2.2.2.1 (jGood hl.2.2.1) rfl rfl rfl (F.2.2.2.2.1 _ (List.mem_cons_of_mem _ hl.2.1)) (F.2.2.2.2.1 _ (List.mem_cons_of_mem _ hl.1)) hl.2.2.2 (jFit_of hf)
  refine jBack (Q' := Q') (av := vs.toArray) (va_runS (As := vs) (rest := st) ⟨F.1, F.2.1, F.2.2.1, F.2.2.2.1, F.2.2.2.2.1⟩ hok ⟨cw, F.2.2.2.2.1 _ (List.mem_cons_of_mem _ hs)⟩ ⟨jPc_blind E vs H, fun U hU hW => ⟨rfl, by rw [hU]; exact X, S.go (by rw [hU]; exact V) hW⟩⟩ rfl hna Y.1 hst (lv_room (Nat.le_of_ble_eq_true hc)) hd ⟨Nat.le_refl _, Nat.le_refl _⟩) k F S V Y
theorem j_callSN {me' : jM} {ix na : Nat} {host : String} {vs st0 : List Value} {Q' : Option Value → jH → Prop} (hd : decode me.2.1 pc = .ok (.invokestatic ix, 3)) (hl : (Cond.initialized me'.1.cls ∈ jW ∧ Cond.code me'.1 me'.2.1 me'.2.2.1 me'.2.2.2.1 ∈ jW ∧ (me'.1.cls ≠ "java/lang/invoke/MethodHandle" ∧ me'.1.cls ≠ "java/lang/invoke/VarHandle" ∧ (parseMethodDescriptor me'.1.desc).map (fun d => d.parameters.length) = some na))) (hN : ∀ s, jOld E s → va_Nw (.methodLinkNest me.1.cls ix me'.1 host) s) (hs : Cond.static me'.1 ∈ jW) (hf : jFit me me' = true) (hc : jCat st = true) (hna : vs.length = na) (hst : st0 = vs.reverse ++ st) (hok : jOk E me' vs H Q') (k : ∀ r H', Q' r H' → jWP E me Q (pc + 3) lv (r.toList ++ st) H') : jWP E me Q pc lv st0 H := by
  intro p e s m args below meth c heap locs ls F S X V Y
  have cw : va_CN (jRoom me) s args me.1.cls ix me'.1 host me'.2.1 me'.2.2.1 me'.2.2.2.1 (jWd me') (jRoom me') 0 0 na := va_cnB na F.2.2.2.2.1 (jGood hl.2.1) rfl rfl rfl (hN s S.2.2) (F.2.2.2.2.1 _ (List.mem_cons_of_mem _ hl.1)) hl.2.2 (jFit_of hf)
  refine jBack (Q' := Q') (av := vs.toArray) (va_runSN (As := vs) (rest := st) ⟨F.1, F.2.1, F.2.2.1, F.2.2.2.1, F.2.2.2.2.1⟩ hok ⟨cw, F.2.2.2.2.1 _ (List.mem_cons_of_mem _ hs), trivial⟩ ⟨jPc_blind E vs H, fun U hU hW => ⟨rfl, by rw [hU]; exact X, S.go (by rw [hU]; exact V) hW⟩⟩ rfl hna Y.1 hst (lv_room (Nat.le_of_ble_eq_true hc)) hd ⟨Nat.le_refl _, Nat.le_refl _⟩) k F S V Y
theorem j_callV {me' : jM} {ix na k0 ci : Nat} {As st0 : List Value} {Q' : Option Value → jH → Prop} (hd : decode me.2.1 pc = .ok (.invokevirtual ix, 3)) (hl : jLk me.1.cls ix me' na) (hs : Cond.instanceMethod me'.1 ∈ jW ∧ Cond.selects me'.1.cls me'.1 me'.1 ∈ jW) (hf : jFit me me' = true) (hc : jCat st = true) (hk : k0 < jK) (ho : j_shp k0 = .inr (.inr ci)) (hcl : (jCl[ci]?).map (fun q => q.1) = some me'.1.cls) (hna : As.length = na) (hst : st0 = As.reverse ++ jRF E k0 :: st) (hok : jOk E me' (jRF E k0 :: As) H Q') (k : ∀ r H', Q' r H' → jWP E me Q (pc + 3) lv (r.toList ++ st) H') : jWP E me Q pc lv st0 H := by
  intro p e s m args below meth c heap locs ls F S X V Y
  have cw : CallB (jRoom me) s args me.1.cls ix me'.1 me'.2.1 me'.2.2.1 me'.2.2.2.1 (jWd me') (jRoom me') 0 0 na := callB_of na F.2.2.2.2.1 (jGood hl.2.2.1) rfl rfl rfl (F.2.2.2.2.1 _ (List.mem_cons_of_mem _ hl.2.1)) (F.2.2.2.2.1 _ (List.mem_cons_of_mem _ hl.1)) hl.2.2.2 (jFit_of hf)
  obtain ⟨q, hq1, hq2⟩ := Option.map_eq_some_iff.mp hcl
  have he := jWs_get E H hk
  rw [jCell_o E H ho] at he
  have hrc := va_recv S.1 X.1 hq1 he
  rw [hq2] at hrc
  refine jBack (Q' := Q') (av := (jRF E k0 :: As).toArray) (va_runV (As := As) (rest := st) ⟨F.1, F.2.1, F.2.2.1, F.2.2.2.1, F.2.2.2.2.1⟩ hok ⟨cw, F.2.2.2.2.1 _ (List.mem_cons_of_mem _ hs.1), F.2.2.2.2.1 _ (List.mem_cons_of_mem _ hs.2)⟩ ⟨jPc_blind E _ H, hrc, fun U hU hW => ⟨rfl, by rw [hU]; exact X, S.go (by rw [hU]; exact V) hW⟩⟩ rfl hna Y.1 hst (lv_room (Nat.le_of_ble_eq_true hc)) hd ⟨Nat.le_refl _, Nat.le_refl _⟩) k F S V Y
end JHEAP
