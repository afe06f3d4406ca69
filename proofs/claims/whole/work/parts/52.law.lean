/-! ===== the law ===== -/
def R_law : String := "JackBoxesLaw"
def lw_P (b : Addr) (xs : List Int32) (args : Array Value) (s : State) : Prop := args = #[.ref b] ∧ s.IntsAt b xs ∧ xs.length ≤ 3072 ∧ (Jvm.Cond.and given_1 narrow_1).before args s = true
def lw_Q (_ : Array Value) (s : State) (o : Outcome) (t : State) : Prop := o = .returned (some (.int 1)) ∧ Framed s o t [] 600000 7302249
def lw_Z (below : List Frame) (a : Array Value) (s : State) : State → Prop := fun t => ∃ o, t.status = .running ∧ Ended t below o ∧ lw_Q a s o t
/-- the law's own end, with 1 on the stack, nothing written that was there before, its room as the claim has it -/
theorem lw_ret {p : Program} {l : Launch} {e : Env} {s : State} {m : MethodId} {below : List Frame} {meth : Method} {c : Code} {b : Nat} (hx : p.tables.exec = Jvm.exec) (hb : c.code = code) (hr : meth.sig.returnType = ret) (hlocks : meth.locks = false) {pc : Nat} {H : Heap} {ls : Array Slot} (hdg : decode code pc = .ok (.ireturn, 1)) : W p l e room_1 s m #[Value.ref b] below meth c H [] 600000 7302249 (lw_Z below #[Value.ref b] s) (F0 m pc ls [.int 1]) := by
  intro T hT X
  obtain ⟨fs, hret, hrun, hended, hW, hframe⟩ := X.leave (v := some (.int 1)) (hlocks := hlocks) (fun h => by rw [hr] at h; cases h)
  have hmeth' : T.vm.method? m = some meth := X.method'
  refine ⟨T.setFrames fs, ?_, .returned (some (.int 1)), hrun, hended, rfl, ⟨_, rfl⟩, hW, hframe⟩
  jvm_step X.here [X.here.top, hx, hb, hdg, hmeth', hr, ret, narrow_b1]
  (try refine ⟨rfl, ?_⟩); (try refine ⟨rfl, ?_⟩)
  first | (intro acts; rw [hret _ acts rfl rfl rfl]) | rw [hret _ _ rfl rfl rfl]
  exact Steps.refl _
/-- what holds at the law's entry: the machine, the code, the tables' words (any of lw_tbl by 'hts w (by decide +kernel)'), the script of L ints xs at the cell b, what the Statement gives of the start (any of its parts by flat_of_before) -/
def lw_At (p : Program) (s : State) (m : MethodId) (meth : Method) (c : Code) (b L : Nat) (xs : Nat → Int32) : Prop :=
  p.tables.exec = Jvm.exec ∧ c.code = code ∧ meth.sig.returnType = ret ∧ c.maxLocals = 4 ∧ s.vm.findClass R_law = some m.cls ∧ (∀ w ∈ lw_tbl, w.before #[Value.ref b] s = true) ∧ va_X b L xs s s.heap ∧ b < s.heap.size ∧ meth.locks = false ∧ (Jvm.Cond.and given_1 narrow_1).before #[Value.ref b] s = true
/-- the cells that are made behind the law's entry -/
def lA (s : State) : Nat → Prop := fun q => s.heap.size ≤ q
def lC (E : jE) (p : Program) (s : State) (m : MethodId) (meth : Method) (c : Code) (b L : Nat) (xs : Nat → Int32) : Prop := lw_At p s m meth c b L xs ∧ jWS E s ∧ (∀ q, jA E q → lA s q) ∧ L ≤ 3072
def lWP (E : jE) (p : Program) (e : Env) (s : State) (m : MethodId) (below : List Frame) (meth : Method) (c : Code) (b pc : Nat) (lv : List (Option Value)) (st : List Value) (H : jH) : Prop :=
  ∀ (heap : Heap) (locs : List Loc) (ls : Array Slot), jWH E H heap → va_S (lA s) s.heap heap locs → jHas ls 4 lv → W p E.1 e room_1 s m #[Value.ref b] below meth c heap locs 600000 7302249 (lw_Z below #[Value.ref b] s) (F0 m pc ls st)
def lFit (me' : jM) : Bool := Nat.ble (me'.2.2.2.2.1 + 1) 14 && Nat.ble (8 + (me'.2.2.1 + 11) + me'.2.2.2.2.2) 530
theorem lFit_of {me' : jM} (h : lFit me' = true) : (jRoom me').frames + 1 ≤ room_1.frames ∧ 8 + (me'.2.2.1 + 11) + (jRoom me').locals ≤ room_1.locals := by
  unfold lFit at h
  rw [Bool.and_eq_true] at h
  exact ⟨Nat.le_of_ble_eq_true h.1, Nat.le_of_ble_eq_true h.2⟩
theorem jIn {w : Cond} (h : w ∈ jW) : w ∈ lw_tbl := (List.mem_filter.mp h).1
theorem lGood {me' : jM} (h : Cond.code me'.1 me'.2.1 me'.2.2.1 me'.2.2.2.1 ∈ jW) : GoodIn lw_tbl (jWd me') := by
  intro w hw
  have h1 : w ∈ jW := by
    rcases List.mem_cons.mp hw with rfl | q
    · exact h
    · exact q
  exact ⟨jIn h1, good_of_word (List.mem_filter.mp h1).2⟩
/-- the script's z-th int -/
def xv (xs : Nat → Int32) (z : Int) : Int := (xs z.toNat).toInt
theorem xv_r (xs : Nat → Int32) (z : Int) : -2147483648 ≤ xv xs z ∧ xv xs z ≤ 2147483647 := jI_rng _
section LROWS
variable {E : jE} {p : Program} {e : Env} {s : State} {m : MethodId} {below : List Frame} {meth : Method} {c : Code} {b L pc : Nat} {xs : Nat → Int32} {lv : List (Option Value)} {st : List Value} {H : jH}
theorem l_aload (C : lC E p s m meth c b L xs) (n : Nat) (hn : pc + 1 = n) {i : Fin 4} {v : Value} {x : Nat} (hx : v = .ref x) (hl : jGet lv i = some v) (hd : decode code pc = .ok (.aload_n i, 1)) (k : lWP E p e s m below meth c b n lv (v :: st) H) : lWP E p e s m below meth c b pc lv st H := by
  subst hn
  subst hx
  intro heap locs ls X V Y
  exact lv_aload_n C.1.1 C.1.2.1 hd rfl (Y.get hl) (k heap locs ls X V Y)
theorem l_iload (C : lC E p s m meth c b L xs) (n : Nat) (hn : pc + 1 = n) {i : Fin 4} {x : Int} (hl : jGet lv i = some (.int (jI x))) (hd : decode code pc = .ok (.iload_n i, 1)) (k : lWP E p e s m below meth c b n lv (.int (jI x) :: st) H) : lWP E p e s m below meth c b pc lv st H := by
  subst hn
  intro heap locs ls X V Y
  exact lv_iload_n C.1.1 C.1.2.1 hd rfl (Y.get hl) (k heap locs ls X V Y)
theorem l_iconst (C : lC E p s m meth c b L xs) (n : Nat) (hn : pc + 1 = n) {x : Int} (hd : decode code pc = .ok (.iconst x, 1)) (k : lWP E p e s m below meth c b n lv (.int (jI x) :: st) H) : lWP E p e s m below meth c b pc lv st H := by
  subst hn
  intro heap locs ls X V Y
  exact lv_iconst C.1.1 C.1.2.1 hd (v := jI x) rfl (k heap locs ls X V Y)
theorem l_bipush (C : lC E p s m meth c b L xs) (n : Nat) (hn : pc + 2 = n) {x : Int} (hv : (Int8.ofInt x).toInt32 = jI x) (hd : decode code pc = .ok (.bipush x, 2)) (k : lWP E p e s m below meth c b n lv (.int (jI x) :: st) H) : lWP E p e s m below meth c b pc lv st H := by
  subst hn
  intro heap locs ls X V Y
  exact lv_bipush C.1.1 C.1.2.1 hd hv (k heap locs ls X V Y)
theorem l_iadd (C : lC E p s m meth c b L xs) (n : Nat) (hn : pc + 1 = n) {x y : Int} (hd : decode code pc = .ok (.iadd, 1)) (k : lWP E p e s m below meth c b n lv (.int (jI (x + y)) :: st) H) : lWP E p e s m below meth c b pc lv (.int (jI y) :: .int (jI x) :: st) H := by
  subst hn
  intro heap locs ls X V Y
  refine lv_iadd C.1.1 C.1.2.1 hd ?_
  rw [jI_add]
  exact k heap locs ls X V Y
theorem l_isub (C : lC E p s m meth c b L xs) (n : Nat) (hn : pc + 1 = n) {x y : Int} (hd : decode code pc = .ok (.isub, 1)) (k : lWP E p e s m below meth c b n lv (.int (jI (x - y)) :: st) H) : lWP E p e s m below meth c b pc lv (.int (jI y) :: .int (jI x) :: st) H := by
  subst hn
  intro heap locs ls X V Y
  refine lv_isub C.1.1 C.1.2.1 hd ?_
  rw [jI_sub]
  exact k heap locs ls X V Y
theorem l_iand (C : lC E p s m meth c b L xs) (n : Nat) (hn : pc + 1 = n) {x y : Int} (hd : decode code pc = .ok (.iand, 1)) (k : ∀ w : Int, -2147483648 ≤ w ∧ w ≤ 2147483647 → lWP E p e s m below meth c b n lv (.int (jI w) :: st) H) : lWP E p e s m below meth c b pc lv (.int (jI y) :: .int (jI x) :: st) H := by
  subst hn
  intro heap locs ls X V Y
  refine lv_iand C.1.1 C.1.2.1 hd ?_
  rw [← jI_of (jI x &&& jI y)]
  exact k _ (jI_rng _) heap locs ls X V Y
theorem lNb (C : lC E p s m meth c b L xs) : ¬ lA s b := Nat.not_le.mpr C.1.2.2.2.2.2.2.2.1
theorem l_slen (C : lC E p s m meth c b L xs) (n : Nat) (hn : pc + 1 = n) (hd : decode code pc = .ok (.arraylength, 1)) (k : lWP E p e s m below meth c b n lv (.int (jI L) :: st) H) : lWP E p e s m below meth c b pc lv (.ref b :: st) H := by
  subst hn
  intro heap locs ls X V Y
  refine va_slen C.1.1 C.1.2.1 C.1.2.2.2.2.2.2.1 C.1.2.2.2.2.2.2.2.1 (lNb C) V hd ?_
  have e1 : Int32.ofNat L = jI L := by
    show Int32.ofNat L = Int32.ofInt L
    exact (Int32.ofInt_eq_ofNat).symm
  rw [e1]
  exact k heap locs ls X V Y
theorem l_sld (C : lC E p s m meth c b L xs) (n : Nat) (hn : pc + 1 = n) {z : Int} (h0 : 0 ≤ z ∧ z < L) (hd : decode code pc = .ok (.iaload, 1)) (k : lWP E p e s m below meth c b n lv (.int (jI (xv xs z)) :: st) H) : lWP E p e s m below meth c b pc lv (.int (jI z) :: .ref b :: st) H := by
  subst hn
  intro heap locs ls X V Y
  have hL := C.2.2.2
  refine va_sld C.1.1 C.1.2.1 C.1.2.2.2.2.2.2.1 C.1.2.2.2.2.2.2.2.1 (lNb C) V (jI_in (by omega) h0.1 h0.2) hd ?_
  have e1 : jI (xv xs z) = xs (jI z).toNatClampNeg := by
    rw [jI_cl h0.1 (by omega)]
    exact jI_of _
  rw [← e1]
  exact k heap locs ls X V Y
theorem l_gt (C : lC E p s m meth c b L xs) (t n : Nat) {off : Int} {x y : Int} (ht : (pc : Int) + off = (t : Int)) (hn : pc + 3 = n) (hd : decode code pc = .ok (.if_icmp .gt off, 3)) (hx : -2147483648 ≤ x ∧ x ≤ 2147483647) (hy : -2147483648 ≤ y ∧ y ≤ 2147483647) (kt : y < x → lWP E p e s m below meth c b t lv st H) (kf : x ≤ y → lWP E p e s m below meth c b n lv st H) : lWP E p e s m below meth c b pc lv (.int (jI y) :: .int (jI x) :: st) H := by
  subst hn
  intro heap locs ls X V Y
  refine lv_icmp_gt C.1.1 C.1.2.1 hd ht (fun h => kt ?_ heap locs ls X V Y) (fun h => kf ?_ heap locs ls X V Y) <;> rw [jI_lt hy hx] at h <;> omega
theorem l_eq (C : lC E p s m meth c b L xs) (t : Nat) {off : Int} {x : Int} (ht : (pc : Int) + off = (t : Int)) (hd : decode code pc = .ok (.if_icmp .eq off, 3)) (k : lWP E p e s m below meth c b t lv st H) : lWP E p e s m below meth c b pc (lv) (.int (jI x) :: .int (jI x) :: st) H := by
  intro heap locs ls X V Y
  exact lv_icmp_eq C.1.1 C.1.2.1 hd ht (fun h => k heap locs ls X V Y) (fun h => absurd rfl h)
theorem l_leq (C : lC E p s m meth c b L xs) (n t : Nat) (hn : pc + 1 = n) {off : Int} {x : Int} (ht : (n : Int) + off = (t : Int)) (hd : decode code pc = .ok (.lcmp, 1)) (hd2 : decode code n = .ok (.ifCond .eq off, 3)) (k : lWP E p e s m below meth c b t lv st H) : lWP E p e s m below meth c b pc (lv) (.long (jL x) :: .long (jL x) :: st) H := by
  subst hn
  intro heap locs ls X V Y
  refine W.lcmp C.1.1 C.1.2.1 hd ?_
  have e1 : lg_cmp (jL x) (jL x) = 0 := by
    unfold lg_cmp
    rw [if_neg (by rw [gt_iff_lt, Int64.lt_iff_toInt_lt]; omega), if_pos rfl]
  rw [e1]
  exact lv_if_eq C.1.1 C.1.2.1 hd2 ht (fun h => k heap locs ls X V Y) (fun h => absurd rfl h)
theorem l_tabIn (C : lC E p s m meth c b L xs) (t : Nat) {dflt lo hi : Int} {offs : Array Int} {len : Nat} {a off : Int} (hd : decode code pc = .ok (.tableswitch dflt lo hi offs, len)) (hr : -2147483648 ≤ a ∧ a ≤ 2147483647) (h1 : lo ≤ a ∧ a ≤ hi) (ho : offs[(a - lo).toNat]? = some off) (ht : (pc : Int) + off = (t : Int)) (k : lWP E p e s m below meth c b t lv st H) : lWP E p e s m below meth c b pc lv (.int (jI a) :: st) H := by
  intro heap locs ls X V Y
  exact lv_tableIn C.1.1 C.1.2.1 hd (by rw [jI_toInt hr]; omega) (by rw [jI_toInt hr]; omega) (by rw [jI_toInt hr]; exact ho) ht (k heap locs ls X V Y)
theorem l_tabOut (C : lC E p s m meth c b L xs) (t : Nat) {dflt lo hi : Int} {offs : Array Int} {len : Nat} {a : Int} (hd : decode code pc = .ok (.tableswitch dflt lo hi offs, len)) (hr : -2147483648 ≤ a ∧ a ≤ 2147483647) (h1 : a < lo ∨ hi < a) (ht : (pc : Int) + dflt = (t : Int)) (k : lWP E p e s m below meth c b t lv st H) : lWP E p e s m below meth c b pc lv (.int (jI a) :: st) H := by
  intro heap locs ls X V Y
  exact lv_tableOut C.1.1 C.1.2.1 hd (by rw [jI_toInt hr]; omega) ht (k heap locs ls X V Y)
theorem l_iinc (C : lC E p s m meth c b L xs) (n : Nat) (hn : pc + 3 = n) {i : Nat} {x y : Int} {lv' : List (Option Value)} (hl : jGet lv i = some (.int (jI x))) (hs : jSt lv i (.int (jI (x + y))) = lv') (hi : i < 4) (hc : jCk lv i = true) (hd : decode code pc = .ok (.iinc i y, 3)) (k : lWP E p e s m below meth c b n lv' st H) : lWP E p e s m below meth c b pc lv st H := by
  subst hn
  subst hs
  intro heap locs ls X V Y
  have hm := jAsc_mem lv 0 i _ hl
  rw [Nat.zero_add] at hm
  obtain ⟨k0, hk0⟩ := List.getElem?_of_mem hm
  exact lv_iinc (v := jI (x + y)) C.1.1 C.1.2.1 hd Y hk0 (by rw [← jI_add]; rfl) hi rfl (fun ls q => k heap locs ls X V (jHas.st hc q))
theorem l_goto (C : lC E p s m meth c b L xs) (t : Nat) {off : Int} (ht : (pc : Int) + off = (t : Int)) (hd : decode code pc = .ok (.goto off, 3)) (k : lWP E p e s m below meth c b t lv st H) : lWP E p e s m below meth c b pc lv st H := by
  intro heap locs ls X V Y
  exact lv_goto C.1.1 C.1.2.1 hd ht (k heap locs ls X V Y)
theorem l_ret (C : lC E p s m meth c b L xs) (hd : decode code pc = .ok (.ireturn, 1)) : lWP E p e s m below meth c b pc lv [.int (jI 1)] H := by
  intro heap locs ls X V Y
  refine va_forget (fun q hq => V.2.2 q hq) ?_
  exact lw_ret C.1.1 C.1.2.1 C.1.2.2.1 C.1.2.2.2.2.2.2.2.2.1 hd
theorem l_call (C : lC E p s m meth c b L xs) {me' : jM} {ix na k0 ci : Nat} {As st0 : List Value} {Q' : Option Value → jH → Prop} (hd : decode code pc = .ok (.invokevirtual ix, 3)) (hl : jLv RL ix me' na) (hf : lFit me' = true) (hc : jCat st = true) (hk : k0 < jK) (ho : j_shp k0 = .inr (.inr ci)) (hcl : (jCl[ci]?).map (fun q => q.1) = some me'.1.cls) (hna : As.length = na) (hst : st0 = As.reverse ++ jRF E k0 :: st) (hok : jOk E me' (jRF E k0 :: As) H Q') (k : ∀ r H', Q' r H' → lWP E p e s m below meth c b (pc + 3) lv (r.toList ++ st) H') : lWP E p e s m below meth c b pc lv st0 H := by
  intro heap locs ls X V Y
  obtain ⟨⟨hx, hb, hr, hml, hown, hts, hX, hbl, hlocks, hgv⟩, S, hA, hL⟩ := C
  have cw : CallB room_1 s #[Value.ref b] RL ix me'.1 me'.2.1 me'.2.2.1 me'.2.2.2.1 (jWd me') (jRoom me') 0 0 na := callB_of na hts (lGood hl.1.2.2.1) rfl rfl rfl (hts _ (jIn hl.1.2.1)) (hts _ (jIn hl.1.1)) hl.1.2.2.2 (lFit_of hf)
  obtain ⟨q, hq1, hq2⟩ := Option.map_eq_some_iff.mp hcl
  have he := jWs_get E H hk
  rw [jCell_o E H ho] at he
  have hrc := va_recv S.1 X.1 hq1 he
  rw [hq2] at hrc
  have V' : va_S (jA E) s.heap heap [] := ⟨V.1, fun q h1 _ => V.2.1 q h1 (Nat.not_le.mpr h1), fun _ h => by cases h⟩
  intro T hT Xs
  obtain ⟨v, st₀, t, T', L9, h0, X', hL9, e1, e2, ⟨⟨r, H', hv, hq, hw⟩, hz, hk9⟩, stp⟩ := (va_runV (As := As) (rest := st) (g := F0 m pc ls st0) (Ts := lw_tbl) (own := RL) (nL := 4) ⟨hx, hb, hml, hown, hts⟩ hok ⟨cw, hts _ (jIn hl.2.1), hts _ (jIn hl.2.2)⟩ ⟨jPc_blind E _ H, hrc, fun U hU hW => ⟨rfl, by rw [hU]; exact X, S.go (by rw [hU]; exact V') hW⟩⟩ rfl hna Y.1 hst (lv_room (Nat.le_of_ble_eq_true hc)) hd ⟨Nat.le_refl _, Nat.le_refl _⟩) T hT Xs
  cases hv
  rw [h0] at hz hk9
  obtain ⟨t2, a1, b1⟩ := k v H' hq T'.heap (locs ++ L9) ls (by rw [e1]; exact hw)
    ⟨Nat.le_trans V.1 (by rw [e1]; exact hz), fun q h1 h2 => by rw [e1, hk9 q (Nat.lt_of_lt_of_le h1 V.1) (fun z => h2 (hA q z))]; exact V.2.1 q h1 h2, fun q hq => by
      rcases List.mem_append.mp hq with h | h
      · exact V.2.2 q h
      · exact hA _ (hL9 q h)⟩ Y T' rfl X'
  exact ⟨t2, stp t2 a1, b1⟩
theorem l_calli (C : lC E p s m meth c b L xs) (n : Nat) (hn : pc + 3 = n) {me' : jM} {ix na k0 ci : Nat} (As : List Value) {st0 : List Value} {P : Int → jH → Prop} (hd : decode code pc = .ok (.invokevirtual ix, 3)) (hl : jLv RL ix me' na) (hf : lFit me' = true) (hc : jCat st = true) (hk : k0 < jK) (ho : j_shp k0 = .inr (.inr ci)) (hcl : (jCl[ci]?).map (fun q => q.1) = some me'.1.cls) (hna : As.length = na) (hst : st0 = As.reverse ++ jRF E k0 :: st) (hok : jOk E me' (jRF E k0 :: As) H (jQi P)) (k : ∀ r H', P r H' → lWP E p e s m below meth c b n lv (.int (jI r) :: st) H') : lWP E p e s m below meth c b pc lv st0 H := by
  subst hn
  exact l_call C hd hl hf hc hk ho hcl hna hst hok (fun r H' ⟨x, e, q⟩ => by subst e; exact k x H' q)
theorem l_calll (C : lC E p s m meth c b L xs) (n : Nat) (hn : pc + 3 = n) {me' : jM} {ix na k0 ci : Nat} (As : List Value) {st0 : List Value} {P : Int → jH → Prop} (hd : decode code pc = .ok (.invokevirtual ix, 3)) (hl : jLv RL ix me' na) (hf : lFit me' = true) (hc : jCat st = true) (hk : k0 < jK) (ho : j_shp k0 = .inr (.inr ci)) (hcl : (jCl[ci]?).map (fun q => q.1) = some me'.1.cls) (hna : As.length = na) (hst : st0 = As.reverse ++ jRF E k0 :: st) (hok : jOk E me' (jRF E k0 :: As) H (jQl P)) (k : ∀ r H', P r H' → lWP E p e s m below meth c b n lv (.long (jL r) :: st) H') : lWP E p e s m below meth c b pc lv st0 H := by
  subst hn
  exact l_call C hd hl hf hc hk ho hcl hna hst hok (fun r H' ⟨x, e, q⟩ => by subst e; exact k x H' q)
end LROWS
theorem tl_223 : Cond.methodLink RL 13 yX4_type ∈ jW := jW_of (List.mem_append_right _ (List.mem_of_getElem? (l := tables_1) (i := 223) (by decide +kernel))) rfl
theorem tl_226 : Cond.code yX4_type cX4_type 2 (some .int) ∈ jW := jW_of (List.mem_append_right _ (List.mem_of_getElem? (l := tables_1) (i := 226) (by decide +kernel))) rfl
theorem tl_224 : Cond.instanceMethod yX4_type ∈ jW := jW_of (List.mem_append_right _ (List.mem_of_getElem? (l := tables_1) (i := 224) (by decide +kernel))) rfl
theorem tl_225 : Cond.selects RX4 yX4_type yX4_type ∈ jW := jW_of (List.mem_append_right _ (List.mem_of_getElem? (l := tables_1) (i := 225) (by decide +kernel))) rfl
theorem lk_L_13 : jLv RL 13 mX4_type 1 := ⟨⟨tl_223, tw_1, tl_226, by decide +kernel⟩, tl_224, tl_225⟩
theorem tl_804 : Cond.methodLink RL 17 yX5_type ∈ jW := jW_of (List.mem_append_right _ (List.mem_of_getElem? (l := tables_1) (i := 804) (by decide +kernel))) rfl
theorem tl_807 : Cond.code yX5_type cX5_type 2 (some .int) ∈ jW := jW_of (List.mem_append_right _ (List.mem_of_getElem? (l := tables_1) (i := 807) (by decide +kernel))) rfl
theorem tl_805 : Cond.instanceMethod yX5_type ∈ jW := jW_of (List.mem_append_right _ (List.mem_of_getElem? (l := tables_1) (i := 805) (by decide +kernel))) rfl
theorem tl_806 : Cond.selects RX5 yX5_type yX5_type ∈ jW := jW_of (List.mem_append_right _ (List.mem_of_getElem? (l := tables_1) (i := 806) (by decide +kernel))) rfl
theorem lk_L_17 : jLv RL 17 mX5_type 1 := ⟨⟨tl_804, tw_6, tl_807, by decide +kernel⟩, tl_805, tl_806⟩
set_option maxRecDepth 20000 in
theorem lc_0 {E : jE} {p : Program} {e : Env} {s : State} {m : MethodId} {below : List Frame} {meth : Method} {c : Code} {b L : Nat} {xs : Nat → Int32} {H : jH} {i : Int} (C : lC E p s m meth c b L xs) (h0 : 0 ≤ i) (hi : i + 6 ≤ L) (hr : REL H) (next : ∀ H2, REL H2 → lWP E p e s m below meth c b 1272 [some (.ref b), some (jRF E 0), some (jRF E 56), some (.int (jI i))] [] H2) : lWP E p e s m below meth c b 192 [some (.ref b), some (jRF E 0), some (jRF E 56), some (.int (jI i))] [] H := by
  refine l_aload C 193 rfl rfl rfl dL_law_192 ?_
  refine l_aload C 194 rfl rfl rfl dL_law_193 ?_
  refine l_iload C 195 rfl rfl dL_law_194 ?_
  refine l_iconst C 196 rfl dL_law_195 ?_
  refine l_iadd C 197 rfl dL_law_196 ?_
  refine l_sld C 198 rfl (by omega) dL_law_197 ?_
  refine l_calli C (k0 := 0) (ci := 4) 201 rfl [.int (jI (xv xs (i + 1)))] dL_law_198 lk_L_13 rfl rfl (by decide) rfl rfl rfl rfl (q_type (xv_r xs _) hr) (fun r H1 h1 => ?_)
  refine l_aload C 202 rfl rfl rfl dL_law_201 ?_
  refine l_aload C 203 rfl rfl rfl dL_law_202 ?_
  refine l_iload C 204 rfl rfl dL_law_203 ?_
  refine l_iconst C 205 rfl dL_law_204 ?_
  refine l_iadd C 206 rfl dL_law_205 ?_
  refine l_sld C 207 rfl (by omega) dL_law_206 ?_
  refine l_calli C (k0 := 56) (ci := 5) 210 rfl [.int (jI (xv xs (i + 1)))] dL_law_207 lk_L_17 rfl rfl (by decide) rfl rfl rfl rfl h1 (fun r2 H2 h2 => ?_)
  obtain ⟨rfl, h3⟩ := h2
  exact l_eq C 1272 rfl dL_law_210 (next H2 h3)
theorem tl_330 : Cond.methodLink RL 18 yX4_wipe ∈ jW := jW_of (List.mem_append_right _ (List.mem_of_getElem? (l := tables_1) (i := 330) (by decide +kernel))) rfl
theorem tl_333 : Cond.code yX4_wipe cX4_wipe 2 (some .int) ∈ jW := jW_of (List.mem_append_right _ (List.mem_of_getElem? (l := tables_1) (i := 333) (by decide +kernel))) rfl
theorem tl_331 : Cond.instanceMethod yX4_wipe ∈ jW := jW_of (List.mem_append_right _ (List.mem_of_getElem? (l := tables_1) (i := 331) (by decide +kernel))) rfl
theorem tl_332 : Cond.selects RX4 yX4_wipe yX4_wipe ∈ jW := jW_of (List.mem_append_right _ (List.mem_of_getElem? (l := tables_1) (i := 332) (by decide +kernel))) rfl
theorem lk_L_18 : jLv RL 18 mX4_wipe 0 := ⟨⟨tl_330, tw_1, tl_333, by decide +kernel⟩, tl_331, tl_332⟩
theorem tl_809 : Cond.methodLink RL 22 yX5_wipe ∈ jW := jW_of (List.mem_append_right _ (List.mem_of_getElem? (l := tables_1) (i := 809) (by decide +kernel))) rfl
theorem tl_812 : Cond.code yX5_wipe cX5_wipe 2 (some .int) ∈ jW := jW_of (List.mem_append_right _ (List.mem_of_getElem? (l := tables_1) (i := 812) (by decide +kernel))) rfl
theorem tl_810 : Cond.instanceMethod yX5_wipe ∈ jW := jW_of (List.mem_append_right _ (List.mem_of_getElem? (l := tables_1) (i := 810) (by decide +kernel))) rfl
theorem tl_811 : Cond.selects RX5 yX5_wipe yX5_wipe ∈ jW := jW_of (List.mem_append_right _ (List.mem_of_getElem? (l := tables_1) (i := 811) (by decide +kernel))) rfl
theorem lk_L_22 : jLv RL 22 mX5_wipe 0 := ⟨⟨tl_809, tw_6, tl_812, by decide +kernel⟩, tl_810, tl_811⟩
set_option maxRecDepth 20000 in
theorem lc_1 {E : jE} {p : Program} {e : Env} {s : State} {m : MethodId} {below : List Frame} {meth : Method} {c : Code} {b L : Nat} {xs : Nat → Int32} {H : jH} {i : Int} (C : lC E p s m meth c b L xs) (h0 : 0 ≤ i) (hi : i + 6 ≤ L) (hr : REL H) (next : ∀ H2, REL H2 → lWP E p e s m below meth c b 1272 [some (.ref b), some (jRF E 0), some (jRF E 56), some (.int (jI i))] [] H2) : lWP E p e s m below meth c b 215 [some (.ref b), some (jRF E 0), some (jRF E 56), some (.int (jI i))] [] H := by
  refine l_aload C 216 rfl rfl rfl dL_law_215 ?_
  refine l_calli C (k0 := 0) (ci := 4) 219 rfl [] dL_law_216 lk_L_18 rfl rfl (by decide) rfl rfl rfl rfl (q_wipe  hr) (fun r H1 h1 => ?_)
  refine l_aload C 220 rfl rfl rfl dL_law_219 ?_
  refine l_calli C (k0 := 56) (ci := 5) 223 rfl [] dL_law_220 lk_L_22 rfl rfl (by decide) rfl rfl rfl rfl h1 (fun r2 H2 h2 => ?_)
  obtain ⟨rfl, h3⟩ := h2
  exact l_eq C 1272 rfl dL_law_223 (next H2 h3)
theorem tl_334 : Cond.methodLink RL 23 yX4_undo ∈ jW := jW_of (List.mem_append_right _ (List.mem_of_getElem? (l := tables_1) (i := 334) (by decide +kernel))) rfl
theorem tl_337 : Cond.code yX4_undo cX4_undo 1 (some .int) ∈ jW := jW_of (List.mem_append_right _ (List.mem_of_getElem? (l := tables_1) (i := 337) (by decide +kernel))) rfl
theorem tl_335 : Cond.instanceMethod yX4_undo ∈ jW := jW_of (List.mem_append_right _ (List.mem_of_getElem? (l := tables_1) (i := 335) (by decide +kernel))) rfl
theorem tl_336 : Cond.selects RX4 yX4_undo yX4_undo ∈ jW := jW_of (List.mem_append_right _ (List.mem_of_getElem? (l := tables_1) (i := 336) (by decide +kernel))) rfl
theorem lk_L_23 : jLv RL 23 mX4_undo 0 := ⟨⟨tl_334, tw_1, tl_337, by decide +kernel⟩, tl_335, tl_336⟩
theorem tl_813 : Cond.methodLink RL 26 yX5_undo ∈ jW := jW_of (List.mem_append_right _ (List.mem_of_getElem? (l := tables_1) (i := 813) (by decide +kernel))) rfl
theorem tl_816 : Cond.code yX5_undo cX5_undo 1 (some .int) ∈ jW := jW_of (List.mem_append_right _ (List.mem_of_getElem? (l := tables_1) (i := 816) (by decide +kernel))) rfl
theorem tl_814 : Cond.instanceMethod yX5_undo ∈ jW := jW_of (List.mem_append_right _ (List.mem_of_getElem? (l := tables_1) (i := 814) (by decide +kernel))) rfl
theorem tl_815 : Cond.selects RX5 yX5_undo yX5_undo ∈ jW := jW_of (List.mem_append_right _ (List.mem_of_getElem? (l := tables_1) (i := 815) (by decide +kernel))) rfl
theorem lk_L_26 : jLv RL 26 mX5_undo 0 := ⟨⟨tl_813, tw_6, tl_816, by decide +kernel⟩, tl_814, tl_815⟩
set_option maxRecDepth 20000 in
theorem lc_2 {E : jE} {p : Program} {e : Env} {s : State} {m : MethodId} {below : List Frame} {meth : Method} {c : Code} {b L : Nat} {xs : Nat → Int32} {H : jH} {i : Int} (C : lC E p s m meth c b L xs) (h0 : 0 ≤ i) (hi : i + 6 ≤ L) (hr : REL H) (next : ∀ H2, REL H2 → lWP E p e s m below meth c b 1272 [some (.ref b), some (jRF E 0), some (jRF E 56), some (.int (jI i))] [] H2) : lWP E p e s m below meth c b 228 [some (.ref b), some (jRF E 0), some (jRF E 56), some (.int (jI i))] [] H := by
  refine l_aload C 229 rfl rfl rfl dL_law_228 ?_
  refine l_calli C (k0 := 0) (ci := 4) 232 rfl [] dL_law_229 lk_L_23 rfl rfl (by decide) rfl rfl rfl rfl (q_undo  hr) (fun r H1 h1 => ?_)
  refine l_aload C 233 rfl rfl rfl dL_law_232 ?_
  refine l_calli C (k0 := 56) (ci := 5) 236 rfl [] dL_law_233 lk_L_26 rfl rfl (by decide) rfl rfl rfl rfl h1 (fun r2 H2 h2 => ?_)
  obtain ⟨rfl, h3⟩ := h2
  exact l_eq C 1272 rfl dL_law_236 (next H2 h3)
theorem tl_338 : Cond.methodLink RL 27 yX4_fault ∈ jW := jW_of (List.mem_append_right _ (List.mem_of_getElem? (l := tables_1) (i := 338) (by decide +kernel))) rfl
theorem lk_L_27 : jLv RL 27 mX4_fault 0 := ⟨⟨tl_338, tw_1, tw_341, by decide +kernel⟩, tw_339, tw_340⟩
theorem tl_817 : Cond.methodLink RL 30 yX5_fault ∈ jW := jW_of (List.mem_append_right _ (List.mem_of_getElem? (l := tables_1) (i := 817) (by decide +kernel))) rfl
theorem tl_820 : Cond.code yX5_fault cX5_fault 1 (some .int) ∈ jW := jW_of (List.mem_append_right _ (List.mem_of_getElem? (l := tables_1) (i := 820) (by decide +kernel))) rfl
theorem tl_818 : Cond.instanceMethod yX5_fault ∈ jW := jW_of (List.mem_append_right _ (List.mem_of_getElem? (l := tables_1) (i := 818) (by decide +kernel))) rfl
theorem tl_819 : Cond.selects RX5 yX5_fault yX5_fault ∈ jW := jW_of (List.mem_append_right _ (List.mem_of_getElem? (l := tables_1) (i := 819) (by decide +kernel))) rfl
theorem lk_L_30 : jLv RL 30 mX5_fault 0 := ⟨⟨tl_817, tw_6, tl_820, by decide +kernel⟩, tl_818, tl_819⟩
set_option maxRecDepth 20000 in
theorem lc_3 {E : jE} {p : Program} {e : Env} {s : State} {m : MethodId} {below : List Frame} {meth : Method} {c : Code} {b L : Nat} {xs : Nat → Int32} {H : jH} {i : Int} (C : lC E p s m meth c b L xs) (h0 : 0 ≤ i) (hi : i + 6 ≤ L) (hr : REL H) (next : ∀ H2, REL H2 → lWP E p e s m below meth c b 1272 [some (.ref b), some (jRF E 0), some (jRF E 56), some (.int (jI i))] [] H2) : lWP E p e s m below meth c b 241 [some (.ref b), some (jRF E 0), some (jRF E 56), some (.int (jI i))] [] H := by
  refine l_aload C 242 rfl rfl rfl dL_law_241 ?_
  refine l_calli C (k0 := 0) (ci := 4) 245 rfl [] dL_law_242 lk_L_27 rfl rfl (by decide) rfl rfl rfl rfl (q_fault  hr) (fun r H1 h1 => ?_)
  refine l_aload C 246 rfl rfl rfl dL_law_245 ?_
  refine l_calli C (k0 := 56) (ci := 5) 249 rfl [] dL_law_246 lk_L_30 rfl rfl (by decide) rfl rfl rfl rfl h1 (fun r2 H2 h2 => ?_)
  obtain ⟨rfl, h3⟩ := h2
  exact l_eq C 1272 rfl dL_law_249 (next H2 h3)
theorem tl_342 : Cond.methodLink RL 31 yX4_box ∈ jW := jW_of (List.mem_append_right _ (List.mem_of_getElem? (l := tables_1) (i := 342) (by decide +kernel))) rfl
theorem lk_L_31 : jLv RL 31 mX4_box 2 := ⟨⟨tl_342, tw_1, tw_345, by decide +kernel⟩, tw_343, tw_344⟩
theorem tl_834 : Cond.methodLink RL 35 yX5_box ∈ jW := jW_of (List.mem_append_right _ (List.mem_of_getElem? (l := tables_1) (i := 834) (by decide +kernel))) rfl
theorem tl_837 : Cond.code yX5_box cX5_box 3 (some .int) ∈ jW := jW_of (List.mem_append_right _ (List.mem_of_getElem? (l := tables_1) (i := 837) (by decide +kernel))) rfl
theorem tl_835 : Cond.instanceMethod yX5_box ∈ jW := jW_of (List.mem_append_right _ (List.mem_of_getElem? (l := tables_1) (i := 835) (by decide +kernel))) rfl
theorem tl_836 : Cond.selects RX5 yX5_box yX5_box ∈ jW := jW_of (List.mem_append_right _ (List.mem_of_getElem? (l := tables_1) (i := 836) (by decide +kernel))) rfl
theorem lk_L_35 : jLv RL 35 mX5_box 2 := ⟨⟨tl_834, tw_6, tl_837, by decide +kernel⟩, tl_835, tl_836⟩
set_option maxRecDepth 20000 in
theorem lc_4 {E : jE} {p : Program} {e : Env} {s : State} {m : MethodId} {below : List Frame} {meth : Method} {c : Code} {b L : Nat} {xs : Nat → Int32} {H : jH} {i : Int} (C : lC E p s m meth c b L xs) (h0 : 0 ≤ i) (hi : i + 6 ≤ L) (hr : REL H) (next : ∀ H2, REL H2 → lWP E p e s m below meth c b 1272 [some (.ref b), some (jRF E 0), some (jRF E 56), some (.int (jI i))] [] H2) : lWP E p e s m below meth c b 254 [some (.ref b), some (jRF E 0), some (jRF E 56), some (.int (jI i))] [] H := by
  refine l_aload C 255 rfl rfl rfl dL_law_254 ?_
  refine l_aload C 256 rfl rfl rfl dL_law_255 ?_
  refine l_iload C 257 rfl rfl dL_law_256 ?_
  refine l_iconst C 258 rfl dL_law_257 ?_
  refine l_iadd C 259 rfl dL_law_258 ?_
  refine l_sld C 260 rfl (by omega) dL_law_259 ?_
  refine l_aload C 261 rfl rfl rfl dL_law_260 ?_
  refine l_iload C 262 rfl rfl dL_law_261 ?_
  refine l_iconst C 263 rfl dL_law_262 ?_
  refine l_iadd C 264 rfl dL_law_263 ?_
  refine l_sld C 265 rfl (by omega) dL_law_264 ?_
  refine l_calli C (k0 := 0) (ci := 4) 268 rfl [.int (jI (xv xs (i + 1))), .int (jI (xv xs (i + 2)))] dL_law_265 lk_L_31 rfl rfl (by decide) rfl rfl rfl rfl (q_box (xv_r xs _) (xv_r xs _) hr) (fun r H1 h1 => ?_)
  refine l_aload C 269 rfl rfl rfl dL_law_268 ?_
  refine l_aload C 270 rfl rfl rfl dL_law_269 ?_
  refine l_iload C 271 rfl rfl dL_law_270 ?_
  refine l_iconst C 272 rfl dL_law_271 ?_
  refine l_iadd C 273 rfl dL_law_272 ?_
  refine l_sld C 274 rfl (by omega) dL_law_273 ?_
  refine l_aload C 275 rfl rfl rfl dL_law_274 ?_
  refine l_iload C 276 rfl rfl dL_law_275 ?_
  refine l_iconst C 277 rfl dL_law_276 ?_
  refine l_iadd C 278 rfl dL_law_277 ?_
  refine l_sld C 279 rfl (by omega) dL_law_278 ?_
  refine l_calli C (k0 := 56) (ci := 5) 282 rfl [.int (jI (xv xs (i + 1))), .int (jI (xv xs (i + 2)))] dL_law_279 lk_L_35 rfl rfl (by decide) rfl rfl rfl rfl h1 (fun r2 H2 h2 => ?_)
  obtain ⟨rfl, h3⟩ := h2
  exact l_eq C 1272 rfl dL_law_282 (next H2 h3)
theorem tl_350 : Cond.methodLink RL 36 yX4_place ∈ jW := jW_of (List.mem_append_right _ (List.mem_of_getElem? (l := tables_1) (i := 350) (by decide +kernel))) rfl
theorem lk_L_36 : jLv RL 36 mX4_place 1 := ⟨⟨tl_350, tw_1, tw_353, by decide +kernel⟩, tw_351, tw_352⟩
theorem tl_842 : Cond.methodLink RL 39 yX5_place ∈ jW := jW_of (List.mem_append_right _ (List.mem_of_getElem? (l := tables_1) (i := 842) (by decide +kernel))) rfl
theorem tl_845 : Cond.code yX5_place cX5_place 2 (some .int) ∈ jW := jW_of (List.mem_append_right _ (List.mem_of_getElem? (l := tables_1) (i := 845) (by decide +kernel))) rfl
theorem tl_843 : Cond.instanceMethod yX5_place ∈ jW := jW_of (List.mem_append_right _ (List.mem_of_getElem? (l := tables_1) (i := 843) (by decide +kernel))) rfl
theorem tl_844 : Cond.selects RX5 yX5_place yX5_place ∈ jW := jW_of (List.mem_append_right _ (List.mem_of_getElem? (l := tables_1) (i := 844) (by decide +kernel))) rfl
theorem lk_L_39 : jLv RL 39 mX5_place 1 := ⟨⟨tl_842, tw_6, tl_845, by decide +kernel⟩, tl_843, tl_844⟩
set_option maxRecDepth 20000 in
theorem lc_5 {E : jE} {p : Program} {e : Env} {s : State} {m : MethodId} {below : List Frame} {meth : Method} {c : Code} {b L : Nat} {xs : Nat → Int32} {H : jH} {i : Int} (C : lC E p s m meth c b L xs) (h0 : 0 ≤ i) (hi : i + 6 ≤ L) (hr : REL H) (next : ∀ H2, REL H2 → lWP E p e s m below meth c b 1272 [some (.ref b), some (jRF E 0), some (jRF E 56), some (.int (jI i))] [] H2) : lWP E p e s m below meth c b 287 [some (.ref b), some (jRF E 0), some (jRF E 56), some (.int (jI i))] [] H := by
  refine l_aload C 288 rfl rfl rfl dL_law_287 ?_
  refine l_aload C 289 rfl rfl rfl dL_law_288 ?_
  refine l_iload C 290 rfl rfl dL_law_289 ?_
  refine l_iconst C 291 rfl dL_law_290 ?_
  refine l_iadd C 292 rfl dL_law_291 ?_
  refine l_sld C 293 rfl (by omega) dL_law_292 ?_
  refine l_calli C (k0 := 0) (ci := 4) 296 rfl [.int (jI (xv xs (i + 1)))] dL_law_293 lk_L_36 rfl rfl (by decide) rfl rfl rfl rfl (q_place (xv_r xs _) hr) (fun r H1 h1 => ?_)
  refine l_aload C 297 rfl rfl rfl dL_law_296 ?_
  refine l_aload C 298 rfl rfl rfl dL_law_297 ?_
  refine l_iload C 299 rfl rfl dL_law_298 ?_
  refine l_iconst C 300 rfl dL_law_299 ?_
  refine l_iadd C 301 rfl dL_law_300 ?_
  refine l_sld C 302 rfl (by omega) dL_law_301 ?_
  refine l_calli C (k0 := 56) (ci := 5) 305 rfl [.int (jI (xv xs (i + 1)))] dL_law_302 lk_L_39 rfl rfl (by decide) rfl rfl rfl rfl h1 (fun r2 H2 h2 => ?_)
  obtain ⟨rfl, h3⟩ := h2
  exact l_eq C 1272 rfl dL_law_305 (next H2 h3)
theorem tl_357 : Cond.methodLink RL 40 yX4_swap ∈ jW := jW_of (List.mem_append_right _ (List.mem_of_getElem? (l := tables_1) (i := 357) (by decide +kernel))) rfl
theorem tl_360 : Cond.code yX4_swap cX4_swap 3 (some .int) ∈ jW := jW_of (List.mem_append_right _ (List.mem_of_getElem? (l := tables_1) (i := 360) (by decide +kernel))) rfl
theorem tl_358 : Cond.instanceMethod yX4_swap ∈ jW := jW_of (List.mem_append_right _ (List.mem_of_getElem? (l := tables_1) (i := 358) (by decide +kernel))) rfl
theorem tl_359 : Cond.selects RX4 yX4_swap yX4_swap ∈ jW := jW_of (List.mem_append_right _ (List.mem_of_getElem? (l := tables_1) (i := 359) (by decide +kernel))) rfl
theorem lk_L_40 : jLv RL 40 mX4_swap 2 := ⟨⟨tl_357, tw_1, tl_360, by decide +kernel⟩, tl_358, tl_359⟩
theorem tl_850 : Cond.methodLink RL 43 yX5_swap ∈ jW := jW_of (List.mem_append_right _ (List.mem_of_getElem? (l := tables_1) (i := 850) (by decide +kernel))) rfl
theorem tl_853 : Cond.code yX5_swap cX5_swap 4 (some .int) ∈ jW := jW_of (List.mem_append_right _ (List.mem_of_getElem? (l := tables_1) (i := 853) (by decide +kernel))) rfl
theorem tl_851 : Cond.instanceMethod yX5_swap ∈ jW := jW_of (List.mem_append_right _ (List.mem_of_getElem? (l := tables_1) (i := 851) (by decide +kernel))) rfl
theorem tl_852 : Cond.selects RX5 yX5_swap yX5_swap ∈ jW := jW_of (List.mem_append_right _ (List.mem_of_getElem? (l := tables_1) (i := 852) (by decide +kernel))) rfl
theorem lk_L_43 : jLv RL 43 mX5_swap 2 := ⟨⟨tl_850, tw_6, tl_853, by decide +kernel⟩, tl_851, tl_852⟩
set_option maxRecDepth 20000 in
theorem lc_6 {E : jE} {p : Program} {e : Env} {s : State} {m : MethodId} {below : List Frame} {meth : Method} {c : Code} {b L : Nat} {xs : Nat → Int32} {H : jH} {i : Int} (C : lC E p s m meth c b L xs) (h0 : 0 ≤ i) (hi : i + 6 ≤ L) (hr : REL H) (next : ∀ H2, REL H2 → lWP E p e s m below meth c b 1272 [some (.ref b), some (jRF E 0), some (jRF E 56), some (.int (jI i))] [] H2) : lWP E p e s m below meth c b 310 [some (.ref b), some (jRF E 0), some (jRF E 56), some (.int (jI i))] [] H := by
  refine l_aload C 311 rfl rfl rfl dL_law_310 ?_
  refine l_aload C 312 rfl rfl rfl dL_law_311 ?_
  refine l_iload C 313 rfl rfl dL_law_312 ?_
  refine l_iconst C 314 rfl dL_law_313 ?_
  refine l_iadd C 315 rfl dL_law_314 ?_
  refine l_sld C 316 rfl (by omega) dL_law_315 ?_
  refine l_aload C 317 rfl rfl rfl dL_law_316 ?_
  refine l_iload C 318 rfl rfl dL_law_317 ?_
  refine l_iconst C 319 rfl dL_law_318 ?_
  refine l_iadd C 320 rfl dL_law_319 ?_
  refine l_sld C 321 rfl (by omega) dL_law_320 ?_
  refine l_calli C (k0 := 0) (ci := 4) 324 rfl [.int (jI (xv xs (i + 1))), .int (jI (xv xs (i + 2)))] dL_law_321 lk_L_40 rfl rfl (by decide) rfl rfl rfl rfl (q_swap (xv_r xs _) (xv_r xs _) hr) (fun r H1 h1 => ?_)
  refine l_aload C 325 rfl rfl rfl dL_law_324 ?_
  refine l_aload C 326 rfl rfl rfl dL_law_325 ?_
  refine l_iload C 327 rfl rfl dL_law_326 ?_
  refine l_iconst C 328 rfl dL_law_327 ?_
  refine l_iadd C 329 rfl dL_law_328 ?_
  refine l_sld C 330 rfl (by omega) dL_law_329 ?_
  refine l_aload C 331 rfl rfl rfl dL_law_330 ?_
  refine l_iload C 332 rfl rfl dL_law_331 ?_
  refine l_iconst C 333 rfl dL_law_332 ?_
  refine l_iadd C 334 rfl dL_law_333 ?_
  refine l_sld C 335 rfl (by omega) dL_law_334 ?_
  refine l_calli C (k0 := 56) (ci := 5) 338 rfl [.int (jI (xv xs (i + 1))), .int (jI (xv xs (i + 2)))] dL_law_335 lk_L_43 rfl rfl (by decide) rfl rfl rfl rfl h1 (fun r2 H2 h2 => ?_)
  obtain ⟨rfl, h3⟩ := h2
  exact l_eq C 1272 rfl dL_law_338 (next H2 h3)
theorem tl_364 : Cond.methodLink RL 44 yX4_lids ∈ jW := jW_of (List.mem_append_right _ (List.mem_of_getElem? (l := tables_1) (i := 364) (by decide +kernel))) rfl
theorem tl_367 : Cond.code yX4_lids cX4_lids 3 (some .int) ∈ jW := jW_of (List.mem_append_right _ (List.mem_of_getElem? (l := tables_1) (i := 367) (by decide +kernel))) rfl
theorem tl_365 : Cond.instanceMethod yX4_lids ∈ jW := jW_of (List.mem_append_right _ (List.mem_of_getElem? (l := tables_1) (i := 365) (by decide +kernel))) rfl
theorem tl_366 : Cond.selects RX4 yX4_lids yX4_lids ∈ jW := jW_of (List.mem_append_right _ (List.mem_of_getElem? (l := tables_1) (i := 366) (by decide +kernel))) rfl
theorem lk_L_44 : jLv RL 44 mX4_lids 1 := ⟨⟨tl_364, tw_1, tl_367, by decide +kernel⟩, tl_365, tl_366⟩
theorem tl_854 : Cond.methodLink RL 47 yX5_lids ∈ jW := jW_of (List.mem_append_right _ (List.mem_of_getElem? (l := tables_1) (i := 854) (by decide +kernel))) rfl
theorem tl_857 : Cond.code yX5_lids cX5_lids 3 (some .int) ∈ jW := jW_of (List.mem_append_right _ (List.mem_of_getElem? (l := tables_1) (i := 857) (by decide +kernel))) rfl
theorem tl_855 : Cond.instanceMethod yX5_lids ∈ jW := jW_of (List.mem_append_right _ (List.mem_of_getElem? (l := tables_1) (i := 855) (by decide +kernel))) rfl
theorem tl_856 : Cond.selects RX5 yX5_lids yX5_lids ∈ jW := jW_of (List.mem_append_right _ (List.mem_of_getElem? (l := tables_1) (i := 856) (by decide +kernel))) rfl
theorem lk_L_47 : jLv RL 47 mX5_lids 1 := ⟨⟨tl_854, tw_6, tl_857, by decide +kernel⟩, tl_855, tl_856⟩
set_option maxRecDepth 20000 in
theorem lc_7 {E : jE} {p : Program} {e : Env} {s : State} {m : MethodId} {below : List Frame} {meth : Method} {c : Code} {b L : Nat} {xs : Nat → Int32} {H : jH} {i : Int} (C : lC E p s m meth c b L xs) (h0 : 0 ≤ i) (hi : i + 6 ≤ L) (hr : REL H) (next : ∀ H2, REL H2 → lWP E p e s m below meth c b 1272 [some (.ref b), some (jRF E 0), some (jRF E 56), some (.int (jI i))] [] H2) : lWP E p e s m below meth c b 343 [some (.ref b), some (jRF E 0), some (jRF E 56), some (.int (jI i))] [] H := by
  refine l_aload C 344 rfl rfl rfl dL_law_343 ?_
  refine l_aload C 345 rfl rfl rfl dL_law_344 ?_
  refine l_iload C 346 rfl rfl dL_law_345 ?_
  refine l_iconst C 347 rfl dL_law_346 ?_
  refine l_iadd C 348 rfl dL_law_347 ?_
  refine l_sld C 349 rfl (by omega) dL_law_348 ?_
  refine l_calli C (k0 := 0) (ci := 4) 352 rfl [.int (jI (xv xs (i + 1)))] dL_law_349 lk_L_44 rfl rfl (by decide) rfl rfl rfl rfl (q_lids (xv_r xs _) hr) (fun r H1 h1 => ?_)
  refine l_aload C 353 rfl rfl rfl dL_law_352 ?_
  refine l_aload C 354 rfl rfl rfl dL_law_353 ?_
  refine l_iload C 355 rfl rfl dL_law_354 ?_
  refine l_iconst C 356 rfl dL_law_355 ?_
  refine l_iadd C 357 rfl dL_law_356 ?_
  refine l_sld C 358 rfl (by omega) dL_law_357 ?_
  refine l_calli C (k0 := 56) (ci := 5) 361 rfl [.int (jI (xv xs (i + 1)))] dL_law_358 lk_L_47 rfl rfl (by decide) rfl rfl rfl rfl h1 (fun r2 H2 h2 => ?_)
  obtain ⟨rfl, h3⟩ := h2
  exact l_eq C 1272 rfl dL_law_361 (next H2 h3)
theorem tl_368 : Cond.methodLink RL 48 yX4_tell ∈ jW := jW_of (List.mem_append_right _ (List.mem_of_getElem? (l := tables_1) (i := 368) (by decide +kernel))) rfl
theorem lk_L_48 : jLv RL 48 mX4_tell 3 := ⟨⟨tl_368, tw_1, tw_371, by decide +kernel⟩, tw_369, tw_370⟩
theorem tl_859 : Cond.methodLink RL 52 yX5_tell ∈ jW := jW_of (List.mem_append_right _ (List.mem_of_getElem? (l := tables_1) (i := 859) (by decide +kernel))) rfl
theorem lk_L_52 : jLv RL 52 mX5_tell 3 := ⟨⟨tl_859, tw_6, tw_862, by decide +kernel⟩, tw_860, tw_861⟩
set_option maxRecDepth 20000 in
theorem lc_8 {E : jE} {p : Program} {e : Env} {s : State} {m : MethodId} {below : List Frame} {meth : Method} {c : Code} {b L : Nat} {xs : Nat → Int32} {H : jH} {i : Int} (C : lC E p s m meth c b L xs) (h0 : 0 ≤ i) (hi : i + 6 ≤ L) (hr : REL H) (next : ∀ H2, REL H2 → lWP E p e s m below meth c b 1272 [some (.ref b), some (jRF E 0), some (jRF E 56), some (.int (jI i))] [] H2) : lWP E p e s m below meth c b 366 [some (.ref b), some (jRF E 0), some (jRF E 56), some (.int (jI i))] [] H := by
  refine l_aload C 367 rfl rfl rfl dL_law_366 ?_
  refine l_aload C 368 rfl rfl rfl dL_law_367 ?_
  refine l_iload C 369 rfl rfl dL_law_368 ?_
  refine l_iconst C 370 rfl dL_law_369 ?_
  refine l_iadd C 371 rfl dL_law_370 ?_
  refine l_sld C 372 rfl (by omega) dL_law_371 ?_
  refine l_aload C 373 rfl rfl rfl dL_law_372 ?_
  refine l_iload C 374 rfl rfl dL_law_373 ?_
  refine l_iconst C 375 rfl dL_law_374 ?_
  refine l_iadd C 376 rfl dL_law_375 ?_
  refine l_sld C 377 rfl (by omega) dL_law_376 ?_
  refine l_aload C 378 rfl rfl rfl dL_law_377 ?_
  refine l_iload C 379 rfl rfl dL_law_378 ?_
  refine l_iconst C 380 rfl dL_law_379 ?_
  refine l_iadd C 381 rfl dL_law_380 ?_
  refine l_sld C 382 rfl (by omega) dL_law_381 ?_
  refine l_calli C (k0 := 0) (ci := 4) 385 rfl [.int (jI (xv xs (i + 1))), .int (jI (xv xs (i + 2))), .int (jI (xv xs (i + 3)))] dL_law_382 lk_L_48 rfl rfl (by decide) rfl rfl rfl rfl (q_tell (xv_r xs _) (xv_r xs _) (xv_r xs _) hr) (fun r H1 h1 => ?_)
  refine l_aload C 386 rfl rfl rfl dL_law_385 ?_
  refine l_aload C 387 rfl rfl rfl dL_law_386 ?_
  refine l_iload C 388 rfl rfl dL_law_387 ?_
  refine l_iconst C 389 rfl dL_law_388 ?_
  refine l_iadd C 390 rfl dL_law_389 ?_
  refine l_sld C 391 rfl (by omega) dL_law_390 ?_
  refine l_aload C 392 rfl rfl rfl dL_law_391 ?_
  refine l_iload C 393 rfl rfl dL_law_392 ?_
  refine l_iconst C 394 rfl dL_law_393 ?_
  refine l_iadd C 395 rfl dL_law_394 ?_
  refine l_sld C 396 rfl (by omega) dL_law_395 ?_
  refine l_aload C 397 rfl rfl rfl dL_law_396 ?_
  refine l_iload C 398 rfl rfl dL_law_397 ?_
  refine l_iconst C 399 rfl dL_law_398 ?_
  refine l_iadd C 400 rfl dL_law_399 ?_
  refine l_sld C 401 rfl (by omega) dL_law_400 ?_
  refine l_calli C (k0 := 56) (ci := 5) 404 rfl [.int (jI (xv xs (i + 1))), .int (jI (xv xs (i + 2))), .int (jI (xv xs (i + 3)))] dL_law_401 lk_L_52 rfl rfl (by decide) rfl rfl rfl rfl h1 (fun r2 H2 h2 => ?_)
  obtain ⟨rfl, h3⟩ := h2
  exact l_eq C 1272 rfl dL_law_404 (next H2 h3)
theorem tl_383 : Cond.methodLink RL 53 yX4_back ∈ jW := jW_of (List.mem_append_right _ (List.mem_of_getElem? (l := tables_1) (i := 383) (by decide +kernel))) rfl
theorem tl_386 : Cond.code yX4_back cX4_back 1 (some .int) ∈ jW := jW_of (List.mem_append_right _ (List.mem_of_getElem? (l := tables_1) (i := 386) (by decide +kernel))) rfl
theorem tl_384 : Cond.instanceMethod yX4_back ∈ jW := jW_of (List.mem_append_right _ (List.mem_of_getElem? (l := tables_1) (i := 384) (by decide +kernel))) rfl
theorem tl_385 : Cond.selects RX4 yX4_back yX4_back ∈ jW := jW_of (List.mem_append_right _ (List.mem_of_getElem? (l := tables_1) (i := 385) (by decide +kernel))) rfl
theorem lk_L_53 : jLv RL 53 mX4_back 0 := ⟨⟨tl_383, tw_1, tl_386, by decide +kernel⟩, tl_384, tl_385⟩
theorem tl_867 : Cond.methodLink RL 56 yX5_back ∈ jW := jW_of (List.mem_append_right _ (List.mem_of_getElem? (l := tables_1) (i := 867) (by decide +kernel))) rfl
theorem tl_870 : Cond.code yX5_back cX5_back 1 (some .int) ∈ jW := jW_of (List.mem_append_right _ (List.mem_of_getElem? (l := tables_1) (i := 870) (by decide +kernel))) rfl
theorem tl_868 : Cond.instanceMethod yX5_back ∈ jW := jW_of (List.mem_append_right _ (List.mem_of_getElem? (l := tables_1) (i := 868) (by decide +kernel))) rfl
theorem tl_869 : Cond.selects RX5 yX5_back yX5_back ∈ jW := jW_of (List.mem_append_right _ (List.mem_of_getElem? (l := tables_1) (i := 869) (by decide +kernel))) rfl
theorem lk_L_56 : jLv RL 56 mX5_back 0 := ⟨⟨tl_867, tw_6, tl_870, by decide +kernel⟩, tl_868, tl_869⟩
set_option maxRecDepth 20000 in
theorem lc_9 {E : jE} {p : Program} {e : Env} {s : State} {m : MethodId} {below : List Frame} {meth : Method} {c : Code} {b L : Nat} {xs : Nat → Int32} {H : jH} {i : Int} (C : lC E p s m meth c b L xs) (h0 : 0 ≤ i) (hi : i + 6 ≤ L) (hr : REL H) (next : ∀ H2, REL H2 → lWP E p e s m below meth c b 1272 [some (.ref b), some (jRF E 0), some (jRF E 56), some (.int (jI i))] [] H2) : lWP E p e s m below meth c b 409 [some (.ref b), some (jRF E 0), some (jRF E 56), some (.int (jI i))] [] H := by
  refine l_aload C 410 rfl rfl rfl dL_law_409 ?_
  refine l_calli C (k0 := 0) (ci := 4) 413 rfl [] dL_law_410 lk_L_53 rfl rfl (by decide) rfl rfl rfl rfl (q_back  hr) (fun r H1 h1 => ?_)
  refine l_aload C 414 rfl rfl rfl dL_law_413 ?_
  refine l_calli C (k0 := 56) (ci := 5) 417 rfl [] dL_law_414 lk_L_56 rfl rfl (by decide) rfl rfl rfl rfl h1 (fun r2 H2 h2 => ?_)
  obtain ⟨rfl, h3⟩ := h2
  exact l_eq C 1272 rfl dL_law_417 (next H2 h3)
theorem tl_387 : Cond.methodLink RL 57 yX4_read ∈ jW := jW_of (List.mem_append_right _ (List.mem_of_getElem? (l := tables_1) (i := 387) (by decide +kernel))) rfl
theorem tl_390 : Cond.code yX4_read cX4_read 6 (some .int) ∈ jW := jW_of (List.mem_append_right _ (List.mem_of_getElem? (l := tables_1) (i := 390) (by decide +kernel))) rfl
theorem tl_388 : Cond.instanceMethod yX4_read ∈ jW := jW_of (List.mem_append_right _ (List.mem_of_getElem? (l := tables_1) (i := 388) (by decide +kernel))) rfl
theorem tl_389 : Cond.selects RX4 yX4_read yX4_read ∈ jW := jW_of (List.mem_append_right _ (List.mem_of_getElem? (l := tables_1) (i := 389) (by decide +kernel))) rfl
theorem lk_L_57 : jLv RL 57 mX4_read 1 := ⟨⟨tl_387, tw_1, tl_390, by decide +kernel⟩, tl_388, tl_389⟩
theorem tl_871 : Cond.methodLink RL 60 yX5_read ∈ jW := jW_of (List.mem_append_right _ (List.mem_of_getElem? (l := tables_1) (i := 871) (by decide +kernel))) rfl
theorem tl_874 : Cond.code yX5_read cX5_read 5 (some .int) ∈ jW := jW_of (List.mem_append_right _ (List.mem_of_getElem? (l := tables_1) (i := 874) (by decide +kernel))) rfl
theorem tl_872 : Cond.instanceMethod yX5_read ∈ jW := jW_of (List.mem_append_right _ (List.mem_of_getElem? (l := tables_1) (i := 872) (by decide +kernel))) rfl
theorem tl_873 : Cond.selects RX5 yX5_read yX5_read ∈ jW := jW_of (List.mem_append_right _ (List.mem_of_getElem? (l := tables_1) (i := 873) (by decide +kernel))) rfl
theorem lk_L_60 : jLv RL 60 mX5_read 1 := ⟨⟨tl_871, tw_6, tl_874, by decide +kernel⟩, tl_872, tl_873⟩
set_option maxRecDepth 20000 in
theorem lc_10 {E : jE} {p : Program} {e : Env} {s : State} {m : MethodId} {below : List Frame} {meth : Method} {c : Code} {b L : Nat} {xs : Nat → Int32} {H : jH} {i : Int} (C : lC E p s m meth c b L xs) (h0 : 0 ≤ i) (hi : i + 6 ≤ L) (hr : REL H) (next : ∀ H2, REL H2 → lWP E p e s m below meth c b 1272 [some (.ref b), some (jRF E 0), some (jRF E 56), some (.int (jI i))] [] H2) : lWP E p e s m below meth c b 422 [some (.ref b), some (jRF E 0), some (jRF E 56), some (.int (jI i))] [] H := by
  refine l_aload C 423 rfl rfl rfl dL_law_422 ?_
  refine l_aload C 424 rfl rfl rfl dL_law_423 ?_
  refine l_iload C 425 rfl rfl dL_law_424 ?_
  refine l_iconst C 426 rfl dL_law_425 ?_
  refine l_iadd C 427 rfl dL_law_426 ?_
  refine l_sld C 428 rfl (by omega) dL_law_427 ?_
  refine l_calli C (k0 := 0) (ci := 4) 431 rfl [.int (jI (xv xs (i + 1)))] dL_law_428 lk_L_57 rfl rfl (by decide) rfl rfl rfl rfl (q_read (xv_r xs _) hr) (fun r H1 h1 => ?_)
  refine l_aload C 432 rfl rfl rfl dL_law_431 ?_
  refine l_aload C 433 rfl rfl rfl dL_law_432 ?_
  refine l_iload C 434 rfl rfl dL_law_433 ?_
  refine l_iconst C 435 rfl dL_law_434 ?_
  refine l_iadd C 436 rfl dL_law_435 ?_
  refine l_sld C 437 rfl (by omega) dL_law_436 ?_
  refine l_calli C (k0 := 56) (ci := 5) 440 rfl [.int (jI (xv xs (i + 1)))] dL_law_437 lk_L_60 rfl rfl (by decide) rfl rfl rfl rfl h1 (fun r2 H2 h2 => ?_)
  obtain ⟨rfl, h3⟩ := h2
  exact l_eq C 1272 rfl dL_law_440 (next H2 h3)
theorem tl_399 : Cond.methodLink RL 61 yX4_step ∈ jW := jW_of (List.mem_append_right _ (List.mem_of_getElem? (l := tables_1) (i := 399) (by decide +kernel))) rfl
theorem lk_L_61 : jLv RL 61 mX4_step 2 := ⟨⟨tl_399, tw_1, tw_402, by decide +kernel⟩, tw_400, tw_401⟩
theorem tl_876 : Cond.methodLink RL 64 yX5_step ∈ jW := jW_of (List.mem_append_right _ (List.mem_of_getElem? (l := tables_1) (i := 876) (by decide +kernel))) rfl
theorem tl_879 : Cond.code yX5_step cX5_step 3 (some .int) ∈ jW := jW_of (List.mem_append_right _ (List.mem_of_getElem? (l := tables_1) (i := 879) (by decide +kernel))) rfl
theorem tl_877 : Cond.instanceMethod yX5_step ∈ jW := jW_of (List.mem_append_right _ (List.mem_of_getElem? (l := tables_1) (i := 877) (by decide +kernel))) rfl
theorem tl_878 : Cond.selects RX5 yX5_step yX5_step ∈ jW := jW_of (List.mem_append_right _ (List.mem_of_getElem? (l := tables_1) (i := 878) (by decide +kernel))) rfl
theorem lk_L_64 : jLv RL 64 mX5_step 2 := ⟨⟨tl_876, tw_6, tl_879, by decide +kernel⟩, tl_877, tl_878⟩
set_option maxRecDepth 20000 in
theorem lc_11 {E : jE} {p : Program} {e : Env} {s : State} {m : MethodId} {below : List Frame} {meth : Method} {c : Code} {b L : Nat} {xs : Nat → Int32} {H : jH} {i : Int} (C : lC E p s m meth c b L xs) (h0 : 0 ≤ i) (hi : i + 6 ≤ L) (hr : REL H) (next : ∀ H2, REL H2 → lWP E p e s m below meth c b 1272 [some (.ref b), some (jRF E 0), some (jRF E 56), some (.int (jI i))] [] H2) : lWP E p e s m below meth c b 445 [some (.ref b), some (jRF E 0), some (jRF E 56), some (.int (jI i))] [] H := by
  refine l_aload C 446 rfl rfl rfl dL_law_445 ?_
  refine l_aload C 447 rfl rfl rfl dL_law_446 ?_
  refine l_iload C 448 rfl rfl dL_law_447 ?_
  refine l_iconst C 449 rfl dL_law_448 ?_
  refine l_iadd C 450 rfl dL_law_449 ?_
  refine l_sld C 451 rfl (by omega) dL_law_450 ?_
  refine l_aload C 452 rfl rfl rfl dL_law_451 ?_
  refine l_iload C 453 rfl rfl dL_law_452 ?_
  refine l_iconst C 454 rfl dL_law_453 ?_
  refine l_iadd C 455 rfl dL_law_454 ?_
  refine l_sld C 456 rfl (by omega) dL_law_455 ?_
  refine l_calli C (k0 := 0) (ci := 4) 459 rfl [.int (jI (xv xs (i + 1))), .int (jI (xv xs (i + 2)))] dL_law_456 lk_L_61 rfl rfl (by decide) rfl rfl rfl rfl (q_step (xv_r xs _) (xv_r xs _) hr) (fun r H1 h1 => ?_)
  refine l_aload C 460 rfl rfl rfl dL_law_459 ?_
  refine l_aload C 461 rfl rfl rfl dL_law_460 ?_
  refine l_iload C 462 rfl rfl dL_law_461 ?_
  refine l_iconst C 463 rfl dL_law_462 ?_
  refine l_iadd C 464 rfl dL_law_463 ?_
  refine l_sld C 465 rfl (by omega) dL_law_464 ?_
  refine l_aload C 466 rfl rfl rfl dL_law_465 ?_
  refine l_iload C 467 rfl rfl dL_law_466 ?_
  refine l_iconst C 468 rfl dL_law_467 ?_
  refine l_iadd C 469 rfl dL_law_468 ?_
  refine l_sld C 470 rfl (by omega) dL_law_469 ?_
  refine l_calli C (k0 := 56) (ci := 5) 473 rfl [.int (jI (xv xs (i + 1))), .int (jI (xv xs (i + 2)))] dL_law_470 lk_L_64 rfl rfl (by decide) rfl rfl rfl rfl h1 (fun r2 H2 h2 => ?_)
  obtain ⟨rfl, h3⟩ := h2
  exact l_eq C 1272 rfl dL_law_473 (next H2 h3)
theorem tl_446 : Cond.methodLink RL 65 yX4_spring ∈ jW := jW_of (List.mem_append_right _ (List.mem_of_getElem? (l := tables_1) (i := 446) (by decide +kernel))) rfl
theorem lk_L_65 : jLv RL 65 mX4_spring 2 := ⟨⟨tl_446, tw_1, tw_449, by decide +kernel⟩, tw_447, tw_448⟩
theorem tl_916 : Cond.methodLink RL 68 yX5_spring ∈ jW := jW_of (List.mem_append_right _ (List.mem_of_getElem? (l := tables_1) (i := 916) (by decide +kernel))) rfl
theorem tl_919 : Cond.code yX5_spring cX5_spring 3 (some .int) ∈ jW := jW_of (List.mem_append_right _ (List.mem_of_getElem? (l := tables_1) (i := 919) (by decide +kernel))) rfl
theorem tl_917 : Cond.instanceMethod yX5_spring ∈ jW := jW_of (List.mem_append_right _ (List.mem_of_getElem? (l := tables_1) (i := 917) (by decide +kernel))) rfl
theorem tl_918 : Cond.selects RX5 yX5_spring yX5_spring ∈ jW := jW_of (List.mem_append_right _ (List.mem_of_getElem? (l := tables_1) (i := 918) (by decide +kernel))) rfl
theorem lk_L_68 : jLv RL 68 mX5_spring 2 := ⟨⟨tl_916, tw_6, tl_919, by decide +kernel⟩, tl_917, tl_918⟩
set_option maxRecDepth 20000 in
theorem lc_12 {E : jE} {p : Program} {e : Env} {s : State} {m : MethodId} {below : List Frame} {meth : Method} {c : Code} {b L : Nat} {xs : Nat → Int32} {H : jH} {i : Int} (C : lC E p s m meth c b L xs) (h0 : 0 ≤ i) (hi : i + 6 ≤ L) (hr : REL H) (next : ∀ H2, REL H2 → lWP E p e s m below meth c b 1272 [some (.ref b), some (jRF E 0), some (jRF E 56), some (.int (jI i))] [] H2) : lWP E p e s m below meth c b 478 [some (.ref b), some (jRF E 0), some (jRF E 56), some (.int (jI i))] [] H := by
  refine l_aload C 479 rfl rfl rfl dL_law_478 ?_
  refine l_aload C 480 rfl rfl rfl dL_law_479 ?_
  refine l_iload C 481 rfl rfl dL_law_480 ?_
  refine l_iconst C 482 rfl dL_law_481 ?_
  refine l_iadd C 483 rfl dL_law_482 ?_
  refine l_sld C 484 rfl (by omega) dL_law_483 ?_
  refine l_aload C 485 rfl rfl rfl dL_law_484 ?_
  refine l_iload C 486 rfl rfl dL_law_485 ?_
  refine l_iconst C 487 rfl dL_law_486 ?_
  refine l_iadd C 488 rfl dL_law_487 ?_
  refine l_sld C 489 rfl (by omega) dL_law_488 ?_
  refine l_calli C (k0 := 0) (ci := 4) 492 rfl [.int (jI (xv xs (i + 1))), .int (jI (xv xs (i + 2)))] dL_law_489 lk_L_65 rfl rfl (by decide) rfl rfl rfl rfl (q_spring (xv_r xs _) (xv_r xs _) hr) (fun r H1 h1 => ?_)
  refine l_aload C 493 rfl rfl rfl dL_law_492 ?_
  refine l_aload C 494 rfl rfl rfl dL_law_493 ?_
  refine l_iload C 495 rfl rfl dL_law_494 ?_
  refine l_iconst C 496 rfl dL_law_495 ?_
  refine l_iadd C 497 rfl dL_law_496 ?_
  refine l_sld C 498 rfl (by omega) dL_law_497 ?_
  refine l_aload C 499 rfl rfl rfl dL_law_498 ?_
  refine l_iload C 500 rfl rfl dL_law_499 ?_
  refine l_iconst C 501 rfl dL_law_500 ?_
  refine l_iadd C 502 rfl dL_law_501 ?_
  refine l_sld C 503 rfl (by omega) dL_law_502 ?_
  refine l_calli C (k0 := 56) (ci := 5) 506 rfl [.int (jI (xv xs (i + 1))), .int (jI (xv xs (i + 2)))] dL_law_503 lk_L_68 rfl rfl (by decide) rfl rfl rfl rfl h1 (fun r2 H2 h2 => ?_)
  obtain ⟨rfl, h3⟩ := h2
  exact l_eq C 1272 rfl dL_law_506 (next H2 h3)
theorem tl_450 : Cond.methodLink RL 69 yX4_quiet ∈ jW := jW_of (List.mem_append_right _ (List.mem_of_getElem? (l := tables_1) (i := 450) (by decide +kernel))) rfl
theorem lk_L_69 : jLv RL 69 mX4_quiet 0 := ⟨⟨tl_450, tw_1, tw_453, by decide +kernel⟩, tw_451, tw_452⟩
theorem tl_920 : Cond.methodLink RL 72 yX5_quiet ∈ jW := jW_of (List.mem_append_right _ (List.mem_of_getElem? (l := tables_1) (i := 920) (by decide +kernel))) rfl
theorem tl_923 : Cond.code yX5_quiet cX5_quiet 1 (some .int) ∈ jW := jW_of (List.mem_append_right _ (List.mem_of_getElem? (l := tables_1) (i := 923) (by decide +kernel))) rfl
theorem tl_921 : Cond.instanceMethod yX5_quiet ∈ jW := jW_of (List.mem_append_right _ (List.mem_of_getElem? (l := tables_1) (i := 921) (by decide +kernel))) rfl
theorem tl_922 : Cond.selects RX5 yX5_quiet yX5_quiet ∈ jW := jW_of (List.mem_append_right _ (List.mem_of_getElem? (l := tables_1) (i := 922) (by decide +kernel))) rfl
theorem lk_L_72 : jLv RL 72 mX5_quiet 0 := ⟨⟨tl_920, tw_6, tl_923, by decide +kernel⟩, tl_921, tl_922⟩
set_option maxRecDepth 20000 in
theorem lc_13 {E : jE} {p : Program} {e : Env} {s : State} {m : MethodId} {below : List Frame} {meth : Method} {c : Code} {b L : Nat} {xs : Nat → Int32} {H : jH} {i : Int} (C : lC E p s m meth c b L xs) (h0 : 0 ≤ i) (hi : i + 6 ≤ L) (hr : REL H) (next : ∀ H2, REL H2 → lWP E p e s m below meth c b 1272 [some (.ref b), some (jRF E 0), some (jRF E 56), some (.int (jI i))] [] H2) : lWP E p e s m below meth c b 511 [some (.ref b), some (jRF E 0), some (jRF E 56), some (.int (jI i))] [] H := by
  refine l_aload C 512 rfl rfl rfl dL_law_511 ?_
  refine l_calli C (k0 := 0) (ci := 4) 515 rfl [] dL_law_512 lk_L_69 rfl rfl (by decide) rfl rfl rfl rfl (q_quiet  hr) (fun r H1 h1 => ?_)
  refine l_aload C 516 rfl rfl rfl dL_law_515 ?_
  refine l_calli C (k0 := 56) (ci := 5) 519 rfl [] dL_law_516 lk_L_72 rfl rfl (by decide) rfl rfl rfl rfl h1 (fun r2 H2 h2 => ?_)
  obtain ⟨rfl, h3⟩ := h2
  exact l_eq C 1272 rfl dL_law_519 (next H2 h3)
theorem tl_454 : Cond.methodLink RL 73 yX4_loudest ∈ jW := jW_of (List.mem_append_right _ (List.mem_of_getElem? (l := tables_1) (i := 454) (by decide +kernel))) rfl
theorem lk_L_73 : jLv RL 73 mX4_loudest 1 := ⟨⟨tl_454, tw_1, tw_457, by decide +kernel⟩, tw_455, tw_456⟩
theorem tl_928 : Cond.methodLink RL 76 yX5_loudest ∈ jW := jW_of (List.mem_append_right _ (List.mem_of_getElem? (l := tables_1) (i := 928) (by decide +kernel))) rfl
theorem tl_931 : Cond.code yX5_loudest cX5_loudest 2 (some .int) ∈ jW := jW_of (List.mem_append_right _ (List.mem_of_getElem? (l := tables_1) (i := 931) (by decide +kernel))) rfl
theorem tl_929 : Cond.instanceMethod yX5_loudest ∈ jW := jW_of (List.mem_append_right _ (List.mem_of_getElem? (l := tables_1) (i := 929) (by decide +kernel))) rfl
theorem tl_930 : Cond.selects RX5 yX5_loudest yX5_loudest ∈ jW := jW_of (List.mem_append_right _ (List.mem_of_getElem? (l := tables_1) (i := 930) (by decide +kernel))) rfl
theorem lk_L_76 : jLv RL 76 mX5_loudest 1 := ⟨⟨tl_928, tw_6, tl_931, by decide +kernel⟩, tl_929, tl_930⟩
set_option maxRecDepth 20000 in
theorem lc_14 {E : jE} {p : Program} {e : Env} {s : State} {m : MethodId} {below : List Frame} {meth : Method} {c : Code} {b L : Nat} {xs : Nat → Int32} {H : jH} {i : Int} (C : lC E p s m meth c b L xs) (h0 : 0 ≤ i) (hi : i + 6 ≤ L) (hr : REL H) (next : ∀ H2, REL H2 → lWP E p e s m below meth c b 1272 [some (.ref b), some (jRF E 0), some (jRF E 56), some (.int (jI i))] [] H2) : lWP E p e s m below meth c b 524 [some (.ref b), some (jRF E 0), some (jRF E 56), some (.int (jI i))] [] H := by
  refine l_aload C 525 rfl rfl rfl dL_law_524 ?_
  refine l_aload C 526 rfl rfl rfl dL_law_525 ?_
  refine l_iload C 527 rfl rfl dL_law_526 ?_
  refine l_iconst C 528 rfl dL_law_527 ?_
  refine l_iadd C 529 rfl dL_law_528 ?_
  refine l_sld C 530 rfl (by omega) dL_law_529 ?_
  refine l_calli C (k0 := 0) (ci := 4) 533 rfl [.int (jI (xv xs (i + 1)))] dL_law_530 lk_L_73 rfl rfl (by decide) rfl rfl rfl rfl (q_loudest (xv_r xs _) hr) (fun r H1 h1 => ?_)
  refine l_aload C 534 rfl rfl rfl dL_law_533 ?_
  refine l_aload C 535 rfl rfl rfl dL_law_534 ?_
  refine l_iload C 536 rfl rfl dL_law_535 ?_
  refine l_iconst C 537 rfl dL_law_536 ?_
  refine l_iadd C 538 rfl dL_law_537 ?_
  refine l_sld C 539 rfl (by omega) dL_law_538 ?_
  refine l_calli C (k0 := 56) (ci := 5) 542 rfl [.int (jI (xv xs (i + 1)))] dL_law_539 lk_L_76 rfl rfl (by decide) rfl rfl rfl rfl h1 (fun r2 H2 h2 => ?_)
  obtain ⟨rfl, h3⟩ := h2
  exact l_eq C 1272 rfl dL_law_542 (next H2 h3)
theorem tl_459 : Cond.methodLink RL 77 yX4_first ∈ jW := jW_of (List.mem_append_right _ (List.mem_of_getElem? (l := tables_1) (i := 459) (by decide +kernel))) rfl
theorem lk_L_77 : jLv RL 77 mX4_first 1 := ⟨⟨tl_459, tw_1, tw_462, by decide +kernel⟩, tw_460, tw_461⟩
theorem tl_936 : Cond.methodLink RL 80 yX5_first ∈ jW := jW_of (List.mem_append_right _ (List.mem_of_getElem? (l := tables_1) (i := 936) (by decide +kernel))) rfl
theorem tl_939 : Cond.code yX5_first cX5_first 2 (some .int) ∈ jW := jW_of (List.mem_append_right _ (List.mem_of_getElem? (l := tables_1) (i := 939) (by decide +kernel))) rfl
theorem tl_937 : Cond.instanceMethod yX5_first ∈ jW := jW_of (List.mem_append_right _ (List.mem_of_getElem? (l := tables_1) (i := 937) (by decide +kernel))) rfl
theorem tl_938 : Cond.selects RX5 yX5_first yX5_first ∈ jW := jW_of (List.mem_append_right _ (List.mem_of_getElem? (l := tables_1) (i := 938) (by decide +kernel))) rfl
theorem lk_L_80 : jLv RL 80 mX5_first 1 := ⟨⟨tl_936, tw_6, tl_939, by decide +kernel⟩, tl_937, tl_938⟩
set_option maxRecDepth 20000 in
theorem lc_15 {E : jE} {p : Program} {e : Env} {s : State} {m : MethodId} {below : List Frame} {meth : Method} {c : Code} {b L : Nat} {xs : Nat → Int32} {H : jH} {i : Int} (C : lC E p s m meth c b L xs) (h0 : 0 ≤ i) (hi : i + 6 ≤ L) (hr : REL H) (next : ∀ H2, REL H2 → lWP E p e s m below meth c b 1272 [some (.ref b), some (jRF E 0), some (jRF E 56), some (.int (jI i))] [] H2) : lWP E p e s m below meth c b 547 [some (.ref b), some (jRF E 0), some (jRF E 56), some (.int (jI i))] [] H := by
  refine l_aload C 548 rfl rfl rfl dL_law_547 ?_
  refine l_aload C 549 rfl rfl rfl dL_law_548 ?_
  refine l_iload C 550 rfl rfl dL_law_549 ?_
  refine l_iconst C 551 rfl dL_law_550 ?_
  refine l_iadd C 552 rfl dL_law_551 ?_
  refine l_sld C 553 rfl (by omega) dL_law_552 ?_
  refine l_calli C (k0 := 0) (ci := 4) 556 rfl [.int (jI (xv xs (i + 1)))] dL_law_553 lk_L_77 rfl rfl (by decide) rfl rfl rfl rfl (q_first (xv_r xs _) hr) (fun r H1 h1 => ?_)
  refine l_aload C 557 rfl rfl rfl dL_law_556 ?_
  refine l_aload C 558 rfl rfl rfl dL_law_557 ?_
  refine l_iload C 559 rfl rfl dL_law_558 ?_
  refine l_iconst C 560 rfl dL_law_559 ?_
  refine l_iadd C 561 rfl dL_law_560 ?_
  refine l_sld C 562 rfl (by omega) dL_law_561 ?_
  refine l_calli C (k0 := 56) (ci := 5) 565 rfl [.int (jI (xv xs (i + 1)))] dL_law_562 lk_L_80 rfl rfl (by decide) rfl rfl rfl rfl h1 (fun r2 H2 h2 => ?_)
  obtain ⟨rfl, h3⟩ := h2
  exact l_eq C 1272 rfl dL_law_565 (next H2 h3)
theorem tl_463 : Cond.methodLink RL 81 yX4_together ∈ jW := jW_of (List.mem_append_right _ (List.mem_of_getElem? (l := tables_1) (i := 463) (by decide +kernel))) rfl
theorem lk_L_81 : jLv RL 81 mX4_together 2 := ⟨⟨tl_463, tw_1, tw_466, by decide +kernel⟩, tw_464, tw_465⟩
theorem tl_944 : Cond.methodLink RL 84 yX5_together ∈ jW := jW_of (List.mem_append_right _ (List.mem_of_getElem? (l := tables_1) (i := 944) (by decide +kernel))) rfl
theorem tl_947 : Cond.code yX5_together cX5_together 3 (some .int) ∈ jW := jW_of (List.mem_append_right _ (List.mem_of_getElem? (l := tables_1) (i := 947) (by decide +kernel))) rfl
theorem tl_945 : Cond.instanceMethod yX5_together ∈ jW := jW_of (List.mem_append_right _ (List.mem_of_getElem? (l := tables_1) (i := 945) (by decide +kernel))) rfl
theorem tl_946 : Cond.selects RX5 yX5_together yX5_together ∈ jW := jW_of (List.mem_append_right _ (List.mem_of_getElem? (l := tables_1) (i := 946) (by decide +kernel))) rfl
theorem lk_L_84 : jLv RL 84 mX5_together 2 := ⟨⟨tl_944, tw_6, tl_947, by decide +kernel⟩, tl_945, tl_946⟩
set_option maxRecDepth 20000 in
theorem lc_16 {E : jE} {p : Program} {e : Env} {s : State} {m : MethodId} {below : List Frame} {meth : Method} {c : Code} {b L : Nat} {xs : Nat → Int32} {H : jH} {i : Int} (C : lC E p s m meth c b L xs) (h0 : 0 ≤ i) (hi : i + 6 ≤ L) (hr : REL H) (next : ∀ H2, REL H2 → lWP E p e s m below meth c b 1272 [some (.ref b), some (jRF E 0), some (jRF E 56), some (.int (jI i))] [] H2) : lWP E p e s m below meth c b 570 [some (.ref b), some (jRF E 0), some (jRF E 56), some (.int (jI i))] [] H := by
  refine l_aload C 571 rfl rfl rfl dL_law_570 ?_
  refine l_aload C 572 rfl rfl rfl dL_law_571 ?_
  refine l_iload C 573 rfl rfl dL_law_572 ?_
  refine l_iconst C 574 rfl dL_law_573 ?_
  refine l_iadd C 575 rfl dL_law_574 ?_
  refine l_sld C 576 rfl (by omega) dL_law_575 ?_
  refine l_aload C 577 rfl rfl rfl dL_law_576 ?_
  refine l_iload C 578 rfl rfl dL_law_577 ?_
  refine l_iconst C 579 rfl dL_law_578 ?_
  refine l_iadd C 580 rfl dL_law_579 ?_
  refine l_sld C 581 rfl (by omega) dL_law_580 ?_
  refine l_calli C (k0 := 0) (ci := 4) 584 rfl [.int (jI (xv xs (i + 1))), .int (jI (xv xs (i + 2)))] dL_law_581 lk_L_81 rfl rfl (by decide) rfl rfl rfl rfl (q_together (xv_r xs _) (xv_r xs _) hr) (fun r H1 h1 => ?_)
  refine l_aload C 585 rfl rfl rfl dL_law_584 ?_
  refine l_aload C 586 rfl rfl rfl dL_law_585 ?_
  refine l_iload C 587 rfl rfl dL_law_586 ?_
  refine l_iconst C 588 rfl dL_law_587 ?_
  refine l_iadd C 589 rfl dL_law_588 ?_
  refine l_sld C 590 rfl (by omega) dL_law_589 ?_
  refine l_aload C 591 rfl rfl rfl dL_law_590 ?_
  refine l_iload C 592 rfl rfl dL_law_591 ?_
  refine l_iconst C 593 rfl dL_law_592 ?_
  refine l_iadd C 594 rfl dL_law_593 ?_
  refine l_sld C 595 rfl (by omega) dL_law_594 ?_
  refine l_calli C (k0 := 56) (ci := 5) 598 rfl [.int (jI (xv xs (i + 1))), .int (jI (xv xs (i + 2)))] dL_law_595 lk_L_84 rfl rfl (by decide) rfl rfl rfl rfl h1 (fun r2 H2 h2 => ?_)
  obtain ⟨rfl, h3⟩ := h2
  exact l_eq C 1272 rfl dL_law_598 (next H2 h3)
theorem tl_467 : Cond.methodLink RL 85 yX4_news ∈ jW := jW_of (List.mem_append_right _ (List.mem_of_getElem? (l := tables_1) (i := 467) (by decide +kernel))) rfl
theorem lk_L_85 : jLv RL 85 mX4_news 3 := ⟨⟨tl_467, tw_1, tw_470, by decide +kernel⟩, tw_468, tw_469⟩
theorem tl_956 : Cond.methodLink RL 88 yX5_news ∈ jW := jW_of (List.mem_append_right _ (List.mem_of_getElem? (l := tables_1) (i := 956) (by decide +kernel))) rfl
theorem lk_L_88 : jLv RL 88 mX5_news 3 := ⟨⟨tl_956, tw_6, tw_959, by decide +kernel⟩, tw_957, tw_958⟩
set_option maxRecDepth 20000 in
theorem lc_17 {E : jE} {p : Program} {e : Env} {s : State} {m : MethodId} {below : List Frame} {meth : Method} {c : Code} {b L : Nat} {xs : Nat → Int32} {H : jH} {i : Int} (C : lC E p s m meth c b L xs) (h0 : 0 ≤ i) (hi : i + 6 ≤ L) (hr : REL H) (next : ∀ H2, REL H2 → lWP E p e s m below meth c b 1272 [some (.ref b), some (jRF E 0), some (jRF E 56), some (.int (jI i))] [] H2) : lWP E p e s m below meth c b 603 [some (.ref b), some (jRF E 0), some (jRF E 56), some (.int (jI i))] [] H := by
  refine l_aload C 604 rfl rfl rfl dL_law_603 ?_
  refine l_aload C 605 rfl rfl rfl dL_law_604 ?_
  refine l_iload C 606 rfl rfl dL_law_605 ?_
  refine l_iconst C 607 rfl dL_law_606 ?_
  refine l_iadd C 608 rfl dL_law_607 ?_
  refine l_sld C 609 rfl (by omega) dL_law_608 ?_
  refine l_aload C 610 rfl rfl rfl dL_law_609 ?_
  refine l_iload C 611 rfl rfl dL_law_610 ?_
  refine l_iconst C 612 rfl dL_law_611 ?_
  refine l_iadd C 613 rfl dL_law_612 ?_
  refine l_sld C 614 rfl (by omega) dL_law_613 ?_
  refine l_aload C 615 rfl rfl rfl dL_law_614 ?_
  refine l_iload C 616 rfl rfl dL_law_615 ?_
  refine l_iconst C 617 rfl dL_law_616 ?_
  refine l_iadd C 618 rfl dL_law_617 ?_
  refine l_sld C 619 rfl (by omega) dL_law_618 ?_
  refine l_calli C (k0 := 0) (ci := 4) 622 rfl [.int (jI (xv xs (i + 1))), .int (jI (xv xs (i + 2))), .int (jI (xv xs (i + 3)))] dL_law_619 lk_L_85 rfl rfl (by decide) rfl rfl rfl rfl (q_news (xv_r xs _) (xv_r xs _) (xv_r xs _) hr) (fun r H1 h1 => ?_)
  refine l_aload C 623 rfl rfl rfl dL_law_622 ?_
  refine l_aload C 624 rfl rfl rfl dL_law_623 ?_
  refine l_iload C 625 rfl rfl dL_law_624 ?_
  refine l_iconst C 626 rfl dL_law_625 ?_
  refine l_iadd C 627 rfl dL_law_626 ?_
  refine l_sld C 628 rfl (by omega) dL_law_627 ?_
  refine l_aload C 629 rfl rfl rfl dL_law_628 ?_
  refine l_iload C 630 rfl rfl dL_law_629 ?_
  refine l_iconst C 631 rfl dL_law_630 ?_
  refine l_iadd C 632 rfl dL_law_631 ?_
  refine l_sld C 633 rfl (by omega) dL_law_632 ?_
  refine l_aload C 634 rfl rfl rfl dL_law_633 ?_
  refine l_iload C 635 rfl rfl dL_law_634 ?_
  refine l_iconst C 636 rfl dL_law_635 ?_
  refine l_iadd C 637 rfl dL_law_636 ?_
  refine l_sld C 638 rfl (by omega) dL_law_637 ?_
  refine l_calli C (k0 := 56) (ci := 5) 641 rfl [.int (jI (xv xs (i + 1))), .int (jI (xv xs (i + 2))), .int (jI (xv xs (i + 3)))] dL_law_638 lk_L_88 rfl rfl (by decide) rfl rfl rfl rfl h1 (fun r2 H2 h2 => ?_)
  obtain ⟨rfl, h3⟩ := h2
  exact l_eq C 1272 rfl dL_law_641 (next H2 h3)
theorem tl_474 : Cond.methodLink RL 89 yX4_hears ∈ jW := jW_of (List.mem_append_right _ (List.mem_of_getElem? (l := tables_1) (i := 474) (by decide +kernel))) rfl
theorem lk_L_89 : jLv RL 89 mX4_hears 2 := ⟨⟨tl_474, tw_1, tw_477, by decide +kernel⟩, tw_475, tw_476⟩
theorem tl_968 : Cond.methodLink RL 92 yX5_hears ∈ jW := jW_of (List.mem_append_right _ (List.mem_of_getElem? (l := tables_1) (i := 968) (by decide +kernel))) rfl
theorem tl_971 : Cond.code yX5_hears cX5_hears 3 (some .int) ∈ jW := jW_of (List.mem_append_right _ (List.mem_of_getElem? (l := tables_1) (i := 971) (by decide +kernel))) rfl
theorem tl_969 : Cond.instanceMethod yX5_hears ∈ jW := jW_of (List.mem_append_right _ (List.mem_of_getElem? (l := tables_1) (i := 969) (by decide +kernel))) rfl
theorem tl_970 : Cond.selects RX5 yX5_hears yX5_hears ∈ jW := jW_of (List.mem_append_right _ (List.mem_of_getElem? (l := tables_1) (i := 970) (by decide +kernel))) rfl
theorem lk_L_92 : jLv RL 92 mX5_hears 2 := ⟨⟨tl_968, tw_6, tl_971, by decide +kernel⟩, tl_969, tl_970⟩
set_option maxRecDepth 20000 in
theorem lc_18 {E : jE} {p : Program} {e : Env} {s : State} {m : MethodId} {below : List Frame} {meth : Method} {c : Code} {b L : Nat} {xs : Nat → Int32} {H : jH} {i : Int} (C : lC E p s m meth c b L xs) (h0 : 0 ≤ i) (hi : i + 6 ≤ L) (hr : REL H) (next : ∀ H2, REL H2 → lWP E p e s m below meth c b 1272 [some (.ref b), some (jRF E 0), some (jRF E 56), some (.int (jI i))] [] H2) : lWP E p e s m below meth c b 646 [some (.ref b), some (jRF E 0), some (jRF E 56), some (.int (jI i))] [] H := by
  refine l_aload C 647 rfl rfl rfl dL_law_646 ?_
  refine l_aload C 648 rfl rfl rfl dL_law_647 ?_
  refine l_iload C 649 rfl rfl dL_law_648 ?_
  refine l_iconst C 650 rfl dL_law_649 ?_
  refine l_iadd C 651 rfl dL_law_650 ?_
  refine l_sld C 652 rfl (by omega) dL_law_651 ?_
  refine l_aload C 653 rfl rfl rfl dL_law_652 ?_
  refine l_iload C 654 rfl rfl dL_law_653 ?_
  refine l_iconst C 655 rfl dL_law_654 ?_
  refine l_iadd C 656 rfl dL_law_655 ?_
  refine l_sld C 657 rfl (by omega) dL_law_656 ?_
  refine l_calli C (k0 := 0) (ci := 4) 660 rfl [.int (jI (xv xs (i + 1))), .int (jI (xv xs (i + 2)))] dL_law_657 lk_L_89 rfl rfl (by decide) rfl rfl rfl rfl (q_hears (xv_r xs _) (xv_r xs _) hr) (fun r H1 h1 => ?_)
  refine l_aload C 661 rfl rfl rfl dL_law_660 ?_
  refine l_aload C 662 rfl rfl rfl dL_law_661 ?_
  refine l_iload C 663 rfl rfl dL_law_662 ?_
  refine l_iconst C 664 rfl dL_law_663 ?_
  refine l_iadd C 665 rfl dL_law_664 ?_
  refine l_sld C 666 rfl (by omega) dL_law_665 ?_
  refine l_aload C 667 rfl rfl rfl dL_law_666 ?_
  refine l_iload C 668 rfl rfl dL_law_667 ?_
  refine l_iconst C 669 rfl dL_law_668 ?_
  refine l_iadd C 670 rfl dL_law_669 ?_
  refine l_sld C 671 rfl (by omega) dL_law_670 ?_
  refine l_calli C (k0 := 56) (ci := 5) 674 rfl [.int (jI (xv xs (i + 1))), .int (jI (xv xs (i + 2)))] dL_law_671 lk_L_92 rfl rfl (by decide) rfl rfl rfl rfl h1 (fun r2 H2 h2 => ?_)
  obtain ⟨rfl, h3⟩ := h2
  exact l_eq C 1272 rfl dL_law_674 (next H2 h3)
theorem tl_478 : Cond.methodLink RL 93 yX4_hush ∈ jW := jW_of (List.mem_append_right _ (List.mem_of_getElem? (l := tables_1) (i := 478) (by decide +kernel))) rfl
theorem lk_L_93 : jLv RL 93 mX4_hush 2 := ⟨⟨tl_478, tw_1, tw_481, by decide +kernel⟩, tw_479, tw_480⟩
theorem tl_972 : Cond.methodLink RL 96 yX5_hush ∈ jW := jW_of (List.mem_append_right _ (List.mem_of_getElem? (l := tables_1) (i := 972) (by decide +kernel))) rfl
theorem tl_975 : Cond.code yX5_hush cX5_hush 3 (some .int) ∈ jW := jW_of (List.mem_append_right _ (List.mem_of_getElem? (l := tables_1) (i := 975) (by decide +kernel))) rfl
theorem tl_973 : Cond.instanceMethod yX5_hush ∈ jW := jW_of (List.mem_append_right _ (List.mem_of_getElem? (l := tables_1) (i := 973) (by decide +kernel))) rfl
theorem tl_974 : Cond.selects RX5 yX5_hush yX5_hush ∈ jW := jW_of (List.mem_append_right _ (List.mem_of_getElem? (l := tables_1) (i := 974) (by decide +kernel))) rfl
theorem lk_L_96 : jLv RL 96 mX5_hush 2 := ⟨⟨tl_972, tw_6, tl_975, by decide +kernel⟩, tl_973, tl_974⟩
set_option maxRecDepth 20000 in
theorem lc_19 {E : jE} {p : Program} {e : Env} {s : State} {m : MethodId} {below : List Frame} {meth : Method} {c : Code} {b L : Nat} {xs : Nat → Int32} {H : jH} {i : Int} (C : lC E p s m meth c b L xs) (h0 : 0 ≤ i) (hi : i + 6 ≤ L) (hr : REL H) (next : ∀ H2, REL H2 → lWP E p e s m below meth c b 1272 [some (.ref b), some (jRF E 0), some (jRF E 56), some (.int (jI i))] [] H2) : lWP E p e s m below meth c b 679 [some (.ref b), some (jRF E 0), some (jRF E 56), some (.int (jI i))] [] H := by
  refine l_aload C 680 rfl rfl rfl dL_law_679 ?_
  refine l_aload C 681 rfl rfl rfl dL_law_680 ?_
  refine l_iload C 682 rfl rfl dL_law_681 ?_
  refine l_iconst C 683 rfl dL_law_682 ?_
  refine l_iadd C 684 rfl dL_law_683 ?_
  refine l_sld C 685 rfl (by omega) dL_law_684 ?_
  refine l_aload C 686 rfl rfl rfl dL_law_685 ?_
  refine l_iload C 687 rfl rfl dL_law_686 ?_
  refine l_iconst C 688 rfl dL_law_687 ?_
  refine l_iadd C 689 rfl dL_law_688 ?_
  refine l_sld C 690 rfl (by omega) dL_law_689 ?_
  refine l_calli C (k0 := 0) (ci := 4) 693 rfl [.int (jI (xv xs (i + 1))), .int (jI (xv xs (i + 2)))] dL_law_690 lk_L_93 rfl rfl (by decide) rfl rfl rfl rfl (q_hush (xv_r xs _) (xv_r xs _) hr) (fun r H1 h1 => ?_)
  refine l_aload C 694 rfl rfl rfl dL_law_693 ?_
  refine l_aload C 695 rfl rfl rfl dL_law_694 ?_
  refine l_iload C 696 rfl rfl dL_law_695 ?_
  refine l_iconst C 697 rfl dL_law_696 ?_
  refine l_iadd C 698 rfl dL_law_697 ?_
  refine l_sld C 699 rfl (by omega) dL_law_698 ?_
  refine l_aload C 700 rfl rfl rfl dL_law_699 ?_
  refine l_iload C 701 rfl rfl dL_law_700 ?_
  refine l_iconst C 702 rfl dL_law_701 ?_
  refine l_iadd C 703 rfl dL_law_702 ?_
  refine l_sld C 704 rfl (by omega) dL_law_703 ?_
  refine l_calli C (k0 := 56) (ci := 5) 707 rfl [.int (jI (xv xs (i + 1))), .int (jI (xv xs (i + 2)))] dL_law_704 lk_L_96 rfl rfl (by decide) rfl rfl rfl rfl h1 (fun r2 H2 h2 => ?_)
  obtain ⟨rfl, h3⟩ := h2
  exact l_eq C 1272 rfl dL_law_707 (next H2 h3)
theorem tl_490 : Cond.methodLink RL 97 yX4_shelf ∈ jW := jW_of (List.mem_append_right _ (List.mem_of_getElem? (l := tables_1) (i := 490) (by decide +kernel))) rfl
theorem lk_L_97 : jLv RL 97 mX4_shelf 3 := ⟨⟨tl_490, tw_1, tw_493, by decide +kernel⟩, tw_491, tw_492⟩
theorem tl_983 : Cond.methodLink RL 100 yX5_shelf ∈ jW := jW_of (List.mem_append_right _ (List.mem_of_getElem? (l := tables_1) (i := 983) (by decide +kernel))) rfl
theorem lk_L_100 : jLv RL 100 mX5_shelf 3 := ⟨⟨tl_983, tw_6, tw_986, by decide +kernel⟩, tw_984, tw_985⟩
set_option maxRecDepth 20000 in
theorem lc_20 {E : jE} {p : Program} {e : Env} {s : State} {m : MethodId} {below : List Frame} {meth : Method} {c : Code} {b L : Nat} {xs : Nat → Int32} {H : jH} {i : Int} (C : lC E p s m meth c b L xs) (h0 : 0 ≤ i) (hi : i + 6 ≤ L) (hr : REL H) (next : ∀ H2, REL H2 → lWP E p e s m below meth c b 1272 [some (.ref b), some (jRF E 0), some (jRF E 56), some (.int (jI i))] [] H2) : lWP E p e s m below meth c b 712 [some (.ref b), some (jRF E 0), some (jRF E 56), some (.int (jI i))] [] H := by
  refine l_aload C 713 rfl rfl rfl dL_law_712 ?_
  refine l_aload C 714 rfl rfl rfl dL_law_713 ?_
  refine l_iload C 715 rfl rfl dL_law_714 ?_
  refine l_iconst C 716 rfl dL_law_715 ?_
  refine l_iadd C 717 rfl dL_law_716 ?_
  refine l_sld C 718 rfl (by omega) dL_law_717 ?_
  refine l_aload C 719 rfl rfl rfl dL_law_718 ?_
  refine l_iload C 720 rfl rfl dL_law_719 ?_
  refine l_iconst C 721 rfl dL_law_720 ?_
  refine l_iadd C 722 rfl dL_law_721 ?_
  refine l_sld C 723 rfl (by omega) dL_law_722 ?_
  refine l_aload C 724 rfl rfl rfl dL_law_723 ?_
  refine l_iload C 725 rfl rfl dL_law_724 ?_
  refine l_iconst C 726 rfl dL_law_725 ?_
  refine l_iadd C 727 rfl dL_law_726 ?_
  refine l_sld C 728 rfl (by omega) dL_law_727 ?_
  refine l_calli C (k0 := 0) (ci := 4) 731 rfl [.int (jI (xv xs (i + 1))), .int (jI (xv xs (i + 2))), .int (jI (xv xs (i + 3)))] dL_law_728 lk_L_97 rfl rfl (by decide) rfl rfl rfl rfl (q_shelf (xv_r xs _) (xv_r xs _) (xv_r xs _) hr) (fun r H1 h1 => ?_)
  refine l_aload C 732 rfl rfl rfl dL_law_731 ?_
  refine l_aload C 733 rfl rfl rfl dL_law_732 ?_
  refine l_iload C 734 rfl rfl dL_law_733 ?_
  refine l_iconst C 735 rfl dL_law_734 ?_
  refine l_iadd C 736 rfl dL_law_735 ?_
  refine l_sld C 737 rfl (by omega) dL_law_736 ?_
  refine l_aload C 738 rfl rfl rfl dL_law_737 ?_
  refine l_iload C 739 rfl rfl dL_law_738 ?_
  refine l_iconst C 740 rfl dL_law_739 ?_
  refine l_iadd C 741 rfl dL_law_740 ?_
  refine l_sld C 742 rfl (by omega) dL_law_741 ?_
  refine l_aload C 743 rfl rfl rfl dL_law_742 ?_
  refine l_iload C 744 rfl rfl dL_law_743 ?_
  refine l_iconst C 745 rfl dL_law_744 ?_
  refine l_iadd C 746 rfl dL_law_745 ?_
  refine l_sld C 747 rfl (by omega) dL_law_746 ?_
  refine l_calli C (k0 := 56) (ci := 5) 750 rfl [.int (jI (xv xs (i + 1))), .int (jI (xv xs (i + 2))), .int (jI (xv xs (i + 3)))] dL_law_747 lk_L_100 rfl rfl (by decide) rfl rfl rfl rfl h1 (fun r2 H2 h2 => ?_)
  obtain ⟨rfl, h3⟩ := h2
  exact l_eq C 1272 rfl dL_law_750 (next H2 h3)
theorem tl_508 : Cond.methodLink RL 101 yX4_heard ∈ jW := jW_of (List.mem_append_right _ (List.mem_of_getElem? (l := tables_1) (i := 508) (by decide +kernel))) rfl
theorem tl_511 : Cond.code yX4_heard cX4_heard 3 (some .int) ∈ jW := jW_of (List.mem_append_right _ (List.mem_of_getElem? (l := tables_1) (i := 511) (by decide +kernel))) rfl
theorem tl_509 : Cond.instanceMethod yX4_heard ∈ jW := jW_of (List.mem_append_right _ (List.mem_of_getElem? (l := tables_1) (i := 509) (by decide +kernel))) rfl
theorem tl_510 : Cond.selects RX4 yX4_heard yX4_heard ∈ jW := jW_of (List.mem_append_right _ (List.mem_of_getElem? (l := tables_1) (i := 510) (by decide +kernel))) rfl
theorem lk_L_101 : jLv RL 101 mX4_heard 2 := ⟨⟨tl_508, tw_1, tl_511, by decide +kernel⟩, tl_509, tl_510⟩
theorem tl_1007 : Cond.methodLink RL 104 yX5_heard ∈ jW := jW_of (List.mem_append_right _ (List.mem_of_getElem? (l := tables_1) (i := 1007) (by decide +kernel))) rfl
theorem tl_1010 : Cond.code yX5_heard cX5_heard 3 (some .int) ∈ jW := jW_of (List.mem_append_right _ (List.mem_of_getElem? (l := tables_1) (i := 1010) (by decide +kernel))) rfl
theorem tl_1008 : Cond.instanceMethod yX5_heard ∈ jW := jW_of (List.mem_append_right _ (List.mem_of_getElem? (l := tables_1) (i := 1008) (by decide +kernel))) rfl
theorem tl_1009 : Cond.selects RX5 yX5_heard yX5_heard ∈ jW := jW_of (List.mem_append_right _ (List.mem_of_getElem? (l := tables_1) (i := 1009) (by decide +kernel))) rfl
theorem lk_L_104 : jLv RL 104 mX5_heard 2 := ⟨⟨tl_1007, tw_6, tl_1010, by decide +kernel⟩, tl_1008, tl_1009⟩
set_option maxRecDepth 20000 in
theorem lc_21 {E : jE} {p : Program} {e : Env} {s : State} {m : MethodId} {below : List Frame} {meth : Method} {c : Code} {b L : Nat} {xs : Nat → Int32} {H : jH} {i : Int} (C : lC E p s m meth c b L xs) (h0 : 0 ≤ i) (hi : i + 6 ≤ L) (hr : REL H) (next : ∀ H2, REL H2 → lWP E p e s m below meth c b 1272 [some (.ref b), some (jRF E 0), some (jRF E 56), some (.int (jI i))] [] H2) : lWP E p e s m below meth c b 755 [some (.ref b), some (jRF E 0), some (jRF E 56), some (.int (jI i))] [] H := by
  refine l_aload C 756 rfl rfl rfl dL_law_755 ?_
  refine l_aload C 757 rfl rfl rfl dL_law_756 ?_
  refine l_iload C 758 rfl rfl dL_law_757 ?_
  refine l_iconst C 759 rfl dL_law_758 ?_
  refine l_iadd C 760 rfl dL_law_759 ?_
  refine l_sld C 761 rfl (by omega) dL_law_760 ?_
  refine l_aload C 762 rfl rfl rfl dL_law_761 ?_
  refine l_iload C 763 rfl rfl dL_law_762 ?_
  refine l_iconst C 764 rfl dL_law_763 ?_
  refine l_iadd C 765 rfl dL_law_764 ?_
  refine l_sld C 766 rfl (by omega) dL_law_765 ?_
  refine l_calli C (k0 := 0) (ci := 4) 769 rfl [.int (jI (xv xs (i + 1))), .int (jI (xv xs (i + 2)))] dL_law_766 lk_L_101 rfl rfl (by decide) rfl rfl rfl rfl (q_heard (xv_r xs _) (xv_r xs _) hr) (fun r H1 h1 => ?_)
  refine l_aload C 770 rfl rfl rfl dL_law_769 ?_
  refine l_aload C 771 rfl rfl rfl dL_law_770 ?_
  refine l_iload C 772 rfl rfl dL_law_771 ?_
  refine l_iconst C 773 rfl dL_law_772 ?_
  refine l_iadd C 774 rfl dL_law_773 ?_
  refine l_sld C 775 rfl (by omega) dL_law_774 ?_
  refine l_aload C 776 rfl rfl rfl dL_law_775 ?_
  refine l_iload C 777 rfl rfl dL_law_776 ?_
  refine l_iconst C 778 rfl dL_law_777 ?_
  refine l_iadd C 779 rfl dL_law_778 ?_
  refine l_sld C 780 rfl (by omega) dL_law_779 ?_
  refine l_calli C (k0 := 56) (ci := 5) 783 rfl [.int (jI (xv xs (i + 1))), .int (jI (xv xs (i + 2)))] dL_law_780 lk_L_104 rfl rfl (by decide) rfl rfl rfl rfl h1 (fun r2 H2 h2 => ?_)
  obtain ⟨rfl, h3⟩ := h2
  exact l_eq C 1272 rfl dL_law_783 (next H2 h3)
theorem tl_512 : Cond.methodLink RL 105 yX4_forget ∈ jW := jW_of (List.mem_append_right _ (List.mem_of_getElem? (l := tables_1) (i := 512) (by decide +kernel))) rfl
theorem tl_515 : Cond.code yX4_forget cX4_forget 2 (some .int) ∈ jW := jW_of (List.mem_append_right _ (List.mem_of_getElem? (l := tables_1) (i := 515) (by decide +kernel))) rfl
theorem tl_513 : Cond.instanceMethod yX4_forget ∈ jW := jW_of (List.mem_append_right _ (List.mem_of_getElem? (l := tables_1) (i := 513) (by decide +kernel))) rfl
theorem tl_514 : Cond.selects RX4 yX4_forget yX4_forget ∈ jW := jW_of (List.mem_append_right _ (List.mem_of_getElem? (l := tables_1) (i := 514) (by decide +kernel))) rfl
theorem lk_L_105 : jLv RL 105 mX4_forget 0 := ⟨⟨tl_512, tw_1, tl_515, by decide +kernel⟩, tl_513, tl_514⟩
theorem tl_1012 : Cond.methodLink RL 108 yX5_forget ∈ jW := jW_of (List.mem_append_right _ (List.mem_of_getElem? (l := tables_1) (i := 1012) (by decide +kernel))) rfl
theorem tl_1015 : Cond.code yX5_forget cX5_forget 2 (some .int) ∈ jW := jW_of (List.mem_append_right _ (List.mem_of_getElem? (l := tables_1) (i := 1015) (by decide +kernel))) rfl
theorem tl_1013 : Cond.instanceMethod yX5_forget ∈ jW := jW_of (List.mem_append_right _ (List.mem_of_getElem? (l := tables_1) (i := 1013) (by decide +kernel))) rfl
theorem tl_1014 : Cond.selects RX5 yX5_forget yX5_forget ∈ jW := jW_of (List.mem_append_right _ (List.mem_of_getElem? (l := tables_1) (i := 1014) (by decide +kernel))) rfl
theorem lk_L_108 : jLv RL 108 mX5_forget 0 := ⟨⟨tl_1012, tw_6, tl_1015, by decide +kernel⟩, tl_1013, tl_1014⟩
set_option maxRecDepth 20000 in
theorem lc_22 {E : jE} {p : Program} {e : Env} {s : State} {m : MethodId} {below : List Frame} {meth : Method} {c : Code} {b L : Nat} {xs : Nat → Int32} {H : jH} {i : Int} (C : lC E p s m meth c b L xs) (h0 : 0 ≤ i) (hi : i + 6 ≤ L) (hr : REL H) (next : ∀ H2, REL H2 → lWP E p e s m below meth c b 1272 [some (.ref b), some (jRF E 0), some (jRF E 56), some (.int (jI i))] [] H2) : lWP E p e s m below meth c b 788 [some (.ref b), some (jRF E 0), some (jRF E 56), some (.int (jI i))] [] H := by
  refine l_aload C 789 rfl rfl rfl dL_law_788 ?_
  refine l_calli C (k0 := 0) (ci := 4) 792 rfl [] dL_law_789 lk_L_105 rfl rfl (by decide) rfl rfl rfl rfl (q_forget  hr) (fun r H1 h1 => ?_)
  refine l_aload C 793 rfl rfl rfl dL_law_792 ?_
  refine l_calli C (k0 := 56) (ci := 5) 796 rfl [] dL_law_793 lk_L_108 rfl rfl (by decide) rfl rfl rfl rfl h1 (fun r2 H2 h2 => ?_)
  obtain ⟨rfl, h3⟩ := h2
  exact l_eq C 1272 rfl dL_law_796 (next H2 h3)
theorem tl_516 : Cond.methodLink RL 109 yX4_learn ∈ jW := jW_of (List.mem_append_right _ (List.mem_of_getElem? (l := tables_1) (i := 516) (by decide +kernel))) rfl
theorem lk_L_109 : jLv RL 109 mX4_learn 2 := ⟨⟨tl_516, tw_1, tw_519, by decide +kernel⟩, tw_517, tw_518⟩
theorem tl_1016 : Cond.methodLink RL 112 yX5_learn ∈ jW := jW_of (List.mem_append_right _ (List.mem_of_getElem? (l := tables_1) (i := 1016) (by decide +kernel))) rfl
theorem tl_1019 : Cond.code yX5_learn cX5_learn 3 (some .int) ∈ jW := jW_of (List.mem_append_right _ (List.mem_of_getElem? (l := tables_1) (i := 1019) (by decide +kernel))) rfl
theorem tl_1017 : Cond.instanceMethod yX5_learn ∈ jW := jW_of (List.mem_append_right _ (List.mem_of_getElem? (l := tables_1) (i := 1017) (by decide +kernel))) rfl
theorem tl_1018 : Cond.selects RX5 yX5_learn yX5_learn ∈ jW := jW_of (List.mem_append_right _ (List.mem_of_getElem? (l := tables_1) (i := 1018) (by decide +kernel))) rfl
theorem lk_L_112 : jLv RL 112 mX5_learn 2 := ⟨⟨tl_1016, tw_6, tl_1019, by decide +kernel⟩, tl_1017, tl_1018⟩
set_option maxRecDepth 20000 in
theorem lc_23 {E : jE} {p : Program} {e : Env} {s : State} {m : MethodId} {below : List Frame} {meth : Method} {c : Code} {b L : Nat} {xs : Nat → Int32} {H : jH} {i : Int} (C : lC E p s m meth c b L xs) (h0 : 0 ≤ i) (hi : i + 6 ≤ L) (hr : REL H) (next : ∀ H2, REL H2 → lWP E p e s m below meth c b 1272 [some (.ref b), some (jRF E 0), some (jRF E 56), some (.int (jI i))] [] H2) : lWP E p e s m below meth c b 801 [some (.ref b), some (jRF E 0), some (jRF E 56), some (.int (jI i))] [] H := by
  refine l_aload C 802 rfl rfl rfl dL_law_801 ?_
  refine l_aload C 803 rfl rfl rfl dL_law_802 ?_
  refine l_iload C 804 rfl rfl dL_law_803 ?_
  refine l_iconst C 805 rfl dL_law_804 ?_
  refine l_iadd C 806 rfl dL_law_805 ?_
  refine l_sld C 807 rfl (by omega) dL_law_806 ?_
  refine l_aload C 808 rfl rfl rfl dL_law_807 ?_
  refine l_iload C 809 rfl rfl dL_law_808 ?_
  refine l_iconst C 810 rfl dL_law_809 ?_
  refine l_iadd C 811 rfl dL_law_810 ?_
  refine l_sld C 812 rfl (by omega) dL_law_811 ?_
  refine l_calli C (k0 := 0) (ci := 4) 815 rfl [.int (jI (xv xs (i + 1))), .int (jI (xv xs (i + 2)))] dL_law_812 lk_L_109 rfl rfl (by decide) rfl rfl rfl rfl (q_learn (xv_r xs _) (xv_r xs _) hr) (fun r H1 h1 => ?_)
  refine l_aload C 816 rfl rfl rfl dL_law_815 ?_
  refine l_aload C 817 rfl rfl rfl dL_law_816 ?_
  refine l_iload C 818 rfl rfl dL_law_817 ?_
  refine l_iconst C 819 rfl dL_law_818 ?_
  refine l_iadd C 820 rfl dL_law_819 ?_
  refine l_sld C 821 rfl (by omega) dL_law_820 ?_
  refine l_aload C 822 rfl rfl rfl dL_law_821 ?_
  refine l_iload C 823 rfl rfl dL_law_822 ?_
  refine l_iconst C 824 rfl dL_law_823 ?_
  refine l_iadd C 825 rfl dL_law_824 ?_
  refine l_sld C 826 rfl (by omega) dL_law_825 ?_
  refine l_calli C (k0 := 56) (ci := 5) 829 rfl [.int (jI (xv xs (i + 1))), .int (jI (xv xs (i + 2)))] dL_law_826 lk_L_112 rfl rfl (by decide) rfl rfl rfl rfl h1 (fun r2 H2 h2 => ?_)
  obtain ⟨rfl, h3⟩ := h2
  exact l_eq C 1272 rfl dL_law_829 (next H2 h3)
theorem tl_537 : Cond.methodLink RL 113 yX4_empty ∈ jW := jW_of (List.mem_append_right _ (List.mem_of_getElem? (l := tables_1) (i := 537) (by decide +kernel))) rfl
theorem lk_L_113 : jLv RL 113 mX4_empty 0 := ⟨⟨tl_537, tw_1, tw_540, by decide +kernel⟩, tw_538, tw_539⟩
theorem tl_1040 : Cond.methodLink RL 116 yX5_empty ∈ jW := jW_of (List.mem_append_right _ (List.mem_of_getElem? (l := tables_1) (i := 1040) (by decide +kernel))) rfl
theorem tl_1043 : Cond.code yX5_empty cX5_empty 1 (some .int) ∈ jW := jW_of (List.mem_append_right _ (List.mem_of_getElem? (l := tables_1) (i := 1043) (by decide +kernel))) rfl
theorem tl_1041 : Cond.instanceMethod yX5_empty ∈ jW := jW_of (List.mem_append_right _ (List.mem_of_getElem? (l := tables_1) (i := 1041) (by decide +kernel))) rfl
theorem tl_1042 : Cond.selects RX5 yX5_empty yX5_empty ∈ jW := jW_of (List.mem_append_right _ (List.mem_of_getElem? (l := tables_1) (i := 1042) (by decide +kernel))) rfl
theorem lk_L_116 : jLv RL 116 mX5_empty 0 := ⟨⟨tl_1040, tw_6, tl_1043, by decide +kernel⟩, tl_1041, tl_1042⟩
set_option maxRecDepth 20000 in
theorem lc_24 {E : jE} {p : Program} {e : Env} {s : State} {m : MethodId} {below : List Frame} {meth : Method} {c : Code} {b L : Nat} {xs : Nat → Int32} {H : jH} {i : Int} (C : lC E p s m meth c b L xs) (h0 : 0 ≤ i) (hi : i + 6 ≤ L) (hr : REL H) (next : ∀ H2, REL H2 → lWP E p e s m below meth c b 1272 [some (.ref b), some (jRF E 0), some (jRF E 56), some (.int (jI i))] [] H2) : lWP E p e s m below meth c b 834 [some (.ref b), some (jRF E 0), some (jRF E 56), some (.int (jI i))] [] H := by
  refine l_aload C 835 rfl rfl rfl dL_law_834 ?_
  refine l_calli C (k0 := 0) (ci := 4) 838 rfl [] dL_law_835 lk_L_113 rfl rfl (by decide) rfl rfl rfl rfl (q_empty  hr) (fun r H1 h1 => ?_)
  refine l_aload C 839 rfl rfl rfl dL_law_838 ?_
  refine l_calli C (k0 := 56) (ci := 5) 842 rfl [] dL_law_839 lk_L_116 rfl rfl (by decide) rfl rfl rfl rfl h1 (fun r2 H2 h2 => ?_)
  obtain ⟨rfl, h3⟩ := h2
  exact l_eq C 1272 rfl dL_law_842 (next H2 h3)
theorem tl_541 : Cond.methodLink RL 117 yX4_turn ∈ jW := jW_of (List.mem_append_right _ (List.mem_of_getElem? (l := tables_1) (i := 541) (by decide +kernel))) rfl
theorem lk_L_117 : jLv RL 117 mX4_turn 2 := ⟨⟨tl_541, tw_1, tw_544, by decide +kernel⟩, tw_542, tw_543⟩
theorem tl_1048 : Cond.methodLink RL 120 yX5_turn ∈ jW := jW_of (List.mem_append_right _ (List.mem_of_getElem? (l := tables_1) (i := 1048) (by decide +kernel))) rfl
theorem lk_L_120 : jLv RL 120 mX5_turn 2 := ⟨⟨tl_1048, tw_6, tw_1051, by decide +kernel⟩, tw_1049, tw_1050⟩
set_option maxRecDepth 20000 in
theorem lc_25 {E : jE} {p : Program} {e : Env} {s : State} {m : MethodId} {below : List Frame} {meth : Method} {c : Code} {b L : Nat} {xs : Nat → Int32} {H : jH} {i : Int} (C : lC E p s m meth c b L xs) (h0 : 0 ≤ i) (hi : i + 6 ≤ L) (hr : REL H) (next : ∀ H2, REL H2 → lWP E p e s m below meth c b 1272 [some (.ref b), some (jRF E 0), some (jRF E 56), some (.int (jI i))] [] H2) : lWP E p e s m below meth c b 847 [some (.ref b), some (jRF E 0), some (jRF E 56), some (.int (jI i))] [] H := by
  refine l_aload C 848 rfl rfl rfl dL_law_847 ?_
  refine l_aload C 849 rfl rfl rfl dL_law_848 ?_
  refine l_iload C 850 rfl rfl dL_law_849 ?_
  refine l_iconst C 851 rfl dL_law_850 ?_
  refine l_iadd C 852 rfl dL_law_851 ?_
  refine l_sld C 853 rfl (by omega) dL_law_852 ?_
  refine l_aload C 854 rfl rfl rfl dL_law_853 ?_
  refine l_iload C 855 rfl rfl dL_law_854 ?_
  refine l_iconst C 856 rfl dL_law_855 ?_
  refine l_iadd C 857 rfl dL_law_856 ?_
  refine l_sld C 858 rfl (by omega) dL_law_857 ?_
  refine l_calli C (k0 := 0) (ci := 4) 861 rfl [.int (jI (xv xs (i + 1))), .int (jI (xv xs (i + 2)))] dL_law_858 lk_L_117 rfl rfl (by decide) rfl rfl rfl rfl (q_turn (xv_r xs _) (xv_r xs _) hr) (fun r H1 h1 => ?_)
  refine l_aload C 862 rfl rfl rfl dL_law_861 ?_
  refine l_aload C 863 rfl rfl rfl dL_law_862 ?_
  refine l_iload C 864 rfl rfl dL_law_863 ?_
  refine l_iconst C 865 rfl dL_law_864 ?_
  refine l_iadd C 866 rfl dL_law_865 ?_
  refine l_sld C 867 rfl (by omega) dL_law_866 ?_
  refine l_aload C 868 rfl rfl rfl dL_law_867 ?_
  refine l_iload C 869 rfl rfl dL_law_868 ?_
  refine l_iconst C 870 rfl dL_law_869 ?_
  refine l_iadd C 871 rfl dL_law_870 ?_
  refine l_sld C 872 rfl (by omega) dL_law_871 ?_
  refine l_calli C (k0 := 56) (ci := 5) 875 rfl [.int (jI (xv xs (i + 1))), .int (jI (xv xs (i + 2)))] dL_law_872 lk_L_120 rfl rfl (by decide) rfl rfl rfl rfl h1 (fun r2 H2 h2 => ?_)
  obtain ⟨rfl, h3⟩ := h2
  exact l_eq C 1272 rfl dL_law_875 (next H2 h3)
theorem tl_550 : Cond.methodLink RL 121 yX4_looks ∈ jW := jW_of (List.mem_append_right _ (List.mem_of_getElem? (l := tables_1) (i := 550) (by decide +kernel))) rfl
theorem lk_L_121 : jLv RL 121 mX4_looks 4 := ⟨⟨tl_550, tw_1, tw_553, by decide +kernel⟩, tw_551, tw_552⟩
theorem tl_1056 : Cond.methodLink RL 125 yX5_looks ∈ jW := jW_of (List.mem_append_right _ (List.mem_of_getElem? (l := tables_1) (i := 1056) (by decide +kernel))) rfl
theorem tl_1059 : Cond.code yX5_looks cX5_looks 5 (some .long) ∈ jW := jW_of (List.mem_append_right _ (List.mem_of_getElem? (l := tables_1) (i := 1059) (by decide +kernel))) rfl
theorem tl_1057 : Cond.instanceMethod yX5_looks ∈ jW := jW_of (List.mem_append_right _ (List.mem_of_getElem? (l := tables_1) (i := 1057) (by decide +kernel))) rfl
theorem tl_1058 : Cond.selects RX5 yX5_looks yX5_looks ∈ jW := jW_of (List.mem_append_right _ (List.mem_of_getElem? (l := tables_1) (i := 1058) (by decide +kernel))) rfl
theorem lk_L_125 : jLv RL 125 mX5_looks 4 := ⟨⟨tl_1056, tw_6, tl_1059, by decide +kernel⟩, tl_1057, tl_1058⟩
set_option maxRecDepth 20000 in
theorem lc_26 {E : jE} {p : Program} {e : Env} {s : State} {m : MethodId} {below : List Frame} {meth : Method} {c : Code} {b L : Nat} {xs : Nat → Int32} {H : jH} {i : Int} (C : lC E p s m meth c b L xs) (h0 : 0 ≤ i) (hi : i + 6 ≤ L) (hr : REL H) (next : ∀ H2, REL H2 → lWP E p e s m below meth c b 1272 [some (.ref b), some (jRF E 0), some (jRF E 56), some (.int (jI i))] [] H2) : lWP E p e s m below meth c b 880 [some (.ref b), some (jRF E 0), some (jRF E 56), some (.int (jI i))] [] H := by
  refine l_aload C 881 rfl rfl rfl dL_law_880 ?_
  refine l_aload C 882 rfl rfl rfl dL_law_881 ?_
  refine l_iload C 883 rfl rfl dL_law_882 ?_
  refine l_iconst C 884 rfl dL_law_883 ?_
  refine l_iadd C 885 rfl dL_law_884 ?_
  refine l_sld C 886 rfl (by omega) dL_law_885 ?_
  refine l_aload C 887 rfl rfl rfl dL_law_886 ?_
  refine l_iload C 888 rfl rfl dL_law_887 ?_
  refine l_iconst C 889 rfl dL_law_888 ?_
  refine l_iadd C 890 rfl dL_law_889 ?_
  refine l_sld C 891 rfl (by omega) dL_law_890 ?_
  refine l_aload C 892 rfl rfl rfl dL_law_891 ?_
  refine l_iload C 893 rfl rfl dL_law_892 ?_
  refine l_iconst C 894 rfl dL_law_893 ?_
  refine l_iadd C 895 rfl dL_law_894 ?_
  refine l_sld C 896 rfl (by omega) dL_law_895 ?_
  refine l_aload C 897 rfl rfl rfl dL_law_896 ?_
  refine l_iload C 898 rfl rfl dL_law_897 ?_
  refine l_iconst C 899 rfl dL_law_898 ?_
  refine l_iadd C 900 rfl dL_law_899 ?_
  refine l_sld C 901 rfl (by omega) dL_law_900 ?_
  refine l_calll C (k0 := 0) (ci := 4) 904 rfl [.int (jI (xv xs (i + 1))), .int (jI (xv xs (i + 2))), .int (jI (xv xs (i + 3))), .int (jI (xv xs (i + 4)))] dL_law_901 lk_L_121 rfl rfl (by decide) rfl rfl rfl rfl (q_looks (xv_r xs _) (xv_r xs _) (xv_r xs _) (xv_r xs _) hr) (fun r H1 h1 => ?_)
  refine l_aload C 905 rfl rfl rfl dL_law_904 ?_
  refine l_aload C 906 rfl rfl rfl dL_law_905 ?_
  refine l_iload C 907 rfl rfl dL_law_906 ?_
  refine l_iconst C 908 rfl dL_law_907 ?_
  refine l_iadd C 909 rfl dL_law_908 ?_
  refine l_sld C 910 rfl (by omega) dL_law_909 ?_
  refine l_aload C 911 rfl rfl rfl dL_law_910 ?_
  refine l_iload C 912 rfl rfl dL_law_911 ?_
  refine l_iconst C 913 rfl dL_law_912 ?_
  refine l_iadd C 914 rfl dL_law_913 ?_
  refine l_sld C 915 rfl (by omega) dL_law_914 ?_
  refine l_aload C 916 rfl rfl rfl dL_law_915 ?_
  refine l_iload C 917 rfl rfl dL_law_916 ?_
  refine l_iconst C 918 rfl dL_law_917 ?_
  refine l_iadd C 919 rfl dL_law_918 ?_
  refine l_sld C 920 rfl (by omega) dL_law_919 ?_
  refine l_aload C 921 rfl rfl rfl dL_law_920 ?_
  refine l_iload C 922 rfl rfl dL_law_921 ?_
  refine l_iconst C 923 rfl dL_law_922 ?_
  refine l_iadd C 924 rfl dL_law_923 ?_
  refine l_sld C 925 rfl (by omega) dL_law_924 ?_
  refine l_calll C (k0 := 56) (ci := 5) 928 rfl [.int (jI (xv xs (i + 1))), .int (jI (xv xs (i + 2))), .int (jI (xv xs (i + 3))), .int (jI (xv xs (i + 4)))] dL_law_925 lk_L_125 rfl rfl (by decide) rfl rfl rfl rfl h1 (fun r2 H2 h2 => ?_)
  obtain ⟨rfl, h3⟩ := h2
  exact l_leq C 929 1272 rfl rfl dL_law_928 dL_law_929 (next H2 h3)
theorem tl_576 : Cond.methodLink RL 126 yX4_night ∈ jW := jW_of (List.mem_append_right _ (List.mem_of_getElem? (l := tables_1) (i := 576) (by decide +kernel))) rfl
theorem lk_L_126 : jLv RL 126 mX4_night 3 := ⟨⟨tl_576, tw_1, tw_579, by decide +kernel⟩, tw_577, tw_578⟩
theorem tl_1072 : Cond.methodLink RL 129 yX5_night ∈ jW := jW_of (List.mem_append_right _ (List.mem_of_getElem? (l := tables_1) (i := 1072) (by decide +kernel))) rfl
theorem tl_1075 : Cond.code yX5_night cX5_night 4 (some .int) ∈ jW := jW_of (List.mem_append_right _ (List.mem_of_getElem? (l := tables_1) (i := 1075) (by decide +kernel))) rfl
theorem tl_1073 : Cond.instanceMethod yX5_night ∈ jW := jW_of (List.mem_append_right _ (List.mem_of_getElem? (l := tables_1) (i := 1073) (by decide +kernel))) rfl
theorem tl_1074 : Cond.selects RX5 yX5_night yX5_night ∈ jW := jW_of (List.mem_append_right _ (List.mem_of_getElem? (l := tables_1) (i := 1074) (by decide +kernel))) rfl
theorem lk_L_129 : jLv RL 129 mX5_night 3 := ⟨⟨tl_1072, tw_6, tl_1075, by decide +kernel⟩, tl_1073, tl_1074⟩
set_option maxRecDepth 20000 in
theorem lc_27 {E : jE} {p : Program} {e : Env} {s : State} {m : MethodId} {below : List Frame} {meth : Method} {c : Code} {b L : Nat} {xs : Nat → Int32} {H : jH} {i : Int} (C : lC E p s m meth c b L xs) (h0 : 0 ≤ i) (hi : i + 6 ≤ L) (hr : REL H) (next : ∀ H2, REL H2 → lWP E p e s m below meth c b 1272 [some (.ref b), some (jRF E 0), some (jRF E 56), some (.int (jI i))] [] H2) : lWP E p e s m below meth c b 934 [some (.ref b), some (jRF E 0), some (jRF E 56), some (.int (jI i))] [] H := by
  refine l_aload C 935 rfl rfl rfl dL_law_934 ?_
  refine l_aload C 936 rfl rfl rfl dL_law_935 ?_
  refine l_iload C 937 rfl rfl dL_law_936 ?_
  refine l_iconst C 938 rfl dL_law_937 ?_
  refine l_iadd C 939 rfl dL_law_938 ?_
  refine l_sld C 940 rfl (by omega) dL_law_939 ?_
  refine l_aload C 941 rfl rfl rfl dL_law_940 ?_
  refine l_iload C 942 rfl rfl dL_law_941 ?_
  refine l_iconst C 943 rfl dL_law_942 ?_
  refine l_iadd C 944 rfl dL_law_943 ?_
  refine l_sld C 945 rfl (by omega) dL_law_944 ?_
  refine l_aload C 946 rfl rfl rfl dL_law_945 ?_
  refine l_iload C 947 rfl rfl dL_law_946 ?_
  refine l_iconst C 948 rfl dL_law_947 ?_
  refine l_iadd C 949 rfl dL_law_948 ?_
  refine l_sld C 950 rfl (by omega) dL_law_949 ?_
  refine l_calli C (k0 := 0) (ci := 4) 953 rfl [.int (jI (xv xs (i + 1))), .int (jI (xv xs (i + 2))), .int (jI (xv xs (i + 3)))] dL_law_950 lk_L_126 rfl rfl (by decide) rfl rfl rfl rfl (q_night (xv_r xs _) (xv_r xs _) hr) (fun r H1 h1 => ?_)
  refine l_aload C 954 rfl rfl rfl dL_law_953 ?_
  refine l_aload C 955 rfl rfl rfl dL_law_954 ?_
  refine l_iload C 956 rfl rfl dL_law_955 ?_
  refine l_iconst C 957 rfl dL_law_956 ?_
  refine l_iadd C 958 rfl dL_law_957 ?_
  refine l_sld C 959 rfl (by omega) dL_law_958 ?_
  refine l_aload C 960 rfl rfl rfl dL_law_959 ?_
  refine l_iload C 961 rfl rfl dL_law_960 ?_
  refine l_iconst C 962 rfl dL_law_961 ?_
  refine l_iadd C 963 rfl dL_law_962 ?_
  refine l_sld C 964 rfl (by omega) dL_law_963 ?_
  refine l_aload C 965 rfl rfl rfl dL_law_964 ?_
  refine l_iload C 966 rfl rfl dL_law_965 ?_
  refine l_iconst C 967 rfl dL_law_966 ?_
  refine l_iadd C 968 rfl dL_law_967 ?_
  refine l_sld C 969 rfl (by omega) dL_law_968 ?_
  refine l_calli C (k0 := 56) (ci := 5) 972 rfl [.int (jI (xv xs (i + 1))), .int (jI (xv xs (i + 2))), .int (jI (xv xs (i + 3)))] dL_law_969 lk_L_129 rfl rfl (by decide) rfl rfl rfl rfl h1 (fun r2 H2 h2 => ?_)
  obtain ⟨rfl, h3⟩ := h2
  exact l_eq C 1272 rfl dL_law_972 (next H2 h3)
theorem tl_581 : Cond.methodLink RL 130 yX4_sheet ∈ jW := jW_of (List.mem_append_right _ (List.mem_of_getElem? (l := tables_1) (i := 581) (by decide +kernel))) rfl
theorem tl_584 : Cond.code yX4_sheet cX4_sheet 4 (some .int) ∈ jW := jW_of (List.mem_append_right _ (List.mem_of_getElem? (l := tables_1) (i := 584) (by decide +kernel))) rfl
theorem tl_582 : Cond.instanceMethod yX4_sheet ∈ jW := jW_of (List.mem_append_right _ (List.mem_of_getElem? (l := tables_1) (i := 582) (by decide +kernel))) rfl
theorem tl_583 : Cond.selects RX4 yX4_sheet yX4_sheet ∈ jW := jW_of (List.mem_append_right _ (List.mem_of_getElem? (l := tables_1) (i := 583) (by decide +kernel))) rfl
theorem lk_L_130 : jLv RL 130 mX4_sheet 3 := ⟨⟨tl_581, tw_1, tl_584, by decide +kernel⟩, tl_582, tl_583⟩
theorem tl_764 : Cond.methodLink RL 133 yX5_sheet ∈ jW := jW_of (List.mem_append_right _ (List.mem_of_getElem? (l := tables_1) (i := 764) (by decide +kernel))) rfl
theorem tl_767 : Cond.code yX5_sheet cX5_sheet 5 (some .int) ∈ jW := jW_of (List.mem_append_right _ (List.mem_of_getElem? (l := tables_1) (i := 767) (by decide +kernel))) rfl
theorem tl_765 : Cond.instanceMethod yX5_sheet ∈ jW := jW_of (List.mem_append_right _ (List.mem_of_getElem? (l := tables_1) (i := 765) (by decide +kernel))) rfl
theorem tl_766 : Cond.selects RX5 yX5_sheet yX5_sheet ∈ jW := jW_of (List.mem_append_right _ (List.mem_of_getElem? (l := tables_1) (i := 766) (by decide +kernel))) rfl
theorem lk_L_133 : jLv RL 133 mX5_sheet 3 := ⟨⟨tl_764, tw_6, tl_767, by decide +kernel⟩, tl_765, tl_766⟩
set_option maxRecDepth 20000 in
theorem lc_28 {E : jE} {p : Program} {e : Env} {s : State} {m : MethodId} {below : List Frame} {meth : Method} {c : Code} {b L : Nat} {xs : Nat → Int32} {H : jH} {i : Int} (C : lC E p s m meth c b L xs) (h0 : 0 ≤ i) (hi : i + 6 ≤ L) (hr : REL H) (next : ∀ H2, REL H2 → lWP E p e s m below meth c b 1272 [some (.ref b), some (jRF E 0), some (jRF E 56), some (.int (jI i))] [] H2) : lWP E p e s m below meth c b 977 [some (.ref b), some (jRF E 0), some (jRF E 56), some (.int (jI i))] [] H := by
  refine l_aload C 978 rfl rfl rfl dL_law_977 ?_
  refine l_aload C 979 rfl rfl rfl dL_law_978 ?_
  refine l_iload C 980 rfl rfl dL_law_979 ?_
  refine l_iconst C 981 rfl dL_law_980 ?_
  refine l_iadd C 982 rfl dL_law_981 ?_
  refine l_sld C 983 rfl (by omega) dL_law_982 ?_
  refine l_aload C 984 rfl rfl rfl dL_law_983 ?_
  refine l_iload C 985 rfl rfl dL_law_984 ?_
  refine l_iconst C 986 rfl dL_law_985 ?_
  refine l_iadd C 987 rfl dL_law_986 ?_
  refine l_sld C 988 rfl (by omega) dL_law_987 ?_
  refine l_aload C 989 rfl rfl rfl dL_law_988 ?_
  refine l_iload C 990 rfl rfl dL_law_989 ?_
  refine l_iconst C 991 rfl dL_law_990 ?_
  refine l_iadd C 992 rfl dL_law_991 ?_
  refine l_sld C 993 rfl (by omega) dL_law_992 ?_
  refine l_calli C (k0 := 0) (ci := 4) 996 rfl [.int (jI (xv xs (i + 1))), .int (jI (xv xs (i + 2))), .int (jI (xv xs (i + 3)))] dL_law_993 lk_L_130 rfl rfl (by decide) rfl rfl rfl rfl (q_sheet (xv_r xs _) (xv_r xs _) (xv_r xs _) hr) (fun r H1 h1 => ?_)
  refine l_aload C 997 rfl rfl rfl dL_law_996 ?_
  refine l_aload C 998 rfl rfl rfl dL_law_997 ?_
  refine l_iload C 999 rfl rfl dL_law_998 ?_
  refine l_iconst C 1000 rfl dL_law_999 ?_
  refine l_iadd C 1001 rfl dL_law_1000 ?_
  refine l_sld C 1002 rfl (by omega) dL_law_1001 ?_
  refine l_aload C 1003 rfl rfl rfl dL_law_1002 ?_
  refine l_iload C 1004 rfl rfl dL_law_1003 ?_
  refine l_iconst C 1005 rfl dL_law_1004 ?_
  refine l_iadd C 1006 rfl dL_law_1005 ?_
  refine l_sld C 1007 rfl (by omega) dL_law_1006 ?_
  refine l_aload C 1008 rfl rfl rfl dL_law_1007 ?_
  refine l_iload C 1009 rfl rfl dL_law_1008 ?_
  refine l_iconst C 1010 rfl dL_law_1009 ?_
  refine l_iadd C 1011 rfl dL_law_1010 ?_
  refine l_sld C 1012 rfl (by omega) dL_law_1011 ?_
  refine l_calli C (k0 := 56) (ci := 5) 1015 rfl [.int (jI (xv xs (i + 1))), .int (jI (xv xs (i + 2))), .int (jI (xv xs (i + 3)))] dL_law_1012 lk_L_133 rfl rfl (by decide) rfl rfl rfl rfl h1 (fun r2 H2 h2 => ?_)
  obtain ⟨rfl, h3⟩ := h2
  exact l_eq C 1272 rfl dL_law_1015 (next H2 h3)
theorem tl_593 : Cond.methodLink RL 134 yX4_lose ∈ jW := jW_of (List.mem_append_right _ (List.mem_of_getElem? (l := tables_1) (i := 593) (by decide +kernel))) rfl
theorem tl_596 : Cond.code yX4_lose cX4_lose 2 (some .int) ∈ jW := jW_of (List.mem_append_right _ (List.mem_of_getElem? (l := tables_1) (i := 596) (by decide +kernel))) rfl
theorem tl_594 : Cond.instanceMethod yX4_lose ∈ jW := jW_of (List.mem_append_right _ (List.mem_of_getElem? (l := tables_1) (i := 594) (by decide +kernel))) rfl
theorem tl_595 : Cond.selects RX4 yX4_lose yX4_lose ∈ jW := jW_of (List.mem_append_right _ (List.mem_of_getElem? (l := tables_1) (i := 595) (by decide +kernel))) rfl
theorem lk_L_134 : jLv RL 134 mX4_lose 1 := ⟨⟨tl_593, tw_1, tl_596, by decide +kernel⟩, tl_594, tl_595⟩
theorem tl_780 : Cond.methodLink RL 137 yX5_lose ∈ jW := jW_of (List.mem_append_right _ (List.mem_of_getElem? (l := tables_1) (i := 780) (by decide +kernel))) rfl
theorem tl_783 : Cond.code yX5_lose cX5_lose 2 (some .int) ∈ jW := jW_of (List.mem_append_right _ (List.mem_of_getElem? (l := tables_1) (i := 783) (by decide +kernel))) rfl
theorem tl_781 : Cond.instanceMethod yX5_lose ∈ jW := jW_of (List.mem_append_right _ (List.mem_of_getElem? (l := tables_1) (i := 781) (by decide +kernel))) rfl
theorem tl_782 : Cond.selects RX5 yX5_lose yX5_lose ∈ jW := jW_of (List.mem_append_right _ (List.mem_of_getElem? (l := tables_1) (i := 782) (by decide +kernel))) rfl
theorem lk_L_137 : jLv RL 137 mX5_lose 1 := ⟨⟨tl_780, tw_6, tl_783, by decide +kernel⟩, tl_781, tl_782⟩
set_option maxRecDepth 20000 in
theorem lc_29 {E : jE} {p : Program} {e : Env} {s : State} {m : MethodId} {below : List Frame} {meth : Method} {c : Code} {b L : Nat} {xs : Nat → Int32} {H : jH} {i : Int} (C : lC E p s m meth c b L xs) (h0 : 0 ≤ i) (hi : i + 6 ≤ L) (hr : REL H) (next : ∀ H2, REL H2 → lWP E p e s m below meth c b 1272 [some (.ref b), some (jRF E 0), some (jRF E 56), some (.int (jI i))] [] H2) : lWP E p e s m below meth c b 1020 [some (.ref b), some (jRF E 0), some (jRF E 56), some (.int (jI i))] [] H := by
  refine l_aload C 1021 rfl rfl rfl dL_law_1020 ?_
  refine l_aload C 1022 rfl rfl rfl dL_law_1021 ?_
  refine l_iload C 1023 rfl rfl dL_law_1022 ?_
  refine l_iconst C 1024 rfl dL_law_1023 ?_
  refine l_iadd C 1025 rfl dL_law_1024 ?_
  refine l_sld C 1026 rfl (by omega) dL_law_1025 ?_
  refine l_calli C (k0 := 0) (ci := 4) 1029 rfl [.int (jI (xv xs (i + 1)))] dL_law_1026 lk_L_134 rfl rfl (by decide) rfl rfl rfl rfl (q_lose (xv_r xs _) hr) (fun r H1 h1 => ?_)
  refine l_aload C 1030 rfl rfl rfl dL_law_1029 ?_
  refine l_aload C 1031 rfl rfl rfl dL_law_1030 ?_
  refine l_iload C 1032 rfl rfl dL_law_1031 ?_
  refine l_iconst C 1033 rfl dL_law_1032 ?_
  refine l_iadd C 1034 rfl dL_law_1033 ?_
  refine l_sld C 1035 rfl (by omega) dL_law_1034 ?_
  refine l_calli C (k0 := 56) (ci := 5) 1038 rfl [.int (jI (xv xs (i + 1)))] dL_law_1035 lk_L_137 rfl rfl (by decide) rfl rfl rfl rfl h1 (fun r2 H2 h2 => ?_)
  obtain ⟨rfl, h3⟩ := h2
  exact l_eq C 1272 rfl dL_law_1038 (next H2 h3)
theorem tl_597 : Cond.methodLink RL 138 yX4_lay ∈ jW := jW_of (List.mem_append_right _ (List.mem_of_getElem? (l := tables_1) (i := 597) (by decide +kernel))) rfl
theorem tl_600 : Cond.code yX4_lay cX4_lay 6 (some .int) ∈ jW := jW_of (List.mem_append_right _ (List.mem_of_getElem? (l := tables_1) (i := 600) (by decide +kernel))) rfl
theorem tl_598 : Cond.instanceMethod yX4_lay ∈ jW := jW_of (List.mem_append_right _ (List.mem_of_getElem? (l := tables_1) (i := 598) (by decide +kernel))) rfl
theorem tl_599 : Cond.selects RX4 yX4_lay yX4_lay ∈ jW := jW_of (List.mem_append_right _ (List.mem_of_getElem? (l := tables_1) (i := 599) (by decide +kernel))) rfl
theorem lk_L_138 : jLv RL 138 mX4_lay 4 := ⟨⟨tl_597, tw_1, tl_600, by decide +kernel⟩, tl_598, tl_599⟩
theorem tl_784 : Cond.methodLink RL 142 yX5_lay ∈ jW := jW_of (List.mem_append_right _ (List.mem_of_getElem? (l := tables_1) (i := 784) (by decide +kernel))) rfl
theorem tl_787 : Cond.code yX5_lay cX5_lay 6 (some .int) ∈ jW := jW_of (List.mem_append_right _ (List.mem_of_getElem? (l := tables_1) (i := 787) (by decide +kernel))) rfl
theorem tl_785 : Cond.instanceMethod yX5_lay ∈ jW := jW_of (List.mem_append_right _ (List.mem_of_getElem? (l := tables_1) (i := 785) (by decide +kernel))) rfl
theorem tl_786 : Cond.selects RX5 yX5_lay yX5_lay ∈ jW := jW_of (List.mem_append_right _ (List.mem_of_getElem? (l := tables_1) (i := 786) (by decide +kernel))) rfl
theorem lk_L_142 : jLv RL 142 mX5_lay 4 := ⟨⟨tl_784, tw_6, tl_787, by decide +kernel⟩, tl_785, tl_786⟩
set_option maxRecDepth 20000 in
theorem lc_30 {E : jE} {p : Program} {e : Env} {s : State} {m : MethodId} {below : List Frame} {meth : Method} {c : Code} {b L : Nat} {xs : Nat → Int32} {H : jH} {i : Int} (C : lC E p s m meth c b L xs) (h0 : 0 ≤ i) (hi : i + 6 ≤ L) (hr : REL H) (next : ∀ H2, REL H2 → lWP E p e s m below meth c b 1272 [some (.ref b), some (jRF E 0), some (jRF E 56), some (.int (jI i))] [] H2) : lWP E p e s m below meth c b 1043 [some (.ref b), some (jRF E 0), some (jRF E 56), some (.int (jI i))] [] H := by
  refine l_aload C 1044 rfl rfl rfl dL_law_1043 ?_
  refine l_aload C 1045 rfl rfl rfl dL_law_1044 ?_
  refine l_iload C 1046 rfl rfl dL_law_1045 ?_
  refine l_iconst C 1047 rfl dL_law_1046 ?_
  refine l_iadd C 1048 rfl dL_law_1047 ?_
  refine l_sld C 1049 rfl (by omega) dL_law_1048 ?_
  refine l_aload C 1050 rfl rfl rfl dL_law_1049 ?_
  refine l_iload C 1051 rfl rfl dL_law_1050 ?_
  refine l_iconst C 1052 rfl dL_law_1051 ?_
  refine l_iadd C 1053 rfl dL_law_1052 ?_
  refine l_sld C 1054 rfl (by omega) dL_law_1053 ?_
  refine l_aload C 1055 rfl rfl rfl dL_law_1054 ?_
  refine l_iload C 1056 rfl rfl dL_law_1055 ?_
  refine l_iconst C 1057 rfl dL_law_1056 ?_
  refine l_iadd C 1058 rfl dL_law_1057 ?_
  refine l_sld C 1059 rfl (by omega) dL_law_1058 ?_
  refine l_aload C 1060 rfl rfl rfl dL_law_1059 ?_
  refine l_iload C 1061 rfl rfl dL_law_1060 ?_
  refine l_iconst C 1062 rfl dL_law_1061 ?_
  refine l_iadd C 1063 rfl dL_law_1062 ?_
  refine l_sld C 1064 rfl (by omega) dL_law_1063 ?_
  refine l_calli C (k0 := 0) (ci := 4) 1067 rfl [.int (jI (xv xs (i + 1))), .int (jI (xv xs (i + 2))), .int (jI (xv xs (i + 3))), .int (jI (xv xs (i + 4)))] dL_law_1064 lk_L_138 rfl rfl (by decide) rfl rfl rfl rfl (q_lay (xv_r xs _) (xv_r xs _) (xv_r xs _) (xv_r xs _) hr) (fun r H1 h1 => ?_)
  refine l_aload C 1068 rfl rfl rfl dL_law_1067 ?_
  refine l_aload C 1069 rfl rfl rfl dL_law_1068 ?_
  refine l_iload C 1070 rfl rfl dL_law_1069 ?_
  refine l_iconst C 1071 rfl dL_law_1070 ?_
  refine l_iadd C 1072 rfl dL_law_1071 ?_
  refine l_sld C 1073 rfl (by omega) dL_law_1072 ?_
  refine l_aload C 1074 rfl rfl rfl dL_law_1073 ?_
  refine l_iload C 1075 rfl rfl dL_law_1074 ?_
  refine l_iconst C 1076 rfl dL_law_1075 ?_
  refine l_iadd C 1077 rfl dL_law_1076 ?_
  refine l_sld C 1078 rfl (by omega) dL_law_1077 ?_
  refine l_aload C 1079 rfl rfl rfl dL_law_1078 ?_
  refine l_iload C 1080 rfl rfl dL_law_1079 ?_
  refine l_iconst C 1081 rfl dL_law_1080 ?_
  refine l_iadd C 1082 rfl dL_law_1081 ?_
  refine l_sld C 1083 rfl (by omega) dL_law_1082 ?_
  refine l_aload C 1084 rfl rfl rfl dL_law_1083 ?_
  refine l_iload C 1085 rfl rfl dL_law_1084 ?_
  refine l_iconst C 1086 rfl dL_law_1085 ?_
  refine l_iadd C 1087 rfl dL_law_1086 ?_
  refine l_sld C 1088 rfl (by omega) dL_law_1087 ?_
  refine l_calli C (k0 := 56) (ci := 5) 1091 rfl [.int (jI (xv xs (i + 1))), .int (jI (xv xs (i + 2))), .int (jI (xv xs (i + 3))), .int (jI (xv xs (i + 4)))] dL_law_1088 lk_L_142 rfl rfl (by decide) rfl rfl rfl rfl h1 (fun r2 H2 h2 => ?_)
  obtain ⟨rfl, h3⟩ := h2
  exact l_eq C 1272 rfl dL_law_1091 (next H2 h3)
theorem tl_613 : Cond.methodLink RL 143 yX4_get ∈ jW := jW_of (List.mem_append_right _ (List.mem_of_getElem? (l := tables_1) (i := 613) (by decide +kernel))) rfl
theorem tl_616 : Cond.code yX4_get cX4_get 5 (some .int) ∈ jW := jW_of (List.mem_append_right _ (List.mem_of_getElem? (l := tables_1) (i := 616) (by decide +kernel))) rfl
theorem tl_614 : Cond.instanceMethod yX4_get ∈ jW := jW_of (List.mem_append_right _ (List.mem_of_getElem? (l := tables_1) (i := 614) (by decide +kernel))) rfl
theorem tl_615 : Cond.selects RX4 yX4_get yX4_get ∈ jW := jW_of (List.mem_append_right _ (List.mem_of_getElem? (l := tables_1) (i := 615) (by decide +kernel))) rfl
theorem lk_L_143 : jLv RL 143 mX4_get 3 := ⟨⟨tl_613, tw_1, tl_616, by decide +kernel⟩, tl_614, tl_615⟩
theorem tl_795 : Cond.methodLink RL 146 yX5_get ∈ jW := jW_of (List.mem_append_right _ (List.mem_of_getElem? (l := tables_1) (i := 795) (by decide +kernel))) rfl
theorem tl_798 : Cond.code yX5_get cX5_get 4 (some .int) ∈ jW := jW_of (List.mem_append_right _ (List.mem_of_getElem? (l := tables_1) (i := 798) (by decide +kernel))) rfl
theorem tl_796 : Cond.instanceMethod yX5_get ∈ jW := jW_of (List.mem_append_right _ (List.mem_of_getElem? (l := tables_1) (i := 796) (by decide +kernel))) rfl
theorem tl_797 : Cond.selects RX5 yX5_get yX5_get ∈ jW := jW_of (List.mem_append_right _ (List.mem_of_getElem? (l := tables_1) (i := 797) (by decide +kernel))) rfl
theorem lk_L_146 : jLv RL 146 mX5_get 3 := ⟨⟨tl_795, tw_6, tl_798, by decide +kernel⟩, tl_796, tl_797⟩
set_option maxRecDepth 20000 in
theorem lc_31 {E : jE} {p : Program} {e : Env} {s : State} {m : MethodId} {below : List Frame} {meth : Method} {c : Code} {b L : Nat} {xs : Nat → Int32} {H : jH} {i : Int} (C : lC E p s m meth c b L xs) (h0 : 0 ≤ i) (hi : i + 6 ≤ L) (hr : REL H) (next : ∀ H2, REL H2 → lWP E p e s m below meth c b 1272 [some (.ref b), some (jRF E 0), some (jRF E 56), some (.int (jI i))] [] H2) : lWP E p e s m below meth c b 1096 [some (.ref b), some (jRF E 0), some (jRF E 56), some (.int (jI i))] [] H := by
  refine l_aload C 1097 rfl rfl rfl dL_law_1096 ?_
  refine l_aload C 1098 rfl rfl rfl dL_law_1097 ?_
  refine l_iload C 1099 rfl rfl dL_law_1098 ?_
  refine l_iconst C 1100 rfl dL_law_1099 ?_
  refine l_iadd C 1101 rfl dL_law_1100 ?_
  refine l_sld C 1102 rfl (by omega) dL_law_1101 ?_
  refine l_aload C 1103 rfl rfl rfl dL_law_1102 ?_
  refine l_iload C 1104 rfl rfl dL_law_1103 ?_
  refine l_iconst C 1105 rfl dL_law_1104 ?_
  refine l_iadd C 1106 rfl dL_law_1105 ?_
  refine l_sld C 1107 rfl (by omega) dL_law_1106 ?_
  refine l_aload C 1108 rfl rfl rfl dL_law_1107 ?_
  refine l_iload C 1109 rfl rfl dL_law_1108 ?_
  refine l_iconst C 1110 rfl dL_law_1109 ?_
  refine l_iadd C 1111 rfl dL_law_1110 ?_
  refine l_sld C 1112 rfl (by omega) dL_law_1111 ?_
  refine l_calli C (k0 := 0) (ci := 4) 1115 rfl [.int (jI (xv xs (i + 1))), .int (jI (xv xs (i + 2))), .int (jI (xv xs (i + 3)))] dL_law_1112 lk_L_143 rfl rfl (by decide) rfl rfl rfl rfl (q_get (xv_r xs _) (xv_r xs _) (xv_r xs _) hr) (fun r H1 h1 => ?_)
  refine l_aload C 1116 rfl rfl rfl dL_law_1115 ?_
  refine l_aload C 1117 rfl rfl rfl dL_law_1116 ?_
  refine l_iload C 1118 rfl rfl dL_law_1117 ?_
  refine l_iconst C 1119 rfl dL_law_1118 ?_
  refine l_iadd C 1120 rfl dL_law_1119 ?_
  refine l_sld C 1121 rfl (by omega) dL_law_1120 ?_
  refine l_aload C 1122 rfl rfl rfl dL_law_1121 ?_
  refine l_iload C 1123 rfl rfl dL_law_1122 ?_
  refine l_iconst C 1124 rfl dL_law_1123 ?_
  refine l_iadd C 1125 rfl dL_law_1124 ?_
  refine l_sld C 1126 rfl (by omega) dL_law_1125 ?_
  refine l_aload C 1127 rfl rfl rfl dL_law_1126 ?_
  refine l_iload C 1128 rfl rfl dL_law_1127 ?_
  refine l_iconst C 1129 rfl dL_law_1128 ?_
  refine l_iadd C 1130 rfl dL_law_1129 ?_
  refine l_sld C 1131 rfl (by omega) dL_law_1130 ?_
  refine l_calli C (k0 := 56) (ci := 5) 1134 rfl [.int (jI (xv xs (i + 1))), .int (jI (xv xs (i + 2))), .int (jI (xv xs (i + 3)))] dL_law_1131 lk_L_146 rfl rfl (by decide) rfl rfl rfl rfl h1 (fun r2 H2 h2 => ?_)
  obtain ⟨rfl, h3⟩ := h2
  exact l_eq C 1272 rfl dL_law_1134 (next H2 h3)
theorem tl_618 : Cond.methodLink RL 147 yX4_copy ∈ jW := jW_of (List.mem_append_right _ (List.mem_of_getElem? (l := tables_1) (i := 618) (by decide +kernel))) rfl
theorem tl_621 : Cond.code yX4_copy cX4_copy 8 (some .int) ∈ jW := jW_of (List.mem_append_right _ (List.mem_of_getElem? (l := tables_1) (i := 621) (by decide +kernel))) rfl
theorem tl_619 : Cond.instanceMethod yX4_copy ∈ jW := jW_of (List.mem_append_right _ (List.mem_of_getElem? (l := tables_1) (i := 619) (by decide +kernel))) rfl
theorem tl_620 : Cond.selects RX4 yX4_copy yX4_copy ∈ jW := jW_of (List.mem_append_right _ (List.mem_of_getElem? (l := tables_1) (i := 620) (by decide +kernel))) rfl
theorem lk_L_147 : jLv RL 147 mX4_copy 5 := ⟨⟨tl_618, tw_1, tl_621, by decide +kernel⟩, tl_619, tl_620⟩
theorem tl_800 : Cond.methodLink RL 151 yX5_copy ∈ jW := jW_of (List.mem_append_right _ (List.mem_of_getElem? (l := tables_1) (i := 800) (by decide +kernel))) rfl
theorem tl_803 : Cond.code yX5_copy cX5_copy 7 (some .int) ∈ jW := jW_of (List.mem_append_right _ (List.mem_of_getElem? (l := tables_1) (i := 803) (by decide +kernel))) rfl
theorem tl_801 : Cond.instanceMethod yX5_copy ∈ jW := jW_of (List.mem_append_right _ (List.mem_of_getElem? (l := tables_1) (i := 801) (by decide +kernel))) rfl
theorem tl_802 : Cond.selects RX5 yX5_copy yX5_copy ∈ jW := jW_of (List.mem_append_right _ (List.mem_of_getElem? (l := tables_1) (i := 802) (by decide +kernel))) rfl
theorem lk_L_151 : jLv RL 151 mX5_copy 5 := ⟨⟨tl_800, tw_6, tl_803, by decide +kernel⟩, tl_801, tl_802⟩
set_option maxRecDepth 20000 in
theorem lc_32 {E : jE} {p : Program} {e : Env} {s : State} {m : MethodId} {below : List Frame} {meth : Method} {c : Code} {b L : Nat} {xs : Nat → Int32} {H : jH} {i : Int} (C : lC E p s m meth c b L xs) (h0 : 0 ≤ i) (hi : i + 6 ≤ L) (hr : REL H) (next : ∀ H2, REL H2 → lWP E p e s m below meth c b 1272 [some (.ref b), some (jRF E 0), some (jRF E 56), some (.int (jI i))] [] H2) : lWP E p e s m below meth c b 1139 [some (.ref b), some (jRF E 0), some (jRF E 56), some (.int (jI i))] [] H := by
  refine l_aload C 1140 rfl rfl rfl dL_law_1139 ?_
  refine l_aload C 1141 rfl rfl rfl dL_law_1140 ?_
  refine l_iload C 1142 rfl rfl dL_law_1141 ?_
  refine l_iconst C 1143 rfl dL_law_1142 ?_
  refine l_iadd C 1144 rfl dL_law_1143 ?_
  refine l_sld C 1145 rfl (by omega) dL_law_1144 ?_
  refine l_aload C 1146 rfl rfl rfl dL_law_1145 ?_
  refine l_iload C 1147 rfl rfl dL_law_1146 ?_
  refine l_iconst C 1148 rfl dL_law_1147 ?_
  refine l_iadd C 1149 rfl dL_law_1148 ?_
  refine l_sld C 1150 rfl (by omega) dL_law_1149 ?_
  refine l_aload C 1151 rfl rfl rfl dL_law_1150 ?_
  refine l_iload C 1152 rfl rfl dL_law_1151 ?_
  refine l_iconst C 1153 rfl dL_law_1152 ?_
  refine l_iadd C 1154 rfl dL_law_1153 ?_
  refine l_sld C 1155 rfl (by omega) dL_law_1154 ?_
  refine l_aload C 1156 rfl rfl rfl dL_law_1155 ?_
  refine l_iload C 1157 rfl rfl dL_law_1156 ?_
  refine l_iconst C 1158 rfl dL_law_1157 ?_
  refine l_iadd C 1159 rfl dL_law_1158 ?_
  refine l_sld C 1160 rfl (by omega) dL_law_1159 ?_
  refine l_aload C 1161 rfl rfl rfl dL_law_1160 ?_
  refine l_iload C 1162 rfl rfl dL_law_1161 ?_
  refine l_iconst C 1163 rfl dL_law_1162 ?_
  refine l_iadd C 1164 rfl dL_law_1163 ?_
  refine l_sld C 1165 rfl (by omega) dL_law_1164 ?_
  refine l_calli C (k0 := 0) (ci := 4) 1168 rfl [.int (jI (xv xs (i + 1))), .int (jI (xv xs (i + 2))), .int (jI (xv xs (i + 3))), .int (jI (xv xs (i + 4))), .int (jI (xv xs (i + 5)))] dL_law_1165 lk_L_147 rfl rfl (by decide) rfl rfl rfl rfl (q_copy (xv_r xs _) (xv_r xs _) (xv_r xs _) (xv_r xs _) (xv_r xs _) hr) (fun r H1 h1 => ?_)
  refine l_aload C 1169 rfl rfl rfl dL_law_1168 ?_
  refine l_aload C 1170 rfl rfl rfl dL_law_1169 ?_
  refine l_iload C 1171 rfl rfl dL_law_1170 ?_
  refine l_iconst C 1172 rfl dL_law_1171 ?_
  refine l_iadd C 1173 rfl dL_law_1172 ?_
  refine l_sld C 1174 rfl (by omega) dL_law_1173 ?_
  refine l_aload C 1175 rfl rfl rfl dL_law_1174 ?_
  refine l_iload C 1176 rfl rfl dL_law_1175 ?_
  refine l_iconst C 1177 rfl dL_law_1176 ?_
  refine l_iadd C 1178 rfl dL_law_1177 ?_
  refine l_sld C 1179 rfl (by omega) dL_law_1178 ?_
  refine l_aload C 1180 rfl rfl rfl dL_law_1179 ?_
  refine l_iload C 1181 rfl rfl dL_law_1180 ?_
  refine l_iconst C 1182 rfl dL_law_1181 ?_
  refine l_iadd C 1183 rfl dL_law_1182 ?_
  refine l_sld C 1184 rfl (by omega) dL_law_1183 ?_
  refine l_aload C 1185 rfl rfl rfl dL_law_1184 ?_
  refine l_iload C 1186 rfl rfl dL_law_1185 ?_
  refine l_iconst C 1187 rfl dL_law_1186 ?_
  refine l_iadd C 1188 rfl dL_law_1187 ?_
  refine l_sld C 1189 rfl (by omega) dL_law_1188 ?_
  refine l_aload C 1190 rfl rfl rfl dL_law_1189 ?_
  refine l_iload C 1191 rfl rfl dL_law_1190 ?_
  refine l_iconst C 1192 rfl dL_law_1191 ?_
  refine l_iadd C 1193 rfl dL_law_1192 ?_
  refine l_sld C 1194 rfl (by omega) dL_law_1193 ?_
  refine l_calli C (k0 := 56) (ci := 5) 1197 rfl [.int (jI (xv xs (i + 1))), .int (jI (xv xs (i + 2))), .int (jI (xv xs (i + 3))), .int (jI (xv xs (i + 4))), .int (jI (xv xs (i + 5)))] dL_law_1194 lk_L_151 rfl rfl (by decide) rfl rfl rfl rfl h1 (fun r2 H2 h2 => ?_)
  obtain ⟨rfl, h3⟩ := h2
  exact l_eq C 1272 rfl dL_law_1197 (next H2 h3)
theorem tl_623 : Cond.methodLink RL 152 yX4_write ∈ jW := jW_of (List.mem_append_right _ (List.mem_of_getElem? (l := tables_1) (i := 623) (by decide +kernel))) rfl
theorem tl_626 : Cond.code yX4_write cX4_write 5 (some .int) ∈ jW := jW_of (List.mem_append_right _ (List.mem_of_getElem? (l := tables_1) (i := 626) (by decide +kernel))) rfl
theorem tl_624 : Cond.instanceMethod yX4_write ∈ jW := jW_of (List.mem_append_right _ (List.mem_of_getElem? (l := tables_1) (i := 624) (by decide +kernel))) rfl
theorem tl_625 : Cond.selects RX4 yX4_write yX4_write ∈ jW := jW_of (List.mem_append_right _ (List.mem_of_getElem? (l := tables_1) (i := 625) (by decide +kernel))) rfl
theorem lk_L_152 : jLv RL 152 mX4_write 2 := ⟨⟨tl_623, tw_1, tl_626, by decide +kernel⟩, tl_624, tl_625⟩
theorem tl_1081 : Cond.methodLink RL 155 yX5_write ∈ jW := jW_of (List.mem_append_right _ (List.mem_of_getElem? (l := tables_1) (i := 1081) (by decide +kernel))) rfl
theorem tl_1084 : Cond.code yX5_write cX5_write 4 (some .int) ∈ jW := jW_of (List.mem_append_right _ (List.mem_of_getElem? (l := tables_1) (i := 1084) (by decide +kernel))) rfl
theorem tl_1082 : Cond.instanceMethod yX5_write ∈ jW := jW_of (List.mem_append_right _ (List.mem_of_getElem? (l := tables_1) (i := 1082) (by decide +kernel))) rfl
theorem tl_1083 : Cond.selects RX5 yX5_write yX5_write ∈ jW := jW_of (List.mem_append_right _ (List.mem_of_getElem? (l := tables_1) (i := 1083) (by decide +kernel))) rfl
theorem lk_L_155 : jLv RL 155 mX5_write 2 := ⟨⟨tl_1081, tw_6, tl_1084, by decide +kernel⟩, tl_1082, tl_1083⟩
set_option maxRecDepth 20000 in
theorem lc_33 {E : jE} {p : Program} {e : Env} {s : State} {m : MethodId} {below : List Frame} {meth : Method} {c : Code} {b L : Nat} {xs : Nat → Int32} {H : jH} {i : Int} (C : lC E p s m meth c b L xs) (h0 : 0 ≤ i) (hi : i + 6 ≤ L) (hr : REL H) (next : ∀ H2, REL H2 → lWP E p e s m below meth c b 1272 [some (.ref b), some (jRF E 0), some (jRF E 56), some (.int (jI i))] [] H2) : lWP E p e s m below meth c b 1202 [some (.ref b), some (jRF E 0), some (jRF E 56), some (.int (jI i))] [] H := by
  refine l_aload C 1203 rfl rfl rfl dL_law_1202 ?_
  refine l_aload C 1204 rfl rfl rfl dL_law_1203 ?_
  refine l_iload C 1205 rfl rfl dL_law_1204 ?_
  refine l_iconst C 1206 rfl dL_law_1205 ?_
  refine l_iadd C 1207 rfl dL_law_1206 ?_
  refine l_sld C 1208 rfl (by omega) dL_law_1207 ?_
  refine l_aload C 1209 rfl rfl rfl dL_law_1208 ?_
  refine l_iload C 1210 rfl rfl dL_law_1209 ?_
  refine l_iconst C 1211 rfl dL_law_1210 ?_
  refine l_iadd C 1212 rfl dL_law_1211 ?_
  refine l_sld C 1213 rfl (by omega) dL_law_1212 ?_
  refine l_calli C (k0 := 0) (ci := 4) 1216 rfl [.int (jI (xv xs (i + 1))), .int (jI (xv xs (i + 2)))] dL_law_1213 lk_L_152 rfl rfl (by decide) rfl rfl rfl rfl (q_write (xv_r xs _) (xv_r xs _) hr) (fun r H1 h1 => ?_)
  refine l_aload C 1217 rfl rfl rfl dL_law_1216 ?_
  refine l_aload C 1218 rfl rfl rfl dL_law_1217 ?_
  refine l_iload C 1219 rfl rfl dL_law_1218 ?_
  refine l_iconst C 1220 rfl dL_law_1219 ?_
  refine l_iadd C 1221 rfl dL_law_1220 ?_
  refine l_sld C 1222 rfl (by omega) dL_law_1221 ?_
  refine l_aload C 1223 rfl rfl rfl dL_law_1222 ?_
  refine l_iload C 1224 rfl rfl dL_law_1223 ?_
  refine l_iconst C 1225 rfl dL_law_1224 ?_
  refine l_iadd C 1226 rfl dL_law_1225 ?_
  refine l_sld C 1227 rfl (by omega) dL_law_1226 ?_
  refine l_calli C (k0 := 56) (ci := 5) 1230 rfl [.int (jI (xv xs (i + 1))), .int (jI (xv xs (i + 2)))] dL_law_1227 lk_L_155 rfl rfl (by decide) rfl rfl rfl rfl h1 (fun r2 H2 h2 => ?_)
  obtain ⟨rfl, h3⟩ := h2
  exact l_eq C 1272 rfl dL_law_1230 (next H2 h3)
theorem tl_627 : Cond.methodLink RL 156 yX4_count ∈ jW := jW_of (List.mem_append_right _ (List.mem_of_getElem? (l := tables_1) (i := 627) (by decide +kernel))) rfl
theorem lk_L_156 : jLv RL 156 mX4_count 1 := ⟨⟨tl_627, tw_1, tw_630, by decide +kernel⟩, tw_628, tw_629⟩
theorem tl_1085 : Cond.methodLink RL 159 yX5_count ∈ jW := jW_of (List.mem_append_right _ (List.mem_of_getElem? (l := tables_1) (i := 1085) (by decide +kernel))) rfl
theorem lk_L_159 : jLv RL 159 mX5_count 1 := ⟨⟨tl_1085, tw_6, tw_1088, by decide +kernel⟩, tw_1086, tw_1087⟩
set_option maxRecDepth 20000 in
theorem lc_34 {E : jE} {p : Program} {e : Env} {s : State} {m : MethodId} {below : List Frame} {meth : Method} {c : Code} {b L : Nat} {xs : Nat → Int32} {H : jH} {i : Int} (C : lC E p s m meth c b L xs) (h0 : 0 ≤ i) (hi : i + 6 ≤ L) (hr : REL H) (next : ∀ H2, REL H2 → lWP E p e s m below meth c b 1272 [some (.ref b), some (jRF E 0), some (jRF E 56), some (.int (jI i))] [] H2) : lWP E p e s m below meth c b 1235 [some (.ref b), some (jRF E 0), some (jRF E 56), some (.int (jI i))] [] H := by
  refine l_aload C 1236 rfl rfl rfl dL_law_1235 ?_
  refine l_aload C 1237 rfl rfl rfl dL_law_1236 ?_
  refine l_iload C 1238 rfl rfl dL_law_1237 ?_
  refine l_iconst C 1239 rfl dL_law_1238 ?_
  refine l_iadd C 1240 rfl dL_law_1239 ?_
  refine l_sld C 1241 rfl (by omega) dL_law_1240 ?_
  refine l_calli C (k0 := 0) (ci := 4) 1244 rfl [.int (jI (xv xs (i + 1)))] dL_law_1241 lk_L_156 rfl rfl (by decide) rfl rfl rfl rfl (q_count (xv_r xs _) hr) (fun r H1 h1 => ?_)
  refine l_aload C 1245 rfl rfl rfl dL_law_1244 ?_
  refine l_aload C 1246 rfl rfl rfl dL_law_1245 ?_
  refine l_iload C 1247 rfl rfl dL_law_1246 ?_
  refine l_iconst C 1248 rfl dL_law_1247 ?_
  refine l_iadd C 1249 rfl dL_law_1248 ?_
  refine l_sld C 1250 rfl (by omega) dL_law_1249 ?_
  refine l_calli C (k0 := 56) (ci := 5) 1253 rfl [.int (jI (xv xs (i + 1)))] dL_law_1250 lk_L_159 rfl rfl (by decide) rfl rfl rfl rfl h1 (fun r2 H2 h2 => ?_)
  obtain ⟨rfl, h3⟩ := h2
  exact l_eq C 1272 rfl dL_law_1253 (next H2 h3)
theorem tl_639 : Cond.methodLink RL 160 yX4_digest ∈ jW := jW_of (List.mem_append_right _ (List.mem_of_getElem? (l := tables_1) (i := 639) (by decide +kernel))) rfl
theorem tl_642 : Cond.code yX4_digest cX4_digest 7 (some .long) ∈ jW := jW_of (List.mem_append_right _ (List.mem_of_getElem? (l := tables_1) (i := 642) (by decide +kernel))) rfl
theorem tl_640 : Cond.instanceMethod yX4_digest ∈ jW := jW_of (List.mem_append_right _ (List.mem_of_getElem? (l := tables_1) (i := 640) (by decide +kernel))) rfl
theorem tl_641 : Cond.selects RX4 yX4_digest yX4_digest ∈ jW := jW_of (List.mem_append_right _ (List.mem_of_getElem? (l := tables_1) (i := 641) (by decide +kernel))) rfl
theorem lk_L_160 : jLv RL 160 mX4_digest 0 := ⟨⟨tl_639, tw_1, tl_642, by decide +kernel⟩, tl_640, tl_641⟩
theorem tl_1089 : Cond.methodLink RL 164 yX5_digest ∈ jW := jW_of (List.mem_append_right _ (List.mem_of_getElem? (l := tables_1) (i := 1089) (by decide +kernel))) rfl
theorem tl_1092 : Cond.code yX5_digest cX5_digest 5 (some .long) ∈ jW := jW_of (List.mem_append_right _ (List.mem_of_getElem? (l := tables_1) (i := 1092) (by decide +kernel))) rfl
theorem tl_1090 : Cond.instanceMethod yX5_digest ∈ jW := jW_of (List.mem_append_right _ (List.mem_of_getElem? (l := tables_1) (i := 1090) (by decide +kernel))) rfl
theorem tl_1091 : Cond.selects RX5 yX5_digest yX5_digest ∈ jW := jW_of (List.mem_append_right _ (List.mem_of_getElem? (l := tables_1) (i := 1091) (by decide +kernel))) rfl
theorem lk_L_164 : jLv RL 164 mX5_digest 0 := ⟨⟨tl_1089, tw_6, tl_1092, by decide +kernel⟩, tl_1090, tl_1091⟩
set_option maxRecDepth 20000 in
theorem lc_35 {E : jE} {p : Program} {e : Env} {s : State} {m : MethodId} {below : List Frame} {meth : Method} {c : Code} {b L : Nat} {xs : Nat → Int32} {H : jH} {i : Int} (C : lC E p s m meth c b L xs) (h0 : 0 ≤ i) (hi : i + 6 ≤ L) (hr : REL H) (next : ∀ H2, REL H2 → lWP E p e s m below meth c b 1272 [some (.ref b), some (jRF E 0), some (jRF E 56), some (.int (jI i))] [] H2) : lWP E p e s m below meth c b 1258 [some (.ref b), some (jRF E 0), some (jRF E 56), some (.int (jI i))] [] H := by
  refine l_aload C 1259 rfl rfl rfl dL_law_1258 ?_
  refine l_calll C (k0 := 0) (ci := 4) 1262 rfl [] dL_law_1259 lk_L_160 rfl rfl (by decide) rfl rfl rfl rfl (q_digest  hr) (fun r H1 h1 => ?_)
  refine l_aload C 1263 rfl rfl rfl dL_law_1262 ?_
  refine l_calll C (k0 := 56) (ci := 5) 1266 rfl [] dL_law_1263 lk_L_164 rfl rfl (by decide) rfl rfl rfl rfl h1 (fun r2 H2 h2 => ?_)
  obtain ⟨rfl, h3⟩ := h2
  exact l_leq C 1267 1272 rfl rfl dL_law_1266 dL_law_1267 (next H2 h3)
theorem law_step {E : jE} {p : Program} {e : Env} {s : State} {m : MethodId} {below : List Frame} {meth : Method} {c : Code} {b L : Nat} {xs : Nat → Int32} {H : jH} {i : Int} (C : lC E p s m meth c b L xs) (h0 : 0 ≤ i) (hb : i ≤ 4000) (hr : REL H) (next : i + 6 ≤ L → ∀ H2, REL H2 → lWP E p e s m below meth c b 18 [some (.ref b), some (jRF E 0), some (jRF E 56), some (.int (jI (i + 6)))] [] H2) : lWP E p e s m below meth c b 18 [some (.ref b), some (jRF E 0), some (jRF E 56), some (.int (jI i))] [] H := by
  have hL := C.2.2.2
  refine l_iload C 19 rfl rfl dL_law_18 ?_
  refine l_aload C 20 rfl rfl rfl dL_law_19 ?_
  refine l_slen C 21 rfl dL_law_20 ?_
  refine l_bipush C 23 rfl rfl dL_law_21 ?_
  refine l_isub C 24 rfl dL_law_23 ?_
  refine l_gt C 1278 27 rfl rfl dL_law_24 (by omega) (by omega) (fun hg => ?_) (fun hg => ?_)
  · refine l_iconst C 1279 rfl dL_law_1278 ?_
    exact l_ret C dL_law_1279
  · have hi : i + 6 ≤ L := by omega
    have nx : ∀ H2, REL H2 → lWP E p e s m below meth c b 1272 [some (.ref b), some (jRF E 0), some (jRF E 56), some (.int (jI i))] [] H2 := fun H2 h2 => by
      refine l_iinc C 1275 rfl rfl rfl (by decide) rfl dL_law_1272 ?_
      exact l_goto C 18 rfl dL_law_1275 (next hi H2 h2)
    refine l_aload C 28 rfl rfl rfl dL_law_27 ?_
    refine l_iload C 29 rfl rfl dL_law_28 ?_
    refine l_sld C 30 rfl (by omega) dL_law_29 ?_
    refine l_bipush C 32 rfl rfl dL_law_30 ?_
    refine l_iand C 33 rfl dL_law_32 (fun w hw => ?_)
    by_cases hk : 0 ≤ w ∧ w ≤ 35
    · rcases (by omega : w = 0 ∨ w = 1 ∨ w = 2 ∨ w = 3 ∨ w = 4 ∨ w = 5 ∨ w = 6 ∨ w = 7 ∨ w = 8 ∨ w = 9 ∨ w = 10 ∨ w = 11 ∨ w = 12 ∨ w = 13 ∨ w = 14 ∨ w = 15 ∨ w = 16 ∨ w = 17 ∨ w = 18 ∨ w = 19 ∨ w = 20 ∨ w = 21 ∨ w = 22 ∨ w = 23 ∨ w = 24 ∨ w = 25 ∨ w = 26 ∨ w = 27 ∨ w = 28 ∨ w = 29 ∨ w = 30 ∨ w = 31 ∨ w = 32 ∨ w = 33 ∨ w = 34 ∨ w = 35) with rfl | rfl | rfl | rfl | rfl | rfl | rfl | rfl | rfl | rfl | rfl | rfl | rfl | rfl | rfl | rfl | rfl | rfl | rfl | rfl | rfl | rfl | rfl | rfl | rfl | rfl | rfl | rfl | rfl | rfl | rfl | rfl | rfl | rfl | rfl | rfl
      · exact l_tabIn C 192 dL_law_33 (by omega) (by omega) (off := 159) rfl rfl (lc_0 C h0 hi hr nx)
      · exact l_tabIn C 215 dL_law_33 (by omega) (by omega) (off := 182) rfl rfl (lc_1 C h0 hi hr nx)
      · exact l_tabIn C 228 dL_law_33 (by omega) (by omega) (off := 195) rfl rfl (lc_2 C h0 hi hr nx)
      · exact l_tabIn C 241 dL_law_33 (by omega) (by omega) (off := 208) rfl rfl (lc_3 C h0 hi hr nx)
      · exact l_tabIn C 254 dL_law_33 (by omega) (by omega) (off := 221) rfl rfl (lc_4 C h0 hi hr nx)
      · exact l_tabIn C 287 dL_law_33 (by omega) (by omega) (off := 254) rfl rfl (lc_5 C h0 hi hr nx)
      · exact l_tabIn C 310 dL_law_33 (by omega) (by omega) (off := 277) rfl rfl (lc_6 C h0 hi hr nx)
      · exact l_tabIn C 343 dL_law_33 (by omega) (by omega) (off := 310) rfl rfl (lc_7 C h0 hi hr nx)
      · exact l_tabIn C 366 dL_law_33 (by omega) (by omega) (off := 333) rfl rfl (lc_8 C h0 hi hr nx)
      · exact l_tabIn C 409 dL_law_33 (by omega) (by omega) (off := 376) rfl rfl (lc_9 C h0 hi hr nx)
      · exact l_tabIn C 422 dL_law_33 (by omega) (by omega) (off := 389) rfl rfl (lc_10 C h0 hi hr nx)
      · exact l_tabIn C 445 dL_law_33 (by omega) (by omega) (off := 412) rfl rfl (lc_11 C h0 hi hr nx)
      · exact l_tabIn C 478 dL_law_33 (by omega) (by omega) (off := 445) rfl rfl (lc_12 C h0 hi hr nx)
      · exact l_tabIn C 511 dL_law_33 (by omega) (by omega) (off := 478) rfl rfl (lc_13 C h0 hi hr nx)
      · exact l_tabIn C 524 dL_law_33 (by omega) (by omega) (off := 491) rfl rfl (lc_14 C h0 hi hr nx)
      · exact l_tabIn C 547 dL_law_33 (by omega) (by omega) (off := 514) rfl rfl (lc_15 C h0 hi hr nx)
      · exact l_tabIn C 570 dL_law_33 (by omega) (by omega) (off := 537) rfl rfl (lc_16 C h0 hi hr nx)
      · exact l_tabIn C 603 dL_law_33 (by omega) (by omega) (off := 570) rfl rfl (lc_17 C h0 hi hr nx)
      · exact l_tabIn C 646 dL_law_33 (by omega) (by omega) (off := 613) rfl rfl (lc_18 C h0 hi hr nx)
      · exact l_tabIn C 679 dL_law_33 (by omega) (by omega) (off := 646) rfl rfl (lc_19 C h0 hi hr nx)
      · exact l_tabIn C 712 dL_law_33 (by omega) (by omega) (off := 679) rfl rfl (lc_20 C h0 hi hr nx)
      · exact l_tabIn C 755 dL_law_33 (by omega) (by omega) (off := 722) rfl rfl (lc_21 C h0 hi hr nx)
      · exact l_tabIn C 788 dL_law_33 (by omega) (by omega) (off := 755) rfl rfl (lc_22 C h0 hi hr nx)
      · exact l_tabIn C 801 dL_law_33 (by omega) (by omega) (off := 768) rfl rfl (lc_23 C h0 hi hr nx)
      · exact l_tabIn C 834 dL_law_33 (by omega) (by omega) (off := 801) rfl rfl (lc_24 C h0 hi hr nx)
      · exact l_tabIn C 847 dL_law_33 (by omega) (by omega) (off := 814) rfl rfl (lc_25 C h0 hi hr nx)
      · exact l_tabIn C 880 dL_law_33 (by omega) (by omega) (off := 847) rfl rfl (lc_26 C h0 hi hr nx)
      · exact l_tabIn C 934 dL_law_33 (by omega) (by omega) (off := 901) rfl rfl (lc_27 C h0 hi hr nx)
      · exact l_tabIn C 977 dL_law_33 (by omega) (by omega) (off := 944) rfl rfl (lc_28 C h0 hi hr nx)
      · exact l_tabIn C 1020 dL_law_33 (by omega) (by omega) (off := 987) rfl rfl (lc_29 C h0 hi hr nx)
      · exact l_tabIn C 1043 dL_law_33 (by omega) (by omega) (off := 1010) rfl rfl (lc_30 C h0 hi hr nx)
      · exact l_tabIn C 1096 dL_law_33 (by omega) (by omega) (off := 1063) rfl rfl (lc_31 C h0 hi hr nx)
      · exact l_tabIn C 1139 dL_law_33 (by omega) (by omega) (off := 1106) rfl rfl (lc_32 C h0 hi hr nx)
      · exact l_tabIn C 1202 dL_law_33 (by omega) (by omega) (off := 1169) rfl rfl (lc_33 C h0 hi hr nx)
      · exact l_tabIn C 1235 dL_law_33 (by omega) (by omega) (off := 1202) rfl rfl (lc_34 C h0 hi hr nx)
      · exact l_tabIn C 1258 dL_law_33 (by omega) (by omega) (off := 1225) rfl rfl (lc_35 C h0 hi hr nx)
    · exact l_tabOut C 1272 dL_law_33 hw (by omega) rfl (nx H hr)
theorem law_loop {E : jE} {p : Program} {e : Env} {s : State} {m : MethodId} {below : List Frame} {meth : Method} {c : Code} {b L : Nat} {xs : Nat → Int32} (C : lC E p s m meth c b L xs) : ∀ (n : Nat) (i : Int) (H : jH), 0 ≤ i → i ≤ 4000 → (L : Int) ≤ i + n → REL H → lWP E p e s m below meth c b 18 [some (.ref b), some (jRF E 0), some (jRF E 56), some (.int (jI i))] [] H := by
  have hL := C.2.2.2
  intro n
  induction n with
  | zero =>
    intro i H h0 hb hn hr
    exact law_step C h0 hb hr (fun h => absurd h (by omega))
  | succ n ih =>
    intro i H h0 hb hn hr
    exact law_step C h0 hb hr (fun h H2 h2 => ih (i + 6) H2 (by omega) (by omega) (by omega) h2)
