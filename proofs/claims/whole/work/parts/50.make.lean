/-! ===== constructors: the judgement mkW over a world that grows ===== -/
theorem g_AO_moved {u U : State} (hvm : u.vm.Alike U.vm) (h : va_Nw (.arrayOver (.array .int)) u) : va_Nw (.arrayOver (.array .int)) U := by
  obtain ⟨comp, c, k, h1, h2, h3, h4, h5⟩ := arrayOverA_spec (t := .int) h
  obtain ⟨k', hk', he⟩ := hvm.2.2 _ _ h3
  have hi : (U.vm.classes.findIdx? fun (x : Class) => match x.kind with | .array component _ => component == comp | _ => false) = some c := by
    rw [hvm.findIdx?_eq _ (fun _ => rfl)]; exact h2
  have hkind : k'.kind = .array comp (.array .int) := by rw [he]; exact h4
  have f1 : U.vm.findClass (FieldType.array .int).toString = some comp := by rw [hvm.findClass]; exact h1
  have f2 : U.vm.findClass ("[" ++ (FieldType.array .int).toString) = some c := by rw [hvm.findClass]; exact h5
  unfold va_Nw Cond.before Cond.holds
  simp only [Cond.value]
  rw [f1, Option.bind_some]
  refine (congrArg (fun o : Option Nat => (o.bind (fun c => (U.vm.classes[c]?).map fun (k : Class) => match k.kind with | .array _ ty => decide (ty = FieldType.array .int) && decide (U.vm.findClass ("[" ++ (FieldType.array .int).toString) = some c) | _ => false) == some true)) hi).trans ?_
  simp [hk', hkind, f2]
/-- what the tables tell of nest mates and of arrays over classes -/
def mkNest (U : State) : Prop := va_Nw (.methodLinkNest RX4 11 yX0_init RX4) U ∧ va_Nw (.methodLinkNest RX4 26 yX3_init RX4) U ∧ va_Nw (.methodLinkNest RX4 51 yX1_init RX4) U ∧ va_Nw (.methodLinkNest RX4 75 yX2_init RX4) U ∧ va_AO RX2 U ∧ va_Nw (.arrayOver (.array .int)) U
theorem mkNest.go {s U : State} (h : mkNest s) (hW : s.WarmedH U.vm) : mkNest U := ⟨h.1.warmM hW, h.2.1.warmM hW, h.2.2.1.warmM hW, h.2.2.2.1.warmM hW, va_AO.moved hW.alike h.2.2.2.2.1, g_AO_moved hW.alike h.2.2.2.2.2⟩
theorem mkNest.blind {U : State} {g : JFrame} {mk : MethodId} {a : Array Value} (h : mkNest U) : mkNest (U.calling g mk a) := ⟨h.1.same rfl rfl, h.2.1.same rfl rfl, h.2.2.1.same rfl rfl, h.2.2.2.1.same rfl rfl, va_AO.moved (u := U) (U := U.calling g mk a) (Vm.Alike.refl U.vm) h.2.2.2.2.1, g_AO_moved (u := U) (U := U.calling g mk a) (Vm.Alike.refl U.vm) h.2.2.2.2.2⟩
abbrev mkT : Type := List (ClassId × FieldType)
def mkR (me : jM) (mc ms : Nat) : Room := { frames := me.2.2.2.2.1, cells := mc, slots := ms, locals := me.2.2.2.2.2 }
def mkQ (D : va_G) (Φ : va_W → mkT → Prop) (A : Nat → Prop) : Array Value → State → Outcome → State → Prop := va_Qv (S := va_W × mkT) (fun u => Φ u.1 u.2) (fun u t => va_P D jCl u.1 t.heap ∧ va_K D jCl u.2 t ∧ va_D A u.1) A
def mkW (l : Launch) (D : va_G) (me : jM) (mc ms : Nat) (Φ : va_W → mkT → Prop) (pc : Nat) (lv : List (Option Value)) (st : List Value) (ws : va_W) (tys : mkT) (cells slots : Nat) : Prop :=
  ∀ (p : Program) (e : Env) (s : State) (m : MethodId) (args : Array Value) (below : List Frame) (meth : Method) (c : Code) (heap : Heap) (locs : List Loc) (ls : Array Slot) (A : Nat → Prop),
    jFx me p s m args meth c → meth.name = "<init>" → mkNest s → (∀ q, s.heap.size ≤ q → A q) → va_K D jCl tys s → va_P D jCl ws heap → va_D A ws → va_S A s.heap heap locs → jHas ls me.2.2.1 lv →
      W p l e (mkR me mc ms) s m args below meth c heap locs cells slots (MQ below (mkQ D Φ A) args s mc ms A) (F0 m pc ls st)
/-- a constructor's contract: out of its object, with the fields fs, comes a world with Φ -/
def mkOk (l : Launch) (D : va_G) (me : jM) (mc ms : Nat) (h0 ci : Nat) (fs : List Value) (Φ : va_W → mkT → Prop) : Prop := ∀ sz : Nat, Met l me.1 (jWd me) (mkR me mc ms) (va_Pc [.ref h0] (fun U => U.heap.size = sz ∧ va_P D jCl [(h0, .inr (ci, fs))] U.heap ∧ va_K D jCl [] U ∧ va_D (fun _ => True) [(h0, .inr (ci, fs))] ∧ mkNest U)) (mkQ D Φ (va_A [(h0, .inr (ci, fs))] sz)) mc ms (va_A [(h0, .inr (ci, fs))] sz)
theorem mkOk.of {l : Launch} {D : va_G} {me : jM} {mc ms h0 ci : Nat} {fs : List Value} {Φ : va_W → mkT → Prop} {lv : List (Option Value)} (hy : plainName me.1.cls = true) (hnm : me.1.name = "<init>") (hl : 1 ≤ me.2.2.1) (he : jEnt [.ref h0] me.2.2.1 = lv) (k : mkW l D me mc ms Φ 0 lv [] [(h0, .inr (ci, fs))] [] 0 0) : mkOk l D me mc ms h0 ci fs Φ := by
  intro sz
  refine Met.ofW (cc := me.2.1) (maxL := me.2.2.1) (ret := me.2.2.2.1) (ws' := jW) hy rfl ?_
  intro p e s m args below meth c s₁ B hml hv
  obtain ⟨rfl, rfl, hP, hK, hD0, hN⟩ := hv
  subst he
  rw [lg_entry_eq]
  have hin : meth.name = "<init>" := (name_of_methodNamed B.named B.method).1.trans hnm
  exact k p e s m _ below meth c s.heap [] _ _ ⟨B.exec, B.bytes, hml, findClass_of_methodNamed B.named, atoms_spec (ws := jWd me) B.pre, B.returns, B.notSynchronized⟩ hin hN (fun q h => Or.inr h) hK hP hD0.self va_S.rf (jHas.of (lv_entry [.ref h0] hl) (fun i v h => by have := jEnt_get [.ref h0] me.2.2.1 i v 0 h; rwa [Nat.zero_add] at this))
/-- a final field, and what it takes -/
def mkFT (ci j : Nat) (ty : FieldType) : Prop := ∃ (C : String) (T : u_T) (N : Nat) (t0 : Nat → FieldType), jCl[ci]? = some (C, T, N) ∧ j < N ∧ (T j).2.2.2 = true ∧ parseFieldDescriptor (T j).2.2.1 = some ty ∧ (∀ k, k < N → parseFieldDescriptor (T k).2.2.1 = some (t0 k)) ∧ (∀ a, a < N → ∀ b, b < N → a ≠ b → (T a).2.1 ≠ (T b).2.1) ∧ (T j).1 = C
section MKROWS
variable {l : Launch} {D : va_G} {me : jM} {mc ms : Nat} {Φ : va_W → mkT → Prop} {pc : Nat} {lv : List (Option Value)} {st : List Value} {ws : va_W} {tys : mkT} {cells slots : Nat}
theorem mk_iconst (n : Nat) (hn : pc + 1 = n) {x : Int} (hd : decode me.2.1 pc = .ok (.iconst x, 1)) (k : mkW l D me mc ms Φ n lv (.int (jI x) :: st) ws tys cells slots) : mkW l D me mc ms Φ pc lv st ws tys cells slots := by
  subst hn
  intro p e s m args below meth c heap locs ls A F hi N hA K P Dd V Y
  exact lv_iconst F.1 F.2.1 hd (v := jI x) rfl (k p e s m args below meth c heap locs ls A F hi N hA K P Dd V Y)
theorem mk_bipush (n : Nat) (hn : pc + 2 = n) {x : Int} (hv : (Int8.ofInt x).toInt32 = jI x) (hd : decode me.2.1 pc = .ok (.bipush x, 2)) (k : mkW l D me mc ms Φ n lv (.int (jI x) :: st) ws tys cells slots) : mkW l D me mc ms Φ pc lv st ws tys cells slots := by
  subst hn
  intro p e s m args below meth c heap locs ls A F hi N hA K P Dd V Y
  exact lv_bipush F.1 F.2.1 hd hv (k p e s m args below meth c heap locs ls A F hi N hA K P Dd V Y)
theorem mk_sipush (n : Nat) (hn : pc + 3 = n) {x : Int} (hv : (Int16.ofInt x).toInt32 = jI x) (hd : decode me.2.1 pc = .ok (.sipush x, 3)) (k : mkW l D me mc ms Φ n lv (.int (jI x) :: st) ws tys cells slots) : mkW l D me mc ms Φ pc lv st ws tys cells slots := by
  subst hn
  intro p e s m args below meth c heap locs ls A F hi N hA K P Dd V Y
  exact lv_sipush F.1 F.2.1 hd hv (k p e s m args below meth c heap locs ls A F hi N hA K P Dd V Y)
theorem mk_aload (n : Nat) (hn : pc + 1 = n) {i : Fin 4} {x : Nat} (hl : jGet lv i = some (.ref x)) (hd : decode me.2.1 pc = .ok (.aload_n i, 1)) (k : mkW l D me mc ms Φ n lv (.ref x :: st) ws tys cells slots) : mkW l D me mc ms Φ pc lv st ws tys cells slots := by
  subst hn
  intro p e s m args below meth c heap locs ls A F hi N hA K P Dd V Y
  exact lv_aload_n F.1 F.2.1 hd rfl (Y.get hl) (k p e s m args below meth c heap locs ls A F hi N hA K P Dd V Y)
theorem mk_iload (n : Nat) (hn : pc + 1 = n) {i : Fin 4} {x : Int} (hl : jGet lv i = some (.int (jI x))) (hd : decode me.2.1 pc = .ok (.iload_n i, 1)) (k : mkW l D me mc ms Φ n lv (.int (jI x) :: st) ws tys cells slots) : mkW l D me mc ms Φ pc lv st ws tys cells slots := by
  subst hn
  intro p e s m args below meth c heap locs ls A F hi N hA K P Dd V Y
  exact lv_iload_n F.1 F.2.1 hd rfl (Y.get hl) (k p e s m args below meth c heap locs ls A F hi N hA K P Dd V Y)
theorem mk_istore (n : Nat) (hn : pc + 1 = n) {i : Fin 4} {x : Int} {lv' : List (Option Value)} (hs : jSt lv i (.int (jI x)) = lv') (hlt : (i : Nat) < me.2.2.1) (hc : jCk lv i = true) (hd : decode me.2.1 pc = .ok (.istore_n i, 1)) (k : mkW l D me mc ms Φ n lv' st ws tys cells slots) : mkW l D me mc ms Φ pc lv (.int (jI x) :: st) ws tys cells slots := by
  subst hn
  subst hs
  intro p e s m args below meth c heap locs ls A F hi N hA K P Dd V Y
  exact lv_istore_n F.1 F.2.1 hd rfl Y hlt rfl (fun ls q => k p e s m args below meth c heap locs ls A F hi N hA K P Dd V (jHas.st hc q))
theorem mk_iinc (n : Nat) (hn : pc + 3 = n) {i : Nat} {x y z : Int} {lv' : List (Option Value)} (hl : jGet lv i = some (.int (jI x))) (hz : x + y = z) (hs : jSt lv i (.int (jI z)) = lv') (hlt : i < me.2.2.1) (hc : jCk lv i = true) (hd : decode me.2.1 pc = .ok (.iinc i y, 3)) (k : mkW l D me mc ms Φ n lv' st ws tys cells slots) : mkW l D me mc ms Φ pc lv st ws tys cells slots := by
  subst hn
  subst hs
  subst hz
  intro p e s m args below meth c heap locs ls A F hi N hA K P Dd V Y
  have hm := jAsc_mem lv 0 i _ hl
  rw [Nat.zero_add] at hm
  obtain ⟨k0, hk0⟩ := List.getElem?_of_mem hm
  exact lv_iinc (v := jI (x + y)) F.1 F.2.1 hd Y hk0 (by rw [← jI_add]; rfl) hlt rfl (fun ls q => k p e s m args below meth c heap locs ls A F hi N hA K P Dd V (jHas.st hc q))
theorem mk_dup (n : Nat) (hn : pc + 1 = n) {x : Nat} (hd : decode me.2.1 pc = .ok (.dup, 1)) (k : mkW l D me mc ms Φ n lv (.ref x :: .ref x :: st) ws tys cells slots) : mkW l D me mc ms Φ pc lv (.ref x :: st) ws tys cells slots := by
  subst hn
  intro p e s m args below meth c heap locs ls A F hi N hA K P Dd V Y
  exact lv_dup F.1 F.2.1 hd rfl (k p e s m args below meth c heap locs ls A F hi N hA K P Dd V Y)
theorem mk_goto (t : Nat) {off : Int} (ht : (pc : Int) + off = (t : Int)) (hd : decode me.2.1 pc = .ok (.goto off, 3)) (k : mkW l D me mc ms Φ t lv st ws tys cells slots) : mkW l D me mc ms Φ pc lv st ws tys cells slots := by
  intro p e s m args below meth c heap locs ls A F hi N hA K P Dd V Y
  exact lv_goto F.1 F.2.1 hd ht (k p e s m args below meth c heap locs ls A F hi N hA K P Dd V Y)
theorem mk_geT (t : Nat) {off a b : Int} (ht : (pc : Int) + off = (t : Int)) (hd : decode me.2.1 pc = .ok (.if_icmp .ge off, 3)) (h : jI b ≤ jI a) (k : mkW l D me mc ms Φ t lv st ws tys cells slots) : mkW l D me mc ms Φ pc lv (.int (jI b) :: .int (jI a) :: st) ws tys cells slots := by
  intro p e s m args below meth c heap locs ls A F hi N hA K P Dd V Y
  exact lv_icmp_ge F.1 F.2.1 hd ht (fun _ => k p e s m args below meth c heap locs ls A F hi N hA K P Dd V Y) (fun q => absurd h q)
theorem mk_geF (n : Nat) (t : Nat) (hn : pc + 3 = n) {off a b : Int} (ht : (pc : Int) + off = (t : Int)) (hd : decode me.2.1 pc = .ok (.if_icmp .ge off, 3)) (h : ¬ jI b ≤ jI a) (k : mkW l D me mc ms Φ n lv st ws tys cells slots) : mkW l D me mc ms Φ pc lv (.int (jI b) :: .int (jI a) :: st) ws tys cells slots := by
  subst hn
  intro p e s m args below meth c heap locs ls A F hi N hA K P Dd V Y
  exact lv_icmp_ge F.1 F.2.1 hd ht (fun q => absurd q h) (fun _ => k p e s m args below meth c heap locs ls A F hi N hA K P Dd V Y)
theorem mk_objInit (n : Nat) (hn : pc + 3 = n) {ix a : Nat} (hd : decode me.2.1 pc = .ok (.invokespecial ix, 3)) (h1 : Cond.methodLink me.1.cls ix Lib.objectInit ∈ jW) (h2 : Cond.instanceMethod Lib.objectInit ∈ jW) (h3 : Cond.code Lib.objectInit ⟨#[0xb1]⟩ 1 none ∈ jW) (hf : Nat.ble 1 me.2.2.2.2.1 = true) (hlo : Nat.ble ((st.map fun v => v.category).sum + 12) me.2.2.2.2.2 = true) (k : mkW l D me mc ms Φ n lv st ws tys cells slots) : mkW l D me mc ms Φ pc lv (.ref a :: st) ws tys cells slots := by
  subst hn
  intro p e s m args below meth c heap locs ls A F hi N hA K P Dd V Y
  exact W.objInit F.1 F.2.1 F.2.2.2.1 (F.2.2.2.2.1 _ (List.mem_cons_of_mem _ h1)) (F.2.2.2.2.1 _ (List.mem_cons_of_mem _ h2)) (F.2.2.2.2.1 _ (List.mem_cons_of_mem _ h3)) rfl (by rw [F.2.2.1]; exact Y.1) rfl hd (Nat.le_of_ble_eq_true hf) (by show 2 * 0 + _ + 12 ≤ _; rw [Nat.mul_zero, Nat.zero_add]; exact Nat.le_of_ble_eq_true hlo) (k p e s m args below meth c heap locs ls A F hi N hA K P Dd V Y)
theorem mk_newa (n : Nat) (hn : pc + 2 = n) {x : Int} (N' : Nat) (hx : ¬ jI x < 0) (hN : (jI x).toNatClampNeg = N') (hby : Nat.ble (N' * 4) 536870912 = true) (hc : Nat.ble (cells + 1) mc = true) (hs : Nat.ble (slots + N') ms = true) (hw : Cond.arrayClass .int ∈ jW) (hd : decode me.2.1 pc = .ok (.newarray .int, 2)) (k : ∀ (q : Nat) (cA : ClassId), mkW l D me mc ms Φ n lv (.ref q :: st) (ws ++ [(q, .inl (cA, N', .inl (fun _ => jI 0)))]) (tys ++ [(cA, .int)]) (cells + 1) (slots + N')) : mkW l D me mc ms Φ pc lv (.int (jI x) :: st) ws tys cells slots := by
  subst hn
  intro p e s m args below meth c heap locs ls A F hi N hA K P Dd V Y
  exact va_newa (atype := .int) (ty := .int) (a0 := (N', .inl (fun _ => jI 0))) F.1 F.2.1 (F.2.2.2.2.1 _ (List.mem_cons_of_mem _ hw)) rfl K P Dd V hA (fun _ => rfl) hx hN (Nat.le_of_ble_eq_true hby) (Nat.le_of_ble_eq_true hc) (Nat.le_of_ble_eq_true hs) hd (fun q cA H1 hK hP hD hS => k q cA p e s m args below meth c H1 locs ls A F hi N hA hK hP hD hS Y)
theorem mk_newq (n : Nat) (hn : pc + 3 = n) {x : Int} {ix : Nat} (N' : Nat) (hx : ¬ jI x < 0) (hN : (jI x).toNatClampNeg = N') (hby : Nat.ble (N' * 4) 536870912 = true) (hc : Nat.ble (cells + 1) mc = true) (hs : Nat.ble (slots + N') ms = true) (hw : Cond.classLink me.1.cls ix RX2 ∈ jW) (hd : decode me.2.1 pc = .ok (.anewarray ix, 3)) (k : ∀ (q : Nat) (cA : ClassId), mkW l D me mc ms Φ n lv (.ref q :: st) (ws ++ [(q, .inl (cA, N', .inr (.inr (.inr (.inr (fun _ => none))))))]) (tys ++ [(cA, .object RX2)]) (cells + 1) (slots + N')) : mkW l D me mc ms Φ pc lv (.int (jI x) :: st) ws tys cells slots := by
  subst hn
  intro p e s m args below meth c heap locs ls A F hi N hA K P Dd V Y
  exact va_newq (C := RX2) F.1 F.2.1 F.2.2.2.1 (F.2.2.2.2.1 _ (List.mem_cons_of_mem _ hw)) N.2.2.2.2.1 K P Dd V hA hx hN (Nat.le_of_ble_eq_true hby) (Nat.le_of_ble_eq_true hc) (Nat.le_of_ble_eq_true hs) hd (fun q cA H1 hK hP hD hS => k q cA p e s m args below meth c H1 locs ls A F hi N hA hK hP hD hS Y)
theorem mk_mna (n : Nat) (hn : pc + 4 = n) {ix : Nat} (hc : Nat.ble (cells + 4) mc = true) (hs : Nat.ble (slots + 183) ms = true) (hw : Cond.arrayClass .int ∈ jW) (hcl : Cond.classLink me.1.cls ix ("[" ++ (FieldType.array .int).toString) ∈ jW) (hd : decode me.2.1 pc = .ok (.multianewarray ix 2, 4)) (k : ∀ (q r0 r1 r2 : Nat) (cA cI : ClassId), mkW l D me mc ms Φ n lv (.ref q :: st) (ws ++ [(q, .inl (cA, 3, .inr (.inr (.inr (.inr (g_rf [r0, r1, r2])))))), (r0, .inl (cI, 60, .inl (fun _ => jI 0))), (r1, .inl (cI, 60, .inl (fun _ => jI 0))), (r2, .inl (cI, 60, .inl (fun _ => jI 0)))]) (tys ++ [(cA, .array .int), (cI, .int)]) (cells + 4) (slots + 183)) : mkW l D me mc ms Φ pc lv (.int (jI 60) :: .int (jI 3) :: st) ws tys cells slots := by
  subst hn
  intro p e s m args below meth c heap locs ls A F hi N hA K P Dd V Y
  exact g_mna F.1 F.2.1 F.2.2.2.1 (F.2.2.2.2.1 _ (List.mem_cons_of_mem _ hcl)) N.2.2.2.2.2 (F.2.2.2.2.1 _ (List.mem_cons_of_mem _ hw)) K P Dd V hA (by decide) (by decide) (by decide) (by decide) (Nat.le_of_ble_eq_true hc) (Nat.le_of_ble_eq_true hs) hd (fun q r0 r1 r2 cA cI H1 locs1 hK hP hD hS => k q r0 r1 r2 cA cI p e s m args below meth c H1 locs1 ls A F hi N hA hK hP hD hS Y)
theorem mk_new (n : Nat) (hn : pc + 3 = n) {ix ci N' : Nat} {C : String} {T : u_T} (ty : Nat → FieldType) (fs : List Value) (hci : jCl[ci]? = some (C, T, N')) (hty : ∀ k, k < N' → parseFieldDescriptor (T k).2.2.1 = some (ty k)) (hcl : Cond.classLink me.1.cls ix C ∈ jW) (hinst : Cond.instantiable C N' ∈ jW) (hini : Cond.initialized C ∈ jW) (hin : ∀ w ∈ u_ws C T N', w ∈ jW) (hfs : ∀ j, j < N' → defaultValue (ty j) = vp_V fs j) (hc : Nat.ble (cells + 1) mc = true) (hs : Nat.ble (slots + N') ms = true) (hd : decode me.2.1 pc = .ok (.new ix, 3)) (k : ∀ q : Nat, mkW l D me mc ms Φ n lv (.ref q :: st) (ws ++ [(q, .inr (ci, fs))]) tys (cells + 1) (slots + N')) : mkW l D me mc ms Φ pc lv st ws tys cells slots := by
  subst hn
  intro p e s m args below meth c heap locs ls A F hi N hA K P Dd V Y
  exact va_new (Ts := jWd me) F.1 F.2.1 F.2.2.2.2.1 (fun w h => List.mem_cons_of_mem _ (hin w h)) ty hty F.2.2.2.1 (F.2.2.2.2.1 _ (List.mem_cons_of_mem _ hcl)) (F.2.2.2.2.1 _ (List.mem_cons_of_mem _ hinst)) (F.2.2.2.2.1 _ (List.mem_cons_of_mem _ hini)) K P Dd V hA hci hfs (Nat.le_of_ble_eq_true hc) (Nat.le_of_ble_eq_true hs) hd (fun q H1 hP hD hS => k q p e s m args below meth c H1 locs ls A F hi N hA K hP hD hS Y)
theorem mk_putF (n : Nat) (hn : pc + 3 = n) {ix ci j v h0 : Nat} {fs fs' : List Value} {rest : va_W} {ty : FieldType} (hl : jFL me.1.cls ix ci j) (hf : mkFT ci j ty) (hown : (jCl[ci]?).map (fun q => q.1) = some me.1.cls) (hll : j < fs.length) (hfs : fs.set j (.ref v) = fs') (hnr : narrow ty (.ref v) = .ref v) (hft : fits ty (.ref v) = true) (hd : decode me.2.1 pc = .ok (.putfield ix, 3)) (k : mkW l D me mc ms Φ n lv st ((h0, .inr (ci, fs')) :: rest) tys cells slots) : mkW l D me mc ms Φ pc lv (.ref v :: .ref h0 :: st) ((h0, .inr (ci, fs)) :: rest) tys cells slots := by
  subst hn
  subst hfs
  intro p e s m args below meth c heap locs ls A F hi N hA K P Dd V Y
  obtain ⟨C, T, N', h1, h2, h3, h4⟩ := hl
  obtain ⟨C', T', N'', t0, g1, g2, g3, g4, g5, g6, g7⟩ := hf
  have hq := Option.some.inj (h1.symm.trans g1)
  obtain ⟨rfl, hq2⟩ := Prod.mk.inj hq
  obtain ⟨rfl, rfl⟩ := Prod.mk.inj hq2
  rw [h1] at hown
  have hown' : C = me.1.cls := Option.some.inj hown
  exact va_putF (ci := ci) (C := C) (T := T) (N := N') (Ts := jWd me) (A := A) F.1 F.2.1 F.2.2.2.2.1 (fun w h => List.mem_cons_of_mem _ (h4 w h)) t0 g5 g6 F.2.2.2.1 K P Dd V 0 rfl h1 j h2 (F.2.2.2.2.1 _ (List.mem_cons_of_mem _ h3)) (fun _ h => h) g3 hi (g7.trans hown') g4 hnr hft hll hd (fun H1 locs1 hP hD hS => k p e s m args below meth c H1 locs1 ls A F hi N hA K hP hD hS Y)
theorem mk_put (n : Nat) (hn : pc + 3 = n) {ix ci j h0 : Nat} {x : Int} {fs fs' : List Value} {rest : va_W} {ty : FieldType} (hl : jFL me.1.cls ix ci j) (hf : jFT ci j ty) (hll : j < fs.length) (hfs : fs.set j (.int (jI x)) = fs') (hnr : narrow ty (.int (jI x)) = .int (jI x)) (hft : fits ty (.int (jI x)) = true) (hd : decode me.2.1 pc = .ok (.putfield ix, 3)) (k : mkW l D me mc ms Φ n lv st ((h0, .inr (ci, fs')) :: rest) tys cells slots) : mkW l D me mc ms Φ pc lv (.int (jI x) :: .ref h0 :: st) ((h0, .inr (ci, fs)) :: rest) tys cells slots := by
  subst hn
  subst hfs
  intro p e s m args below meth c heap locs ls A F hi N hA K P Dd V Y
  obtain ⟨C, T, N', h1, h2, h3, h4⟩ := hl
  obtain ⟨C', T', N'', t0, g1, g2, g3, g4, g5, g6⟩ := hf
  have hq := Option.some.inj (h1.symm.trans g1)
  obtain ⟨rfl, hq2⟩ := Prod.mk.inj hq
  obtain ⟨rfl, rfl⟩ := Prod.mk.inj hq2
  exact va_put (ci := ci) (C := C) (T := T) (N := N') (Ts := jWd me) (A := A) F.1 F.2.1 F.2.2.2.2.1 (fun w h => List.mem_cons_of_mem _ (h4 w h)) t0 g5 g6 F.2.2.2.1 K P Dd V 0 rfl h1 j h2 (F.2.2.2.2.1 _ (List.mem_cons_of_mem _ h3)) (fun _ h => h) g3 g4 hnr hft hll hd (fun H1 locs1 hP hD hS => k p e s m args below meth c H1 locs1 ls A F hi N hA K hP hD hS Y)
theorem mk_get (n : Nat) (hn : pc + 3 = n) {ix ci j h0 : Nat} {fs : List Value} {v : Value} {rest : va_W} (hl : jFL me.1.cls ix ci j) (hv : fs[j]? = some v) (hd : decode me.2.1 pc = .ok (.getfield ix, 3)) (k : mkW l D me mc ms Φ n lv (v :: st) ((h0, .inr (ci, fs)) :: rest) tys cells slots) : mkW l D me mc ms Φ pc lv (.ref h0 :: st) ((h0, .inr (ci, fs)) :: rest) tys cells slots := by
  subst hn
  intro p e s m args below meth c heap locs ls A F hi N hA K P Dd V Y
  obtain ⟨C, T, N', h1, h2, h3, h4⟩ := hl
  exact va_get (ci := ci) (C := C) (T := T) (N := N') (Ts := jWd me) F.1 F.2.1 F.2.2.2.2.1 (fun w h => List.mem_cons_of_mem _ (h4 w h)) F.2.2.2.1 K P 0 rfl h1 j h2 (F.2.2.2.2.1 _ (List.mem_cons_of_mem _ h3)) (fun _ h => h) hv hd (k p e s m args below meth c heap locs ls A F hi N hA K P Dd V Y)
theorem mk_iast (n : Nat) (hn : pc + 1 = n) {a : Nat} {x i : Int} (q0 t0 : Nat) (i' : Nat) {cA : ClassId} {N' : Nat} {f : Nat → Int32} (ha : ws[q0]? = some (a, .inl (cA, N', .inl f))) (ht : tys[t0]? = some (cA, .int)) (hN : N' < 2 ^ 31) (h0 : 0 ≤ i ∧ i < N') (hi' : (jI i).toNatClampNeg = i') (hd : decode me.2.1 pc = .ok (.iastore, 1)) (k : mkW l D me mc ms Φ n lv st (ws.set q0 (a, .inl (cA, N', .inl (upd f i' (jI x))))) tys cells slots) : mkW l D me mc ms Φ pc lv (.int (jI x) :: .int (jI i) :: .ref a :: st) ws tys cells slots := by
  subst hn
  subst hi'
  intro p e s m args below meth c heap locs ls A F hi N hA K P Dd V Y
  exact va_iast F.1 F.2.1 K P Dd V q0 t0 ha ht (jI_in hN h0.1 h0.2) hd (fun H1 locs1 hP hD hS => k p e s m args below meth c H1 locs1 ls A F hi N hA K hP hD hS Y)
theorem mk_aast (n : Nat) (hn : pc + 1 = n) {a v ci : Nat} {i : Int} (q0 t0 qk : Nat) (i' : Nat) {cA : ClassId} {N' : Nat} {f : Nat → Option Nat} {vs : List Value} {r : vw_C} (ha : ws[q0]? = some (a, .inl (cA, N', .inr (.inr (.inr (.inr f)))))) (ht : tys[t0]? = some (cA, .object r.1)) (hv : ws[qk]? = some (v, .inr (ci, vs))) (hr : jCl[ci]? = some r) (hN : N' < 2 ^ 31) (h0 : 0 ≤ i ∧ i < N') (hi' : (jI i).toNatClampNeg = i') (hd : decode me.2.1 pc = .ok (.aastore, 1)) (k : mkW l D me mc ms Φ n lv st (ws.set q0 (a, .inl (cA, N', .inr (.inr (.inr (.inr (va_up f i' (some v)))))))) tys cells slots) : mkW l D me mc ms Φ pc lv (.ref v :: .int (jI i) :: .ref a :: st) ws tys cells slots := by
  subst hn
  subst hi'
  intro p e s m args below meth c heap locs ls A F hi N hA K P Dd V Y
  exact va_astq F.1 F.2.1 K P Dd V q0 t0 qk ci ha ht hv hr (jI_in hN h0.1 h0.2) hd (fun H1 locs1 hP hD hS => k p e s m args below meth c H1 locs1 ls A F hi N hA K hP hD hS Y)
theorem mk_vret (hc : Nat.ble cells mc = true) (hs : Nat.ble slots ms = true) (hr : me.2.2.2.1 = none) (hd : decode me.2.1 pc = .ok (.return_, 1)) (hq : Φ ws tys) : mkW l D me mc ms Φ pc lv [] ws tys cells slots := by
  intro p e s m args below meth c heap locs ls A F hi N hA K P Dd V Y
  refine W.widen (Nat.le_of_ble_eq_true hc) (Nat.le_of_ble_eq_true hs) ?_
  exact W.vret (hlocks := F.2.2.2.2.2.2) F.1 F.2.1 (F.2.2.2.2.2.1.trans hr) (fun t ht hW => ⟨⟨(ws, tys), rfl, hq, by rw [ht]; exact P, va_K.moved hW.alike K, Dd⟩, V.F ht⟩) V.2.2 hd
/-- the same world in other words -/
theorem mkW.as {ws' : va_W} {tys' : mkT} (h : ws' = ws) (h2 : tys' = tys) (k : mkW l D me mc ms Φ pc lv st ws' tys' cells slots) : mkW l D me mc ms Φ pc lv st ws tys cells slots := by
  subst h
  subst h2
  exact k
/-- what was made last is given to its constructor: in its place comes what this makes -/
theorem mkJoin {A : Nat → Prop} {q ci : Nat} {fs : List Value} {H H1 : Heap} {w1 : va_W} (hP : va_P D jCl (ws ++ [(q, .inr (ci, fs))]) H) (hD : va_D A (ws ++ [(q, .inr (ci, fs))])) (hk : ∀ x : Nat, x < H.size → ¬ va_A [(q, .inr (ci, fs))] H.size x → H1[x]? = H[x]?) (hF : ∀ x, va_A [(q, .inr (ci, fs))] H.size x → A x) (hP1 : va_P D jCl w1 H1) (hD1 : va_D (va_A [(q, .inr (ci, fs))] H.size) w1) : va_P D jCl (ws ++ w1) H1 ∧ va_D A (ws ++ w1) := by
  have lft : ∀ (k9 : Nat) (x : Nat × va_E), ws[k9]? = some x → (ws ++ [(q, .inr (ci, fs))])[k9]? = some x ∧ k9 < ws.length := fun k9 x hx => by
    have hl : k9 < ws.length := (List.getElem?_eq_some_iff.mp hx).1
    exact ⟨by rw [List.getElem?_append_left hl]; exact hx, hl⟩
  have lst : (ws ++ [((q, .inr (ci, fs)) : Nat × va_E)])[ws.length]? = some (q, .inr (ci, fs)) := by simp
  have apart : ∀ (k9 : Nat) (x : Nat × va_E), ws[k9]? = some x → x.1 < H.size ∧ ¬ va_A [(q, .inr (ci, fs))] H.size x.1 := fun k9 x hx => by
    obtain ⟨h1, h2⟩ := lft k9 x hx
    have hlt := (hP k9 x h1).lt
    refine ⟨hlt, fun h => ?_⟩
    rcases h with ⟨k2, e2, h⟩ | h
    · have hz : k2 < 1 := (List.getElem?_eq_some_iff.mp h).1
      rw [show k2 = 0 by omega] at h
      have hx1 : q = x.1 := by cases h; rfl
      have := hD.1 k9 ws.length x _ h1 lst hx1.symm
      omega
    · omega
  have hDw : va_D A ws := ⟨fun i j x y hx hy h => hD.1 i j x y (lft i x hx).1 (lft j y hy).1 h, fun k9 x hx => hD.2 k9 x (lft k9 x hx).1⟩
  refine ⟨va_P.app (fun k9 x hx => ?_) hP1, va_D.app hDw (hD1.weaken (fun _ x _ h => hF x.1 h)) (fun i j x y hx hy hxy => ?_)⟩
  · obtain ⟨g1, g2⟩ := apart k9 x hx
    exact (hP k9 x (lft k9 x hx).1).kept (hk x.1 g1 g2)
  · exact (apart i x hx).2 (by rw [hxy]; exact hD1.2 j y hy)
theorem mkLast {A : Nat → Prop} {x : Nat × va_E} {H : Heap} (hP : va_P D jCl (ws ++ [x]) H) (hD : va_D A (ws ++ [x])) : va_P D jCl [x] H ∧ va_D (fun _ => True) [x] := by
  refine ⟨fun k9 y hy => hP (ws.length + k9) y ?_, fun i j y z hy hz h => ?_, fun _ _ _ => trivial⟩
  · rw [List.getElem?_append_right (by omega), Nat.add_sub_cancel_left]; exact hy
  · have h1 : i < 1 := (List.getElem?_eq_some_iff.mp hy).1
    have h2 : j < 1 := (List.getElem?_eq_some_iff.mp hz).1
    omega
theorem mk_call (n : Nat) (hn : pc + 3 = n) {y : MethodName} {bs : ByteArray} {nl fr lo ix q ci mc' ms' : Nat} {fs : List Value} {Φ' : va_W → mkT → Prop} (hd : decode me.2.1 pc = .ok (.invokespecial ix, 3)) (hN : ∀ U, mkNest U → va_Nw (.methodLinkNest me.1.cls ix y RX4) U) (hl : Cond.initialized y.cls ∈ jW ∧ Cond.code y bs nl none ∈ jW ∧ (y.cls ≠ "java/lang/invoke/MethodHandle" ∧ y.cls ≠ "java/lang/invoke/VarHandle" ∧ (parseMethodDescriptor y.desc).map (fun d => d.parameters.length) = some 0) ∧ Cond.instanceMethod y ∈ jW) (hy : y.name = "<init>") (hf : jFit me (y, bs, nl, none, fr, lo) = true) (hcat : jCat st = true) (hc : Nat.ble (cells + mc') mc = true) (hs : Nat.ble (slots + ms') ms = true) (hok : mkOk l D (y, bs, nl, none, fr, lo) mc' ms' q ci fs Φ') (k : ∀ ws1 tys1, Φ' ws1 tys1 → mkW l D me mc ms Φ n lv st (ws ++ ws1) (tys ++ tys1) (cells + mc') (slots + ms')) : mkW l D me mc ms Φ pc lv (.ref q :: st) (ws ++ [(q, .inr (ci, fs))]) tys cells slots := by
  subst hn
  intro p e s m args below meth c heap locs ls A F hi N hA K P Dd V Y
  obtain ⟨hPc, hDc⟩ := mkLast P Dd
  have hFc := va_free (wc := [(q, .inr (ci, fs))]) Dd V hA [ws.length] (by simp)
  have cw : va_CN (mkR me mc ms) s args me.1.cls ix y RX4 bs nl none (jWd (y, bs, nl, none, fr, lo)) (mkR (y, bs, nl, none, fr, lo) mc' ms') mc' ms' 0 := va_cnB 0 F.2.2.2.2.1 (jGood (me := me) (me' := (y, bs, nl, none, fr, lo)) hl.2.1) rfl rfl rfl (hN s N) (F.2.2.2.2.1 _ (List.mem_cons_of_mem _ hl.1)) hl.2.2.1 (jFit_of hf)
  refine va_callv (va_runIN (As := []) (rest := st) ⟨F.1, F.2.1, F.2.2.1, F.2.2.2.1, F.2.2.2.2.1⟩ (hok heap.size) ⟨cw, hy, F.2.2.2.2.1 _ (List.mem_cons_of_mem _ hl.2.2.2)⟩ ⟨fun a U g mk z => by obtain ⟨z0, z1, zP, zK, zD, zN⟩ := z; exact ⟨z0, z1, zP, va_K.moved (u := U) (U := U.calling g mk a) (Vm.Alike.refl U.vm) zK, zD, zN.blind⟩, fun U hU hW => ⟨rfl, by rw [hU], by rw [hU]; exact hPc, va_K.moved hW.alike (K.sub (tys' := []) [] rfl), hDc, N.go hW⟩⟩ rfl rfl Y.1 rfl (lv_room (Nat.le_of_ble_eq_true hcat)) hd ⟨Nat.le_of_ble_eq_true hc, Nat.le_of_ble_eq_true hs⟩) V (fun q _ h => hFc q h) hFc (fun u t H1 locs1 ht hvm hw hB hz1 hk1 hS => ?_)
  obtain ⟨ws1, tys1⟩ := u
  obtain ⟨hP1, hK1, hD1⟩ := hB
  rw [ht] at hP1
  have hK1 := va_K.moved hvm.symm hK1
  obtain ⟨hP2, hD2⟩ := mkJoin P Dd hk1 hFc hP1 hD1
  exact k ws1 tys1 hw p e s m args below meth c H1 locs1 ls A F hi N hA (K.app hK1) hP2 hD2 hS Y
end MKROWS
