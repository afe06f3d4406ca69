/-! ===== new int[3][60]: the one array of arrays that the class makes ===== -/
def g_in (cI : ClassId) : Cell := { cls := cI, slots := Array.replicate 60 (.int 0), vm := .none }
def g_o (cA : ClassId) (h : Nat) : Nat → Cell
  | 0 => { cls := cA, slots := Array.replicate 3 .null, vm := .none }
  | i + 1 => (g_o cA h i).setSlot i (.ref (h + 1 + i))
/-- the machine with the outer array and i of its rows -/
def g_f (T : State) (cA cI : ClassId) : Nat → State
  | 0 => T.pushCell (g_o cA T.heap.size 0)
  | i + 1 => ((g_f T cA cI i).pushCell (g_in cI)).setCell T.heap.size (g_o cA T.heap.size (i + 1))
theorem g_o_is (cA : ClassId) (h : Nat) : ∀ i, (g_o cA h i).cls = cA ∧ (g_o cA h i).vm = .none ∧ (g_o cA h i).slots.size = 3
  | 0 => ⟨rfl, rfl, by simp [g_o]⟩
  | i + 1 => by
    obtain ⟨a, b, d⟩ := g_o_is cA h i
    exact ⟨by simp [g_o, Cell.setSlot, a], by simp [g_o, Cell.setSlot, b], by simp [g_o, Cell.setSlot, d]⟩
theorem g_f_is (T : State) (cA cI : ClassId) : ∀ i, (g_f T cA cI i).heap.size = T.heap.size + 1 + i ∧ (g_f T cA cI i).heap[T.heap.size]? = some (g_o cA T.heap.size i) ∧ (g_f T cA cI i).vm = T.vm ∧ (g_f T cA cI i).slotsUsed = T.slotsUsed + 3 + i * 60 ∧ (∀ a, a < T.heap.size → (g_f T cA cI i).heap[a]? = T.heap[a]?) ∧ (∀ j, j < i → (g_f T cA cI i).heap[T.heap.size + 1 + j]? = some (g_in cI))
  | 0 => ⟨by simp [g_f], by simp [g_f], rfl, by simp [g_f, g_o], fun a ha => State.heap_pushCell_of_lt _ _ ha, fun j hj => absurd hj (Nat.not_lt_zero _)⟩
  | i + 1 => by
    obtain ⟨a, b, d, u, o, n⟩ := g_f_is T cA cI i
    have hlt : T.heap.size < (g_f T cA cI i).heap.size := by omega
    have hb' : ((g_f T cA cI i).pushCell (g_in cI)).heap[T.heap.size]? = some (g_o cA T.heap.size i) := by rw [State.heap_pushCell_of_lt (h := hlt)]; exact b
    refine ⟨?_, State.heap_setCell_self hb', by simp [g_f, d], ?_, fun x hx => ?_, fun j hj => ?_⟩
    · simp [g_f, State.setCell, a]; omega
    · simp [g_f, u, g_in, Nat.succ_mul]; omega
    · show (((g_f T cA cI i).pushCell (g_in cI)).setCell T.heap.size _).heap[x]? = _
      have hx2 : x < (g_f T cA cI i).heap.size := by omega
      rw [State.heap_setCell_other (Nat.ne_of_gt hx), State.heap_pushCell_of_lt (h := hx2)]
      exact o x hx
    · show (((g_f T cA cI i).pushCell (g_in cI)).setCell T.heap.size _).heap[T.heap.size + 1 + j]? = _
      rw [State.heap_setCell_other (show T.heap.size ≠ T.heap.size + 1 + j by omega)]
      by_cases e : j = i
      · subst e
        rw [← a]
        exact State.heap_pushCell_size _ _
      · have hj2 : T.heap.size + 1 + j < (g_f T cA cI i).heap.size := by omega
        rw [State.heap_pushCell_of_lt (h := hj2)]
        exact n j (by omega)
theorem g_f_top (T : State) (f : JFrame) (cA cI : ClassId) : ∀ i, g_f (T.setTop f) cA cI i = (g_f T cA cI i).setTop f
  | 0 => rfl
  | i + 1 => by simp only [g_f, g_f_top T f cA cI i, State.heap_setTop, State.pushCell_setTop, State.setCell_setTop]
section GWP
variable {E : CtlPost} {e : Env} {d : Bool} {acts : List Action} {s : State}
theorem g_newArray {c comp : ClassId} {k : Class} {type : FieldType} {len : Nat} {init : Value} (hk : s.vm.classes[c]? = some k) (hkind : k.kind = .array comp type)
    (hlimit : ¬ len > e.platform.arrayLengthLimit) (hheap : ¬ len * componentBytes type > e.platform.maxHeapBytes) (hfit : fits type init = true) (hdef : init.isDefault = true) {Q : Addr → Pre}
    (h1 : s.heap.size < e.platform.maxCells) (h2 : s.slotsUsed + len ≤ e.platform.maxSlots)
    (hq : Q s.heap.size d acts (s.pushCell { cls := c, slots := Array.replicate len init, vm := .none })) :
    wp (Jvm.newArray c len init) Q E e d acts s := by
  have hfits : ∀ i v, (Array.replicate len init)[i]? = some v → s.fitsSlot c .none i v = true := by
    intro i v hv
    simp only [Array.getElem?_replicate] at hv
    split at hv
    · cases hv; simp [State.fitsSlot, State.slotType?, hk, hkind, hfit]
    · cases hv
  have hda : allocActs (Array.replicate len init) s.heap.size acts = acts := by
    have hall : ((Array.replicate len init).all (·.isDefault)) = true := by
      rw [Array.all_replicate]; split <;> simp [hdef]
    unfold allocActs; rw [if_pos hall]
  simp only [Jvm.newArray, Jvm.arrayFits, wp_bind', W.ask, W.ite, hlimit, if_false, wp_pure', W.theClass, hk, hkind, hheap, W.alloc, W.stop, Option.some.injEq, exists_eq_left', Array.size_replicate, hda]
  rw [if_neg (by omega)]
  exact ⟨h1, h2, hfits, hq⟩
theorem g_make1 {cI cc : ClassId} {kI : Class} {m : Int32} (hkI : s.vm.classes[cI]? = some kI) (hkindI : kI.kind = .array cc .int) (hm : ¬ m < 0) (m60 : m.toNatClampNeg = 60)
    (hl2 : ¬ 60 > e.platform.arrayLengthLimit) (hh2 : ¬ 60 * componentBytes .int > e.platform.maxHeapBytes)
    (h1 : s.heap.size < e.platform.maxCells) (h2 : s.slotsUsed + 60 ≤ e.platform.maxSlots)
    {Q : Addr → Pre} (hq : Q s.heap.size d acts (s.pushCell (g_in cI))) :
    wp (multianewarray.make cI [m]) Q E e d acts s := by
  rw [multianewarray.make]
  simp only [wp_bind', W.ite, hm, if_false, wp_pure', W.theClass, hkI, hkindI, Option.some.injEq, exists_eq_left']
  rw [m60]
  exact g_newArray hkI hkindI hl2 hh2 rfl rfl h1 h2 hq
theorem g_make {cA cI cc : ClassId} {kA kI : Class} {n m : Int32} (hkA : s.vm.classes[cA]? = some kA) (hkindA : kA.kind = .array cI (.array .int))
    (hkI : s.vm.classes[cI]? = some kI) (hkindI : kI.kind = .array cc .int) (hn : ¬ n < 0) (hm : ¬ m < 0) (n3 : n.toNatClampNeg = 3) (m60 : m.toNatClampNeg = 60)
    (hl1 : ¬ 3 > e.platform.arrayLengthLimit) (hh1 : ¬ 3 * componentBytes (.array .int) > e.platform.maxHeapBytes)
    (hl2 : ¬ 60 > e.platform.arrayLengthLimit) (hh2 : ¬ 60 * componentBytes .int > e.platform.maxHeapBytes)
    (hc : s.heap.size + 4 ≤ e.platform.maxCells) (hs : s.slotsUsed + 183 ≤ e.platform.maxSlots)
    {Q : Addr → Pre} (hq : ∀ d' acts', Q s.heap.size d' acts' (g_f s cA cI 3)) :
    wp (multianewarray.make cA [n, m]) Q E e d acts s := by
  have hfind : ([m].find? (· < 0)) = none := by simp [hm]
  rw [multianewarray.make]
  simp only [wp_bind', W.ite, hn, if_false, wp_pure', W.theClass, hkA, hkindA, Option.some.injEq, exists_eq_left']
  rw [n3]
  refine g_newArray hkA hkindA hl1 hh1 rfl rfl (by omega) (by omega) ?_
  simp only [hfind]
  rw [ite_self, wp_bind', Std.Legacy.Range.forIn_eq_forIn_range']
  have hsz : ([:3] : Std.Legacy.Range).size = 3 := by simp [Std.Legacy.Range.size]
  rw [hsz]
  show wp (forIn (List.range' 0 3 1) PUnit.unit _) _ E e d acts _
  refine wp_forIn_inv (fun rest s' => ∃ i, i ≤ 3 ∧ rest = List.range' i (3 - i) ∧ s' = g_f s cA cI i) _ _ ⟨0, Nat.zero_le _, rfl, rfl⟩ ?_ ?_
  · rintro x rest s' d' acts' Q' ⟨i, hi, hl, rfl⟩ hnext
    have hlt : i < 3 := by
      rcases Nat.lt_or_ge i 3 with h | h
      · exact h
      · rw [show 3 - i = 0 from by omega] at hl; simp at hl
    obtain ⟨rfl, hrest⟩ : x = i ∧ rest = List.range' (i + 1) (3 - (i + 1)) := by
      rw [show 3 - i = (3 - (i + 1)) + 1 from by omega, List.range'_succ] at hl
      exact ⟨(List.cons.inj hl).1, (List.cons.inj hl).2⟩
    obtain ⟨f1, f2, f3, f4, -, -⟩ := g_f_is s cA cI x
    obtain ⟨o1, o2, o3⟩ := g_o_is cA s.heap.size x
    simp only [wp_bind']
    refine g_make1 (by rw [f3]; exact hkI) hkindI hm m60 hl2 hh2 (by rw [f1]; omega) (by rw [f4]; omega) ?_
    have hlt0 : s.heap.size < (g_f s cA cI x).heap.size := by rw [f1]; omega
    simp only [wp_bind', W.writeLoc, wp_pure']
    refine ⟨g_o cA s.heap.size x, by rw [State.heap_pushCell_of_lt (h := hlt0)]; exact f2, by rw [o2]; simp, by rw [o3]; exact hlt, ?_, hnext _ _ _ ⟨x + 1, hlt, hrest, ?_⟩⟩
    · rw [o1, o2]
      simp [State.fitsSlot, State.slotType?, f3, hkA, hkindA, fits]
    · rw [f1]; rfl
  · rintro s' d' acts' ⟨i, hi, hl, rfl⟩
    have h3 : i = 3 := by
      rcases Nat.lt_or_ge i 3 with h | h
      · rw [show 3 - i = (3 - (i + 1)) + 1 from by omega, List.range'_succ] at hl; cases hl
      · omega
    subst h3
    simp only [wp_pure']
    exact hq _ _
end GWP
section GST
variable {p : Program} {l : Launch} {e : Env} {R : Room} {s : State} {m : MethodId} {args : Array Value} {below : List Frame} {meth : Method} {c : Code} {T : State} {H : Heap} {locs : List Loc} {cells slots : Nat} {Q : State → Prop}
variable {cc : ByteArray} {pc : Nat} {ls : Array Slot} {rest : List Value} {D : va_G} {cl : List vw_C} {A : Nat → Prop} {tys : List (ClassId × FieldType)} {ws : va_W} {H0 : Heap}
theorem g_stand (X : Stand p l e R s m args below meth c T locs cells slots) (cA cI : ClassId) :
    ∀ i, Stand p l e R s m args below meth c (g_f T cA cI i) (locs ++ (List.range i).map fun j => ⟨T.heap.size, j⟩) (cells + 1 + i) (slots + 3 + i * 60)
  | 0 => by
    have h := X.pushed (g_o cA T.heap.size 0)
    rw [(g_o_is cA T.heap.size 0).2.2] at h
    simpa [g_f] using h
  | i + 1 => by
    have Xi := g_stand X cA cI i
    obtain ⟨f1, f2, -, -, -, -⟩ := g_f_is T cA cI i
    have hlt0 : T.heap.size < (g_f T cA cI i).heap.size := by rw [f1]; omega
    have hcell : ((g_f T cA cI i).pushCell (g_in cI)).heap[T.heap.size]? = some (g_o cA T.heap.size i) := by rw [State.heap_pushCell_of_lt (h := hlt0)]; exact f2
    have h := (Xi.pushed (g_in cI)).stored hcell i (.ref (T.heap.size + 1 + i))
    have e1 : (g_in cI).slots.size = 60 := by simp [g_in]
    rw [e1] at h
    have e2 : (locs ++ (List.range (i + 1)).map fun j => (⟨T.heap.size, j⟩ : Loc)) = (locs ++ (List.range i).map fun j => (⟨T.heap.size, j⟩ : Loc)) ++ [⟨T.heap.size, i⟩] := by simp [List.range_succ, List.append_assoc]
    have e3 : slots + 3 + (i + 1) * 60 = slots + 3 + i * 60 + 60 := by rw [Nat.succ_mul]; omega
    rw [e2, e3]
    exact h
/-- the rows' references, as a place's contents -/
def g_rf (l : List Nat) : Nat → Option Nat := fun j => l[j]?
theorem g_o_cell (cA : ClassId) (h : Nat) : g_o cA h 3 = vp_cell cA (3, .inr (.inr (.inr (.inr (g_rf [h + 1, h + 2, h + 3]))))) := by
  rw [vp_cell_q]
  show ((({ cls := cA, slots := Array.replicate 3 .null, vm := .none } : Cell).setSlot 0 (.ref (h + 1 + 0))).setSlot 1 (.ref (h + 1 + 1))).setSlot 2 (.ref (h + 1 + 2)) = _
  rw [arrV_new, arrV_store, arrV_store, arrV_store]
  have ex : ∀ (f g : Nat → Value), (∀ j, j < 3 → f j = g j) → arrV cA 3 f = arrV cA 3 g := fun f g hfg => by
    show ({ cls := cA, slots := Array.ofFn (n := 3) fun j => f j.val, vm := .none } : Cell) = { cls := cA, slots := Array.ofFn (n := 3) fun j => g j.val, vm := .none }
    rw [show (fun j : Fin 3 => f j.val) = fun j : Fin 3 => g j.val from funext fun j => hfg j.val j.isLt]
  refine ex _ _ (fun j hj => ?_)
  rcases (by omega : j = 0 ∨ j = 1 ∨ j = 2) with rfl | rfl | rfl <;> simp [updV, g_rf, va_rf]
theorem g_in_cell (cI : ClassId) : g_in cI = vp_cell cI (60, .inl (fun _ => jI 0)) := by
  rw [vp_cell_i]
  exact arrV_new cI 60 (.int 0)
theorem g_mna (hexec : p.tables.exec = Jvm.exec) (hb : c.code = cc) {own : String} {index : Nat} (hown : s.vm.findClass own = some m.cls) (hclink : (Cond.classLink own index ("[" ++ (FieldType.array .int).toString)).before args s = true)
    (hover : va_Nw (.arrayOver (.array .int)) s) (harr : (Cond.arrayClass .int).before args s = true)
    (hK : va_K D cl tys s) (hP : va_P D cl ws H) (hD : va_D A ws) (hS : va_S A H0 H locs) (hA : ∀ q, H0.size ≤ q → A q) {n k : Int32} (n3 : n.toNatClampNeg = 3) (k60 : k.toNatClampNeg = 60) (hn : ¬ n < 0) (hk : ¬ k < 0) (hcells : cells + 4 ≤ R.cells) (hslots : slots + 183 ≤ R.slots) (hdg : decode cc pc = .ok (.multianewarray index 2, 4))
    (kk : ∀ (q r0 r1 r2 : Nat) (cA cI : ClassId) (H1 : Heap) (locs1 : List Loc), va_K D cl (tys ++ [(cA, .array .int), (cI, .int)]) s →
      va_P D cl (ws ++ [(q, .inl (cA, 3, .inr (.inr (.inr (.inr (g_rf [r0, r1, r2])))))), (r0, .inl (cI, 60, .inl (fun _ => jI 0))), (r1, .inl (cI, 60, .inl (fun _ => jI 0))), (r2, .inl (cI, 60, .inl (fun _ => jI 0)))]) H1 →
      va_D A (ws ++ [(q, .inl (cA, 3, .inr (.inr (.inr (.inr (g_rf [r0, r1, r2])))))), (r0, .inl (cI, 60, .inl (fun _ => jI 0))), (r1, .inl (cI, 60, .inl (fun _ => jI 0))), (r2, .inl (cI, 60, .inl (fun _ => jI 0)))]) → va_S A H0 H1 locs1 →
      W p l e R s m args below meth c H1 locs1 (cells + 4) (slots + 183) Q (F0 m (pc + 4) ls (.ref q :: rest))) : W p l e R s m args below meth c H locs cells slots Q (F0 m pc ls (.int k :: .int n :: rest)) := by
  intro T hT X
  subst hT
  have hpl : e.platform.magicAccessors = ({} : Platform).magicAccessors := by rw [X.admits.platform]
  obtain ⟨cI, cA, kA, hcI, -, hkA, hkindA, hnameA⟩ := arrayOverA_spec (t := .int) hover
  obtain ⟨cI', kI, cc0, hcI', hkI, hkindI⟩ := Cond.arrayClass_spec harr
  cases hcI'.symm.trans hcI
  obtain ⟨c0, hfc0, hcl⟩ := Cond.classLink_spec hown hclink e.platform hpl
  cases hnameA.symm.trans hfc0
  obtain ⟨hg₁, hwarm₁, hready₁⟩ := State.classEntry (e := e) X.warmed hcl
  generalize T.vm.noted m.cls index (.cls cA) = vm₁ at hg₁ hwarm₁ hready₁
  have hal : s.vm.Alike vm₁ := hwarm₁.alike
  obtain ⟨kA₁, hkA₁, heA⟩ := hal.2.2 _ _ hkA
  obtain ⟨kI₁, hkI₁, heI⟩ := hal.2.2 _ _ hkI
  have hkindA₁ : kA₁.kind = .array cI (.array .int) := by rw [heA]; exact hkindA
  have hkindI₁ : kI₁.kind = .array cc0 .int := by rw [heI]; exact hkindI
  have X₁ := X.noted hwarm₁
  obtain ⟨hr1, hr2⟩ := X.roomAbove hcells hslots
  have XF := g_stand X₁ cA cI 3
  obtain ⟨f1, f2, -, -, f5, f6⟩ := g_f_is (T.setVm vm₁) cA cI 3
  have eh : (T.setVm vm₁).heap = T.heap := rfl
  rw [eh] at f1 f2 f5 f6
  rw [g_o_cell] at f2
  have q1 := f6 0 (by decide)
  have q2 := f6 1 (by decide)
  have q3 := f6 2 (by decide)
  rw [g_in_cell] at q1 q2 q3
  have hPk : va_P D cl ws (g_f (T.setVm vm₁) cA cI 3).heap := hP.kept (fun k9 x hx => f5 x.1 ((hP k9 x hx).lt))
  have hlw : ∀ (k9 : Nat) (x : Nat × va_E), ws[k9]? = some x → x.1 < T.heap.size := fun k9 x hx => (hP k9 x hx).lt
  have hK2 : va_K D cl (tys ++ [(cA, .array .int), (cI, .int)]) s := by
    refine ⟨hK.1, fun k9 x hx => ?_⟩
    by_cases hl : k9 < tys.length
    · rw [List.getElem?_append_left hl] at hx
      exact hK.2 k9 x hx
    · rw [List.getElem?_append_right (by omega)] at hx
      have hz : k9 - tys.length < 2 := (List.getElem?_eq_some_iff.mp hx).1
      rcases (by omega : k9 - tys.length = 0 ∨ k9 - tys.length = 1) with z | z <;> rw [z] at hx <;> cases hx
      · exact ⟨fun N z => ⟨fun k h => (by cases h), kA, hkA, cI, hkindA⟩, hnameA⟩
      · exact ⟨fun N z => ⟨fun k h => (by cases h), kI, hkI, cc0, hkindI⟩, hcI⟩
  have hP2 : va_P D cl (ws ++ [(T.heap.size, .inl (cA, 3, .inr (.inr (.inr (.inr (g_rf [T.heap.size + 1, T.heap.size + 2, T.heap.size + 3])))))), (T.heap.size + 1, .inl (cI, 60, .inl (fun _ => jI 0))), (T.heap.size + 2, .inl (cI, 60, .inl (fun _ => jI 0))), (T.heap.size + 3, .inl (cI, 60, .inl (fun _ => jI 0)))]) (g_f (T.setVm vm₁) cA cI 3).heap := by
    refine hPk.app (fun k9 x hx => ?_)
    have hz : k9 < 4 := (List.getElem?_eq_some_iff.mp hx).1
    rcases (by omega : k9 = 0 ∨ k9 = 1 ∨ k9 = 2 ∨ k9 = 3) with z | z | z | z <;> subst z <;> cases hx
    · exact f2
    · exact q1
    · exact q2
    · exact q3
  have hD2 : va_D A (ws ++ [(T.heap.size, .inl (cA, 3, .inr (.inr (.inr (.inr (g_rf [T.heap.size + 1, T.heap.size + 2, T.heap.size + 3])))))), (T.heap.size + 1, .inl (cI, 60, .inl (fun _ => jI 0))), (T.heap.size + 2, .inl (cI, 60, .inl (fun _ => jI 0))), (T.heap.size + 3, .inl (cI, 60, .inl (fun _ => jI 0)))]) := by
    refine ⟨fun i j x y hx hy hxy => ?_, fun k9 x hx => ?_⟩
    · have hloc : ∀ (i : Nat) (x : Nat × va_E), (ws ++ [(T.heap.size, .inl (cA, 3, .inr (.inr (.inr (.inr (g_rf [T.heap.size + 1, T.heap.size + 2, T.heap.size + 3])))))), (T.heap.size + 1, .inl (cI, 60, .inl (fun _ => jI 0))), (T.heap.size + 2, .inl (cI, 60, .inl (fun _ => jI 0))), (T.heap.size + 3, .inl (cI, 60, .inl (fun _ => jI 0)))])[i]? = some x → (i < ws.length ∧ ws[i]? = some x ∧ x.1 < T.heap.size) ∨ (ws.length ≤ i ∧ x.1 = T.heap.size + (i - ws.length)) := fun i x hx => by
        by_cases hl : i < ws.length
        · rw [List.getElem?_append_left hl] at hx
          exact Or.inl ⟨hl, hx, hlw i x hx⟩
        · rw [List.getElem?_append_right (by omega)] at hx
          have hz : i - ws.length < 4 := (List.getElem?_eq_some_iff.mp hx).1
          refine Or.inr ⟨by omega, ?_⟩
          rcases (by omega : i - ws.length = 0 ∨ i - ws.length = 1 ∨ i - ws.length = 2 ∨ i - ws.length = 3) with z | z | z | z <;> rw [z] at hx ⊢ <;> cases hx <;> rfl
      rcases hloc i x hx with ⟨a1, a2, a3⟩ | ⟨a1, a2⟩ <;> rcases hloc j y hy with ⟨b1, b2, b3⟩ | ⟨b1, b2⟩
      · exact hD.1 i j x y a2 b2 hxy
      · omega
      · omega
      · omega
    · by_cases hl : k9 < ws.length
      · rw [List.getElem?_append_left hl] at hx
        exact hD.2 k9 x hx
      · rw [List.getElem?_append_right (by omega)] at hx
        have hz : k9 - ws.length < 4 := (List.getElem?_eq_some_iff.mp hx).1
        have h9 := hS.1
        rcases (by omega : k9 - ws.length = 0 ∨ k9 - ws.length = 1 ∨ k9 - ws.length = 2 ∨ k9 - ws.length = 3) with z | z | z | z <;> rw [z] at hx <;> cases hx <;> exact hA _ (by first | omega | (show H0.size ≤ _; omega))
  have hS2 : va_S A H0 (g_f (T.setVm vm₁) cA cI 3).heap (locs ++ (List.range 3).map fun j => ⟨T.heap.size, j⟩) := by
    refine ⟨Nat.le_trans hS.1 (by rw [f1]; omega), fun x h1 h2 => (f5 x (Nat.lt_of_lt_of_le h1 hS.1)).trans (hS.2.1 x h1 h2), fun x hx => ?_⟩
    rcases List.mem_append.mp hx with h | h
    · exact hS.2.2 x h
    · obtain ⟨j, -, rfl⟩ := List.mem_map.mp h
      exact hA _ hS.1
  obtain ⟨t', a1, b1⟩ := kk T.heap.size (T.heap.size + 1) (T.heap.size + 2) (T.heap.size + 3) cA cI (g_f (T.setVm vm₁) cA cI 3).heap _ hK2 hP2 hD2 hS2 (g_f (T.setVm vm₁) cA cI 3) rfl XF
  refine ⟨t', ?_, b1⟩
  have hl1 : ¬ 3 > e.platform.arrayLengthLimit := by rw [Launch.admits_arrayLengthLimit X.admits]; omega
  have hh1 : ¬ 3 * componentBytes (.array .int) > e.platform.maxHeapBytes := by
    rw [Launch.admits_maxHeapBytes X.admits]; show ¬ 3 * 4 > 536870912; omega
  have hl2 : ¬ 60 > e.platform.arrayLengthLimit := by rw [Launch.admits_arrayLengthLimit X.admits]; omega
  have hh2 : ¬ 60 * componentBytes .int > e.platform.maxHeapBytes := by
    rw [Launch.admits_maxHeapBytes X.admits]; show ¬ 60 * 4 > 536870912; omega
  have hdg' : decode c.code pc = .ok (.multianewarray index 2, 4) := by rw [hb]; exact hdg
  jvm_step X.here [hexec, hdg']
  simp only [multianewarray.sem, wp_bind', W.resolveClassAt_links (State.method?_setTop (F0 m pc ls (.int k :: .int n :: rest)) X.here.top) hg₁]
  rw [W.popN, if_neg (by decide)]
  refine ⟨F0 m pc ls (.int k :: .int n :: rest), State.topJava?_setTop' (s := T.setVm vm₁) _ X.here.top, [.int n, .int k], rest, rfl, rfl, ?_⟩
  simp only [List.mapM_cons, List.mapM_nil, wp_bind', wp_pure']
  refine g_make (kA := kA₁) (kI := kI₁) (cI := cI) (cc := cc0) hkA₁ hkindA₁ hkI₁ hkindI₁ hn hk n3 k60 hl1 hh1 hl2 hh2 (by show T.heap.size + 4 ≤ _; omega) (by show T.slotsUsed + 183 ≤ _; omega) (fun d' acts' => ?_)
  have eS : ((T.setTop (F0 m pc ls (.int k :: .int n :: rest))).setVm vm₁).setTop { F0 m pc ls (.int k :: .int n :: rest) with stack := rest } = (T.setVm vm₁).setTop { F0 m pc ls (.int k :: .int n :: rest) with stack := rest } := by
    show ((T.setVm vm₁).setTop _).setTop _ = _
    rw [State.setTop_setTop]
  rw [eS, g_f_top]
  simp only [wp_bind', W.mark, W.pushRef, State.topJava?_setTop' _ XF.here.top, Option.some.injEq, exists_eq_left', State.setTop_setTop, State.heap_setTop]
  intro acts
  simp [jvm, XF.here.top]
  exact a1
end GST
