/-! ===== the base: ints as Int, the world as one store, the walk's judgement jWP ===== -/
def jI (x : Int) : Int32 := Int32.ofInt x
def jL (x : Int) : Int64 := Int64.ofInt x
theorem jI_add (a b : Int) : jI a + jI b = jI (a + b) := by unfold jI; rw [Int32.ofInt_add]
theorem jI_sub (a b : Int) : jI a - jI b = jI (a - b) := by unfold jI; rw [Int32.ofInt_sub]
theorem jI_mul (a b : Int) : jI a * jI b = jI (a * b) := by unfold jI; rw [Int32.ofInt_mul]
theorem jI_neg (a : Int) : -jI a = jI (-a) := by unfold jI; rw [Int32.ofInt_neg]
theorem jL_add (a b : Int) : jL a + jL b = jL (a + b) := by unfold jL; rw [Int64.ofInt_add]
theorem jL_sub (a b : Int) : jL a - jL b = jL (a - b) := by unfold jL; rw [Int64.ofInt_sub]
theorem jL_mul (a b : Int) : jL a * jL b = jL (a * b) := by unfold jL; rw [Int64.ofInt_mul]
theorem jI_toInt {a : Int} (h : -2147483648 ≤ a ∧ a ≤ 2147483647) : (jI a).toInt = a := by
  unfold jI
  exact Int32.toInt_ofInt_of_le (by omega) (by omega)
theorem jL_toInt {a : Int} (h : -9223372036854775808 ≤ a ∧ a ≤ 9223372036854775807) : (jL a).toInt = a := by
  unfold jL
  exact Int64.toInt_ofInt_of_le (by omega) (by omega)
theorem jI_of (x : Int32) : jI x.toInt = x := by unfold jI; exact Int32.ofInt_toInt x
theorem jI_rng (x : Int32) : -2147483648 ≤ x.toInt ∧ x.toInt ≤ 2147483647 := by
  have h1 := Int32.le_toInt x
  have h2 := Int32.toInt_lt x
  omega
theorem jL_of (x : Int64) : jL x.toInt = x := by unfold jL; exact Int64.ofInt_toInt x
theorem jL_rng (x : Int64) : -9223372036854775808 ≤ x.toInt ∧ x.toInt ≤ 9223372036854775807 := by
  have h1 := Int64.le_toInt x
  have h2 := Int64.toInt_lt x
  omega
theorem jI_lt {a b : Int} (ha : -2147483648 ≤ a ∧ a ≤ 2147483647) (hb : -2147483648 ≤ b ∧ b ≤ 2147483647) : jI a < jI b ↔ a < b := by
  rw [Int32.lt_iff_toInt_lt, jI_toInt ha, jI_toInt hb]
theorem jI_le {a b : Int} (ha : -2147483648 ≤ a ∧ a ≤ 2147483647) (hb : -2147483648 ≤ b ∧ b ≤ 2147483647) : jI a ≤ jI b ↔ a ≤ b := by
  rw [Int32.le_iff_toInt_le, jI_toInt ha, jI_toInt hb]
theorem jI_eq {a b : Int} (ha : -2147483648 ≤ a ∧ a ≤ 2147483647) (hb : -2147483648 ≤ b ∧ b ≤ 2147483647) : jI a = jI b ↔ a = b := by
  refine ⟨fun h => ?_, fun h => by rw [h]⟩
  have := congrArg Int32.toInt h
  rwa [jI_toInt ha, jI_toInt hb] at this
theorem jL_lt {a b : Int} (ha : -9223372036854775808 ≤ a ∧ a ≤ 9223372036854775807) (hb : -9223372036854775808 ≤ b ∧ b ≤ 9223372036854775807) : jL a < jL b ↔ a < b := by
  rw [Int64.lt_iff_toInt_lt, jL_toInt ha, jL_toInt hb]
theorem jL_eq {a b : Int} (ha : -9223372036854775808 ≤ a ∧ a ≤ 9223372036854775807) (hb : -9223372036854775808 ≤ b ∧ b ≤ 9223372036854775807) : jL a = jL b ↔ a = b := by
  refine ⟨fun h => ?_, fun h => by rw [h]⟩
  have := congrArg Int64.toInt h
  rwa [jL_toInt ha, jL_toInt hb] at this
theorem jI_0 : jI 0 = 0 := rfl
theorem jI_cl {a : Int} (h0 : 0 ≤ a) (h : a ≤ 2147483647) : (jI a).toNatClampNeg = a.toNat := by
  show (jI a).toInt.toNat = a.toNat
  rw [jI_toInt (by omega)]
theorem jI_in {a : Int} {n : Nat} (hn : n < 2 ^ 31) (h0 : 0 ≤ a) (h : a < n) : vp_in (jI a) n := by
  have hn' : (n : Int) < 2147483648 := by omega
  intro q
  rcases q with q | q
  · rw [← jI_0, jI_lt (by omega) (by omega)] at q
    omega
  · rw [jI_cl h0 (by omega)] at q
    omega
theorem jI_i2l {a : Int} (h : -2147483648 ≤ a ∧ a ≤ 2147483647) : (jI a).toInt64 = jL a := by
  have h1 : (jI a).toInt64.toInt = a := by rw [Int32.toInt_toInt64, jI_toInt h]
  rw [← jL_of (jI a).toInt64, h1]
theorem jL_l2i (a : Int) : (jL a).toInt32 = jI a := by
  unfold jL jI
  first | exact Int64.toInt32_ofInt | simp
/-! the store -/
abbrev jH : Type := Nat → Int → Int
def jU (H : jH) (k : Nat) (i v : Int) : jH := fun a b => if a = k ∧ b = i then v else H a b
def jR (H : jH) : Prop := ∀ k i, -2147483648 ≤ H k i ∧ H k i ≤ 2147483647
theorem jR_u {H : jH} (h : jR H) {k : Nat} {i v : Int} (hv : -2147483648 ≤ v ∧ v ≤ 2147483647) : jR (jU H k i v) := by
  intro a b
  unfold jU
  split
  · exact hv
  · exact h a b
abbrev jE : Type := Launch × va_G × (Nat → Nat) × (Nat → ClassId)
def jK : Nat := 78
def j_shpL : List (Nat ⊕ (Nat ⊕ Nat)) := [.inr (.inr 4), .inr (.inr 0), .inl 35, .inl 9, .inl 9, .inl 9, .inl 9, .inr (.inr 3), .inl 24, .inl 24, .inl 24, .inl 8, .inl 8, .inr (.inl 4),
  .inr (.inr 2), .inl 60, .inr (.inr 2), .inl 60, .inr (.inr 2), .inl 60, .inr (.inr 2), .inl 60,
  .inr (.inr 1), .inl 9, .inl 9, .inl 9, .inl 9, .inr (.inl 3), .inl 60, .inl 60, .inl 60, .inl 60, .inl 60, .inl 9, .inl 9, .inl 9, .inl 9,
  .inr (.inr 1), .inl 9, .inl 9, .inl 9, .inl 9, .inr (.inl 3), .inl 60, .inl 60, .inl 60, .inl 60, .inl 60, .inl 9, .inl 9, .inl 9, .inl 9,
  .inl 37, .inl 10, .inl 9, .inl 9,
  .inr (.inr 5), .inl 4, .inl 4, .inl 240, .inl 60, .inl 35, .inl 27, .inl 9, .inl 72, .inl 180, .inl 60, .inl 60, .inl 540, .inl 9, .inl 9, .inl 9, .inl 9, .inl 9, .inl 6, .inl 6, .inl 16, .inl 10]
def j_refL : List (List (Option Nat)) := [[some 1, some 6, none, some 7, some 11, some 12, none, some 13, none, some 22, none, some 37, some 52, some 53, some 54, some 55], [some 2, none, none, none, some 3, some 4, some 5], [], [], [], [], [], [some 8, some 9, some 10, none], [], [], [], [], [], [some 14, some 16, some 18, some 20],
  [none, none, none, some 15], [], [none, none, none, some 17], [], [none, none, none, some 19], [], [none, none, none, some 21], [],
  [none, some 23, some 24, some 25, some 26, none, some 27, some 31, some 32, some 33, some 34, some 35, some 36, none, none, none], [], [], [], [], [some 28, some 29, some 30], [], [], [], [], [], [], [], [], [],
  [none, some 38, some 39, some 40, some 41, none, some 42, some 46, some 47, some 48, some 49, some 50, some 51, none, none, none], [], [], [], [], [some 43, some 44, some 45], [], [], [], [], [], [], [], [], [],
  [], [], [], [],
  [some 57, some 58, some 59, some 60, none, some 61, none, none, none, some 62, some 63, none, none, some 64, some 65, some 66, some 67, some 68, some 69, some 70, some 71, none, some 72, some 73, some 74, some 75, none, some 76, some 77], [], [], [], [], [], [], [], [], [], [], [], [], [], [], [], [], [], [], [], [], []]
def j_shp (k : Nat) : Nat ⊕ (Nat ⊕ Nat) := j_shpL.getD k (.inl 0)
def j_ref (k j : Nat) : Option Nat := (j_refL.getD k []).getD j none
def j_ty (k : Nat) : FieldType := if k = 13 then .object RX2 else if k = 27 ∨ k = 42 then .array .int else .int
abbrev jCl : List vw_C := [(RX0, TX0, 7), (RX1, TX1, 16), (RX2, TX2, 4), (RX3, TX3, 4), (RX4, TX4, 16), (RX5, TX5, 29)]
def jRF (E : jE) (k : Nat) : Value := .ref (E.2.2.1 k)
def jFld (E : jE) (H : jH) (k j : Nat) (o : Option Nat) : Value := match o with
  | some a => .ref (E.2.2.1 a)
  | none => .int (jI (H k j))
def jFlds (E : jE) (H : jH) (k : Nat) : List Value := (j_refL.getD k []).mapIdx (fun j o => jFld E H k j o)
def jCell (E : jE) (H : jH) (k : Nat) : va_E := match j_shp k with
  | .inl n => .inl (E.2.2.2 k, (n, .inl (fun j => jI (H k j))))
  | .inr (.inl n) => .inl (E.2.2.2 k, (n, .inr (.inr (.inr (.inr (fun j => (j_ref k j).map E.2.2.1))))))
  | .inr (.inr ci) => .inr (ci, jFlds E H k)
def jWs (E : jE) (H : jH) : va_W := (List.range jK).map (fun k => (E.2.2.1 k, jCell E H k))
def jTys (E : jE) : List (ClassId × FieldType) := (List.range jK).map (fun k => (E.2.2.2 k, j_ty k))
def jA (E : jE) : Nat → Prop := fun q => ∃ k : Nat, k < jK ∧ q = E.2.2.1 k
theorem jWs_get (E : jE) (H : jH) {k : Nat} (h : k < jK) : (jWs E H)[k]? = some (E.2.2.1 k, jCell E H k) := by
  unfold jWs
  rw [List.getElem?_map, List.getElem?_range h]
  rfl
theorem jTys_get (E : jE) {k : Nat} (h : k < jK) : (jTys E)[k]? = some (E.2.2.2 k, j_ty k) := by
  unfold jTys
  rw [List.getElem?_map, List.getElem?_range h]
  rfl
theorem jWs_set (E : jE) (H H' : jH) {k : Nat} (h : k < jK) {e : va_E} (he : e = jCell E H' k) (ho : ∀ a, a ≠ k → H' a = H a) : (jWs E H).set k (E.2.2.1 k, e) = jWs E H' := by
  apply List.ext_getElem?
  intro i
  by_cases hi : i < jK
  · rw [jWs_get E H' hi, List.getElem?_set]
    by_cases hk : k = i
    · subst hk
      have hl : k < (jWs E H).length := by unfold jWs; simpa using h
      simp [hl, he]
    · rw [if_neg hk, jWs_get E H hi]
      have : H' i = H i := ho i (fun q => hk q.symm)
      unfold jCell jFlds jFld
      rw [this]
  · have e1 : (jWs E H').length = jK := by unfold jWs; simp
    have e2 : ((jWs E H).set k (E.2.2.1 k, e)).length = jK := by unfold jWs; simp
    rw [List.getElem?_eq_none (by omega), List.getElem?_eq_none (by omega)]
theorem jU_other (H : jH) (k : Nat) (i v : Int) : ∀ a, a ≠ k → jU H k i v a = H a := by
  intro a ha
  funext b
  unfold jU
  rw [if_neg (fun q => ha q.1)]
def jInj (E : jE) : Prop := ∀ i j : Nat, i < jK → j < jK → E.2.2.1 i = E.2.2.1 j → i = j
theorem jWs_at {E : jE} {H : jH} {i : Nat} {q : Nat × va_E} (h : (jWs E H)[i]? = some q) : i < jK ∧ q = (E.2.2.1 i, jCell E H i) := by
  have e1 : (jWs E H).length = jK := by unfold jWs; simp
  have hi : i < jK := by rw [← e1]; exact (List.getElem?_eq_some_iff.mp h).1
  rw [jWs_get E H hi] at h
  exact ⟨hi, (Option.some.inj h).symm⟩
theorem jD {E : jE} (hi : jInj E) (H : jH) : va_D (jA E) (jWs E H) := by
  refine ⟨fun i j p q h1 h2 h3 => ?_, fun k q h => ?_⟩
  · obtain ⟨a1, a2⟩ := jWs_at h1
    obtain ⟨b1, b2⟩ := jWs_at h2
    rw [a2, b2] at h3
    exact hi i j a1 b1 h3
  · obtain ⟨a1, a2⟩ := jWs_at h
    rw [a2]
    exact ⟨k, a1, rfl⟩
/-! words -/
def jW : List Cond := lw_tbl.filter goodWord
theorem jW_of {w : Cond} (h : w ∈ lw_tbl) (g : goodWord w = true) : w ∈ jW := List.mem_filter.mpr ⟨h, g⟩
abbrev jM : Type := MethodName × ByteArray × Nat × Option FieldType × Nat × Nat
def jWd (me : jM) : List Cond := .code me.1 me.2.1 me.2.2.1 me.2.2.2.1 :: jW
def jRoom (me : jM) : Room := { frames := me.2.2.2.2.1, cells := 0, slots := 0, locals := me.2.2.2.2.2 }
theorem jGood {me me' : jM} (h : Cond.code me'.1 me'.2.1 me'.2.2.1 me'.2.2.2.1 ∈ jW) : GoodIn (jWd me) (jWd me') := by
  intro w hw
  have h1 : w ∈ jW := by
    rcases List.mem_cons.mp hw with rfl | q
    · exact h
    · exact q
  exact ⟨List.mem_cons_of_mem _ h1, good_of_word (List.mem_filter.mp h1).2⟩
