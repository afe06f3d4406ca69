/-! ===== masks: bits of ints ===== -/
def bt (x b : Int) : Bool := (jI x).toBitVec.getLsbD b.toNat
theorem jI_bv (x : Int) : (jI x).toBitVec = BitVec.ofInt 32 x := rfl
theorem jb_bt (x : Int32) (b : Int) : bt (jb x) b = x.toBitVec.getLsbD b.toNat := by unfold bt; rw [jb_I]
theorem bt_or (x y b : Int) : bt (bOr x y) b = (bt x b || bt y b) := by
  show bt (jb _) b = _
  rw [jb_bt, Int32.toBitVec_or, BitVec.getLsbD_or]
  rfl
theorem bt_and (x y b : Int) : bt (bAnd x y) b = (bt x b && bt y b) := by
  show bt (jb _) b = _
  rw [jb_bt, Int32.toBitVec_and, BitVec.getLsbD_and]
  rfl
theorem bt_not {x b : Int} (h : 0 ≤ b ∧ b < 32) : bt (bXor x (-1)) b = !bt x b := by
  show bt (jb _) b = _
  rw [jb_bt, Int32.toBitVec_xor, BitVec.getLsbD_xor]
  have e : (jI (-1)).toBitVec = BitVec.allOnes 32 := by decide
  rw [e, BitVec.getLsbD_allOnes]
  have : b.toNat < 32 := by omega
  simp [this, bt]
theorem bt_0 (b : Int) : bt 0 b = false := by
  unfold bt
  have e : (jI 0).toBitVec = 0#32 := by decide
  rw [e, BitVec.getLsbD_zero]
theorem bt_big {x b : Int} (h : 32 ≤ b) : bt x b = false := by
  unfold bt
  exact BitVec.getLsbD_of_ge _ _ (by omega)
theorem bt_ext {x y : Int} (hx : -2147483648 ≤ x ∧ x ≤ 2147483647) (hy : -2147483648 ≤ y ∧ y ≤ 2147483647) (h : ∀ b, 0 ≤ b → b < 32 → bt x b = bt y b) : x = y := by
  have e : jI x = jI y := by
    apply Int32.toBitVec_inj.mp
    apply BitVec.eq_of_getLsbD_eq
    intro i hi
    have := h i (by omega) (by omega)
    unfold bt at this
    simpa using this
  exact (jI_eq hx hy).mp e
theorem sh_k : ∀ k : Fin 32, (jI (k : Nat) &&& 31) = jI (k : Nat) ∧ ((jI (k : Nat)).toBitVec.smod 32).toNat = k := by decide
theorem sh_amt {k : Int} (h : 0 ≤ k ∧ k < 32) : (jI k &&& 31) = jI k ∧ ((jI k).toBitVec.smod 32).toNat = k.toNat := by
  have h1 := sh_k ⟨k.toNat, by omega⟩
  have e : ((k.toNat : Nat) : Int) = k := Int.toNat_of_nonneg h.1
  simp only [e] at h1
  exact h1
theorem bt_one {b : Int} (h : 0 ≤ b) : bt 1 b = decide (b = 0) := by
  unfold bt
  have e3 : (jI 1).toBitVec = 1#32 := by decide
  rw [e3, BitVec.getLsbD_one]
  by_cases hb : b = 0
  · subst hb; decide
  · have : ¬ b.toNat = 0 := by omega
    simp [hb]
    omega
theorem bt_shr0 {x k : Int} (h : 0 ≤ k ∧ k < 32) : bt (bShr x k) 0 = bt x k := by
  obtain ⟨h1, h2⟩ := sh_amt h
  show bt (jb _) 0 = _
  rw [jb_bt, h1]
  have e2 : (jI x >>> jI k).toBitVec = (jI x).toBitVec.sshiftRight k.toNat := by
    rw [Int32.toBitVec_shiftRight]
    show (jI x).toBitVec.sshiftRight' _ = _
    unfold BitVec.sshiftRight'
    rw [h2]
  rw [e2, BitVec.getLsbD_sshiftRight]
  have hk : k.toNat < 32 := by omega
  simp [hk, bt]
theorem bt_shr1 {x k : Int} (h : 0 ≤ k ∧ k < 32) : bAnd (bShr x k) 1 = if bt x k then 1 else 0 := by
  apply bt_ext (jb_r _) (by split <;> omega)
  intro b h0 h3
  rw [bt_and, bt_one h0]
  by_cases hb : b = 0
  · subst hb
    rw [bt_shr0 h]
    cases bt x k with
    | true => decide
    | false => decide
  · cases bt x k with
    | true => simp [hb, bt_one h0]
    | false => simp [hb, bt_0]
theorem bt_shl1 {k b : Int} (h : 0 ≤ k ∧ k < 32) (hb : 0 ≤ b ∧ b < 32) : bt (bShl 1 k) b = decide (b = k) := by
  obtain ⟨h1, h2⟩ := sh_amt h
  show bt (jb _) b = _
  rw [jb_bt, h1, Int32.toBitVec_shiftLeft]
  have e3 : (jI 1).toBitVec = 1#32 := by decide
  rw [e3, BitVec.shiftLeft_eq', h2, BitVec.getLsbD_shiftLeft, BitVec.getLsbD_one]
  by_cases hk : b = k
  · subst hk
    simp
    omega
  · have : ¬ (b.toNat - k.toNat = 0 ∧ ¬ b.toNat < k.toNat) := by omega
    simp [hk]
    intro q
    omega
/-! a mask of the first n boxes -/
def mkN (f : Int → Bool) : Nat → Int
  | 0 => 0
  | n + 1 => mkN f n + (if f n then 2 ^ n else 0)
def mkI (f : Int → Bool) (n : Int) : Int := mkN f n.toNat
theorem mkI_0 (f : Int → Bool) : mkI f 0 = 0 := rfl
theorem mkI_s (f : Int → Bool) {n : Int} (h : 0 ≤ n) : mkI f (n + 1) = mkI f n + (if f n then 2 ^ n.toNat else 0) := by
  unfold mkI
  have e : (n + 1).toNat = n.toNat + 1 := by omega
  have e2 : ((n.toNat : Nat) : Int) = n := Int.toNat_of_nonneg h
  rw [e, mkN, e2]
theorem mkN_lt (f : Int → Bool) : ∀ n : Nat, 0 ≤ mkN f n ∧ mkN f n < 2 ^ n
  | 0 => by simp [mkN]
  | n + 1 => by
    have h := mkN_lt f n
    have h2 : (2 : Int) ^ (n + 1) = 2 ^ n + 2 ^ n := by rw [Int.pow_succ]; omega
    unfold mkN
    split <;> omega
theorem mkI_lt (f : Int → Bool) {n : Int} (h : 0 ≤ n ∧ n ≤ 9) : 0 ≤ mkI f n ∧ mkI f n < 512 := by
  have h1 := mkN_lt f n.toNat
  have h3 : 2 ^ n.toNat ≤ 2 ^ 9 := Nat.pow_le_pow_right (by omega) (by omega)
  have h4 : ((2 ^ n.toNat : Nat) : Int) = (2 : Int) ^ n.toNat := by norm_cast
  unfold mkI
  omega
theorem mkN_cong {f g : Int → Bool} : ∀ n : Nat, (∀ b : Nat, b < n → f b = g b) → mkN f n = mkN g n
  | 0, _ => rfl
  | n + 1, h => by rw [mkN, mkN, mkN_cong n (fun b hb => h b (by omega)), h n (by omega)]
theorem mkI_cong {f g : Int → Bool} {n : Int} (h : ∀ b : Int, 0 ≤ b → b < n → f b = g b) : mkI f n = mkI g n := mkN_cong _ (fun b hb => h b (by omega) (by omega))
theorem mkN_nat (f : Int → Bool) (n : Nat) : ∃ m : Nat, mkN f n = (m : Int) := ⟨(mkN f n).toNat, by have := mkN_lt f n; omega⟩
theorem bt_nat (m : Nat) (b : Int) : bt (m : Int) b = (decide (b.toNat < 32) && m.testBit b.toNat) := by
  unfold bt
  rw [jI_bv, BitVec.ofInt_natCast, BitVec.getLsbD_ofNat]
theorem mkN_bit (f : Int → Bool) : ∀ (n b : Nat), ((mkN f n).toNat).testBit b = (decide (b < n) && f b)
  | 0, b => by simp [mkN]
  | n + 1, b => by
    have hl := mkN_lt f n
    have ih := mkN_bit f n b
    have hnat : ((mkN f n).toNat : Int) = mkN f n := Int.toNat_of_nonneg hl.1
    have hlt : (mkN f n).toNat < 2 ^ n := by
      have : ((2 ^ n : Nat) : Int) = (2 : Int) ^ n := by norm_cast
      omega
    unfold mkN
    by_cases hf : f n
    · have e : (mkN f n + 2 ^ n).toNat = 2 ^ n + (mkN f n).toNat := by
        have : ((2 ^ n : Nat) : Int) = (2 : Int) ^ n := by norm_cast
        omega
      rw [if_pos hf, e]
      by_cases hb : b = n
      · subst hb
        rw [Nat.testBit_two_pow_add_eq, ih]
        simp [hf]
      · by_cases hb2 : b < n
        · rw [Nat.testBit_two_pow_add_gt hb2, ih]
          simp [hb2, Nat.lt_succ_of_lt hb2]
        · have h3 : 2 ^ n + (mkN f n).toNat < 2 ^ b := by
            have : 2 ^ (n + 1) ≤ 2 ^ b := Nat.pow_le_pow_right (by omega) (by omega)
            rw [Nat.pow_succ] at this
            omega
          rw [Nat.testBit_lt_two_pow h3]
          simp
          omega
    · rw [if_neg hf, Int.add_zero, ih]
      by_cases hb : b = n
      · subst hb
        simp [hf]
      · by_cases hb2 : b < n
        · simp [hb2, Nat.lt_succ_of_lt hb2]
        · simp [hb2]
          omega
theorem bt_mk (f : Int → Bool) {n b : Int} (hn : 0 ≤ n ∧ n ≤ 31) (hb : 0 ≤ b) : bt (mkI f n) b = (decide (b < n) && f b) := by
  have hl := mkN_lt f n.toNat
  have hnat : ((mkN f n.toNat).toNat : Int) = mkN f n.toNat := Int.toNat_of_nonneg hl.1
  have e2 : ((b.toNat : Nat) : Int) = b := Int.toNat_of_nonneg hb
  unfold mkI
  rw [← hnat, bt_nat, mkN_bit, e2]
  by_cases h : b < n
  · have h1 : b.toNat < n.toNat := by omega
    have h2 : b.toNat < 32 := by omega
    simp [h, h1, h2]
  · have h1 : ¬ b.toNat < n.toNat := by omega
    simp [h, h1]
theorem mkI_or (f : Int → Bool) {n : Int} (hn : 0 ≤ n ∧ n ≤ 8) : bOr (mkI f n) (bShl 1 n) = mkI f n + 2 ^ n.toNat := by
  have hl := mkI_lt f (n := n) (by omega)
  have e : mkI f n + 2 ^ n.toNat = mkI (fun b => decide (b = n) || f b) (n + 1) := by
    rw [mkI_s _ hn.1]
    rw [mkI_cong (f := fun b => decide (b = n) || f b) (g := f) (n := n) (fun b h0 h1 => by simp [show ¬ b = n by omega])]
    simp
  have hl2 := mkI_lt (fun b => decide (b = n) || f b) (n := n + 1) (by omega)
  rw [e]
  apply bt_ext (jb_r _) (by omega)
  intro b h0 h1
  rw [bt_or, bt_mk f (by omega) h0, bt_shl1 (by omega) ⟨h0, h1⟩, bt_mk _ (by omega) h0]
  by_cases hb : b = n
  · subst hb
    simp
    omega
  · by_cases hb2 : b < n
    · simp [hb, hb2]
      intro; omega
    · simp [hb, hb2]
      omega
theorem bAnd_ne {x y : Int} : bAnd x y ≠ 0 ↔ ∃ b, 0 ≤ b ∧ b < 32 ∧ bt x b = true ∧ bt y b = true := by
  refine ⟨fun h => ?_, fun ⟨b, h0, h1, h2, h3⟩ h => ?_⟩
  · apply Classical.byContradiction
    intro hn
    apply h
    apply bt_ext (jb_r _) (by omega)
    intro b h0 h1
    rw [bt_and, bt_0]
    cases hx : bt x b with
    | false => rfl
    | true =>
      cases hy : bt y b with
      | false => rfl
      | true => exact absurd ⟨b, h0, h1, hx, hy⟩ hn
  · have := bt_and x y b
    rw [h, bt_0, h2, h3] at this
    cases this
/-! is there one, of the first n -/
def anyN (f : Int → Bool) : Nat → Bool
  | 0 => false
  | n + 1 => anyN f n || f n
def anyI (f : Int → Bool) (n : Int) : Bool := anyN f n.toNat
theorem anyI_0 (f : Int → Bool) : anyI f 0 = false := rfl
theorem anyI_s (f : Int → Bool) {n : Int} (h : 0 ≤ n) : anyI f (n + 1) = (anyI f n || f n) := by
  unfold anyI
  have e : (n + 1).toNat = n.toNat + 1 := by omega
  have e2 : ((n.toNat : Nat) : Int) = n := Int.toNat_of_nonneg h
  rw [e, anyN, e2]
theorem anyN_iff (f : Int → Bool) : ∀ n : Nat, anyN f n = true ↔ ∃ b : Nat, b < n ∧ f b = true
  | 0 => by simp [anyN]
  | n + 1 => by
    rw [anyN, Bool.or_eq_true, anyN_iff f n]
    constructor
    · rintro (⟨b, h1, h2⟩ | h)
      · exact ⟨b, by omega, h2⟩
      · exact ⟨n, by omega, h⟩
    · rintro ⟨b, h1, h2⟩
      by_cases hb : b = n
      · subst hb; exact Or.inr h2
      · exact Or.inl ⟨b, by omega, h2⟩
theorem anyI_iff (f : Int → Bool) (n : Int) : anyI f n = true ↔ ∃ b : Int, 0 ≤ b ∧ b < n ∧ f b = true := by
  unfold anyI
  rw [anyN_iff]
  constructor
  · rintro ⟨b, h1, h2⟩
    exact ⟨b, by omega, by omega, h2⟩
  · rintro ⟨b, h0, h1, h2⟩
    refine ⟨b.toNat, by omega, ?_⟩
    rw [Int.toNat_of_nonneg h0]
    exact h2
theorem anyI_cong {f g : Int → Bool} {n : Int} (h : ∀ b : Int, 0 ≤ b → b < n → f b = g b) : anyI f n = anyI g n := by
  have key : ∀ m : Nat, m ≤ n.toNat → anyN f m = anyN g m := by
    intro m
    induction m with
    | zero => intro _; rfl
    | succ m ih =>
      intro hm
      rw [anyN, anyN, ih (by omega), h m (by omega) (by omega)]
  exact key _ (Nat.le_refl _)
/-! how many bits, of nine -/
def oc (x : Int) : Int := (if bt x 0 then 1 else 0) + (if bt x 1 then 1 else 0) + (if bt x 2 then 1 else 0) + (if bt x 3 then 1 else 0) + (if bt x 4 then 1 else 0) + (if bt x 5 then 1 else 0) + (if bt x 6 then 1 else 0) + (if bt x 7 then 1 else 0) + (if bt x 8 then 1 else 0)
theorem oc_r (x : Int) : 0 ≤ oc x ∧ oc x ≤ 9 := by
  unfold oc
  repeat' split
  all_goals omega
def bc1 (x : Int) : Int := x - bAnd (bUshr x 1) 1431655765
def bc2 (x : Int) : Int := bAnd x 858993459 + bAnd (bUshr x 2) 858993459
def bc3 (x : Int) : Int := bAnd (x + bUshr x 4) 252645135
def bc4 (x : Int) : Int := x + bUshr x 8
def bc5 (x : Int) : Int := x + bUshr x 16
theorem bc_all : ∀ x : Fin 512, bAnd (bc5 (bc4 (bc3 (bc2 (bc1 ((x : Nat) : Int)))))) 63 = oc ((x : Nat) : Int) := by decide +kernel
theorem oc_all : ∀ x : Fin 512, ((x : Nat) : Int) ≠ 0 → oc (bAnd ((x : Nat) : Int) (((x : Nat) : Int) - 1)) + 1 = oc ((x : Nat) : Int) ∧ 0 ≤ bAnd ((x : Nat) : Int) (((x : Nat) : Int) - 1) ∧ bAnd ((x : Nat) : Int) (((x : Nat) : Int) - 1) < ((x : Nat) : Int) := by decide +kernel
theorem oc_zero : oc 0 = 0 := by decide
theorem oc_pos : ∀ x : Fin 512, ((x : Nat) : Int) ≠ 0 → 0 < oc ((x : Nat) : Int) := by decide +kernel
