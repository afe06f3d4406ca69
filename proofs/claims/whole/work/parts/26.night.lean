/-! ===== the class: night, looks ===== -/
def lotN (x : Int) : Nat → Int
  | 0 => x
  | n + 1 => 1103515245 * lotN x n + 12345
def lotI (x i : Int) : Int := lotN x i.toNat
theorem lotI_s (x : Int) {i : Int} (h : 0 ≤ i) : lotI x (i + 1) = 1103515245 * lotI x i + 12345 := by
  unfold lotI
  rw [show (i + 1).toNat = i.toNat + 1 by omega, lotN]
theorem ushr16 (x : Int) : 0 ≤ bUshr x 16 ∧ bUshr x 16 ≤ 65535 := by
  have h := pk_ushr (jI x) (jI 16) 16 (by decide)
  obtain ⟨y, hy⟩ : ∃ y, y = ((jI x).toUInt32 >>> ((jI 16).toUInt32 &&& Int32.toUInt32 31)).toInt32 := ⟨_, rfl⟩
  show 0 ≤ jb _ ∧ jb _ ≤ 65535
  rw [← hy] at h ⊢
  have hx : (jI x).toBitVec.toNat < 4294967296 := (jI x).toBitVec.isLt
  have hn : y.toBitVec.toNat < 65536 := by
    rw [h]
    have : (jI x).toBitVec.toNat / 2 ^ 16 < 65536 := by omega
    first | exact this | (rw [Nat.shiftRight_eq_div_pow]; exact this)
  have e : y.toInt = (y.toBitVec.toNat : Int) := by
    show y.toBitVec.toInt = _
    rw [BitVec.toInt_eq_toNat_cond]
    rw [if_pos (by omega)]
  unfold jb
  omega
/-- the turns of a night -/
def ngt (K : jH) (x s : Int) : Int := bOr (K 6 s) (bShl 1 (bUshr (lotI x (s + 1)) 16 % K 0 0))
def kNgt (K : jH) (x t : Int) : jH := kTrn K (fun s => if 0 ≤ s ∧ s < t + 1 ∧ 0 < K 0 0 then ngt K x s else K 6 s)
theorem kTrn_o {K : jH} {k : Nat} (h : k ≠ 6) (g : Int → Int) : kTrn K g k = K k := by funext i; unfold kTrn; rw [if_neg h]
theorem kTrn_6 (K : jH) (g : Int → Int) (i : Int) : kTrn K g 6 i = g i := by unfold kTrn; rw [if_pos rfl]
theorem cOk_trn {K : jH} (ok : cOk K) {g : Int → Int} (hv : ∀ t, 0 ≤ t → t < 60 → 0 ≤ g t ∧ g t < 512) : cOk (kTrn K g) := by
  obtain ⟨o1, o2, o3, o4, o5⟩ := ok
  unfold cOk
  rw [kTrn_o (k := 0) (by decide), kTrn_o (k := 1) (by decide), kTrn_o (k := 2) (by decide), kTrn_o (k := 3) (by decide), kTrn_o (k := 4) (by decide), kTrn_o (k := 7) (by decide), kTrn_o (k := 8) (by decide)]
  refine ⟨o1, o2, o3, o4, fun t t0 t1 => ?_⟩
  obtain ⟨a1, a2, a3⟩ := o5 t t0 t1
  rw [kTrn_6]
  exact ⟨hv t t0 t1, a2, a3⟩
theorem cOk_ngt {K : jH} (ok : cOk K) (x t : Int) : cOk (kNgt K x t) := by
  refine cOk_trn ok (fun s s0 s1 => ?_)
  have h6 := (ok.2.2.2.2 s s0 s1).1
  have hn := ok.1
  by_cases h : 0 ≤ s ∧ s < t + 1 ∧ 0 < K 0 0
  · rw [if_pos h]
    have hu := ushr16 (lotI x (s + 1))
    have h1 := Int.emod_nonneg (bUshr (lotI x (s + 1)) 16) (show K 0 0 ≠ 0 by omega)
    have h2 := Int.emod_lt_of_pos (bUshr (lotI x (s + 1)) 16) h.2.2
    exact or1_512 h6 ⟨h1, by omega⟩
  · rw [if_neg h]
    exact h6
theorem hold_trn {H K : jH} (h : hold 37 H K) (g : Int → Int) (n : Int) : hold 37 (jMp H 43 n g) (kTrn K (fun s => if 0 ≤ s ∧ s < n then g s else K 6 s)) := by
  obtain ⟨h1, h2, h3, h4⟩ := h
  refine ⟨by rw [jMp_k (by decide), kTrn_o (by decide)]; exact h1, by rw [jMp_k (by decide), kTrn_o (by decide)]; exact h2, fun b b0 b1 => ?_, fun t t0 t1 => ?_⟩
  · rw [jMp_k (by decide), jMp_k (by decide), jMp_k (by decide), jMp_k (by decide), kTrn_o (by decide), kTrn_o (by decide), kTrn_o (by decide), kTrn_o (by decide)]
    exact h3 b b0 b1
  · obtain ⟨a1, a2, a3⟩ := h4 t t0 t1
    rw [jMp_k (a := 37 + 7) (by decide), jMp_k (a := 37 + 8) (by decide), kTrn_o (k := 7) (by decide), kTrn_o (k := 8) (by decide), kTrn_6]
    refine ⟨?_, a2, a3⟩
    by_cases e : 0 ≤ t ∧ t < n
    · rw [if_pos e]; exact jMp_i e.1 e.2
    · rw [if_neg e]; exact (jMp_n (by omega)).trans a1
/-- the looks at a box by the bits of w -/
def kLook (K : jH) (b w t : Int) : jH := kLok K (fun s => if 0 ≤ s ∧ s < t + 1 then lk1 (K 7 s) b w s else K 7 s)
theorem kLok_o {K : jH} {k : Nat} (h : k ≠ 7) (g : Int → Int) : kLok K g k = K k := by funext i; unfold kLok; rw [if_neg h]
theorem kLok_7 (K : jH) (g : Int → Int) (i : Int) : kLok K g 7 i = g i := by unfold kLok; rw [if_pos rfl]
theorem lk1_bt {m b w i q : Int} (hb : 0 ≤ b ∧ b < 9) (hi : 0 ≤ i ∧ i < 32) (hq : 0 ≤ q ∧ q < 32) : bt (lk1 m b w i) q = if q = b then bt w i else bt m q := by
  unfold lk1
  rw [bt_or, bt_and, bt_not hq, bt_shl1 (by omega) hq, bt_shr1 hi]
  by_cases e : q = b
  · subst e
    rw [if_pos rfl]
    cases bt w i with
    | true => simp only [if_true]; rw [bt_shl1 (by omega) hq]; simp
    | false =>
      have : bShl 0 q = 0 := by
        have key : ∀ q : Fin 9, bShl 0 ((q : Nat) : Int) = 0 := by decide +kernel
        have := key ⟨q.toNat, by omega⟩
        simp only [Int.toNat_of_nonneg hq.1] at this
        exact this
      simp only [Bool.false_eq_true, if_false]
      rw [this, bt_0]
      simp
  · rw [if_neg e]
    cases bt w i with
    | true => simp only [if_true]; rw [bt_shl1 (by omega) hq]; simp [e]
    | false =>
      have : bShl 0 b = 0 := by
        have key : ∀ q : Fin 9, bShl 0 ((q : Nat) : Int) = 0 := by decide +kernel
        have := key ⟨b.toNat, by omega⟩
        simp only [Int.toNat_of_nonneg hb.1] at this
        exact this
      simp only [Bool.false_eq_true, if_false]
      rw [this, bt_0]
      simp [e]
theorem lk1_512 {m b w i : Int} (hm : 0 ≤ m ∧ m < 512) (hb : 0 ≤ b ∧ b < 9) (hi : 0 ≤ i ∧ i < 32) : 0 ≤ lk1 m b w i ∧ lk1 m b w i < 512 := by
  apply bt_512 (jb_r _)
  intro q q0 q1
  show bt (lk1 m b w i) q = false
  rw [lk1_bt hb hi (by omega), if_neg (by omega)]
  exact bt_of512 hm q0
theorem lk1_twice {m b w w2 i : Int} (hm : 0 ≤ m ∧ m < 512) (hb : 0 ≤ b ∧ b < 9) (hi : 0 ≤ i ∧ i < 32) : lk1 (lk1 m b w i) b w2 i = lk1 m b w2 i := by
  apply bt_ext (jb_r _) (jb_r _)
  intro q q0 q1
  show bt (lk1 (lk1 m b w i) b w2 i) q = bt (lk1 m b w2 i) q
  rw [lk1_bt hb hi ⟨q0, q1⟩, lk1_bt hb hi ⟨q0, q1⟩, lk1_bt hb hi ⟨q0, q1⟩]
  by_cases e : q = b
  · rw [if_pos e, if_pos e]
  · rw [if_neg e, if_neg e, if_neg e]
theorem cOk_look {K : jH} (ok : cOk K) {b : Int} (hb : 0 ≤ b ∧ b < 9) (w : Int) {t : Int} (ht : t < 10) : cOk (kLook K b w t) := by
  obtain ⟨o1, o2, o3, o4, o5⟩ := ok
  unfold cOk kLook
  rw [kLok_o (k := 0) (by decide), kLok_o (k := 1) (by decide), kLok_o (k := 2) (by decide), kLok_o (k := 3) (by decide), kLok_o (k := 4) (by decide), kLok_o (k := 6) (by decide), kLok_o (k := 8) (by decide)]
  refine ⟨o1, o2, o3, o4, fun s s0 s1 => ?_⟩
  obtain ⟨a1, a2, a3⟩ := o5 s s0 s1
  rw [kLok_7]
  refine ⟨a1, ?_, a3⟩
  by_cases e : 0 ≤ s ∧ s < t + 1
  · rw [if_pos e]; exact lk1_512 a2 hb (by omega)
  · rw [if_neg e]; exact a2
theorem hold_look {H K : jH} (ok : cOk K) {b : Int} (hb : 0 ≤ b ∧ b < 9) (w0 : Int) {t : Int} (ht : 0 ≤ t ∧ t < 10) (h : hold 37 H K ∨ hold 37 H (kLook K b w0 t)) (w : Int) : hold 37 (jMp H 44 (t + 1) (fun i => lk1 (H 44 i) b w i)) (kLook K b w t) := by
  have h7 : ∀ s, 0 ≤ s → s < 60 → H 44 s = K 7 s ∨ (s < t + 1 ∧ H 44 s = lk1 (K 7 s) b w0 s) := fun s s0 s1 => by
    rcases h with h | h
    · exact Or.inl (h.2.2.2 s s0 s1).2.1
    · have := (h.2.2.2 s s0 s1).2.1
      unfold kLook at this
      rw [kLok_7] at this
      by_cases e : 0 ≤ s ∧ s < t + 1
      · rw [if_pos e] at this; exact Or.inr ⟨e.2, this⟩
      · rw [if_neg e] at this; exact Or.inl this
  have h' : H 37 0 = K 0 0 ∧ H 37 5 = K 0 5 ∧ (∀ b, 0 ≤ b → b < 9 → H (37 + 1) b = K 1 b ∧ H (37 + 2) b = K 2 b ∧ H (37 + 3) b = K 3 b ∧ H (37 + 4) b = K 4 b) ∧ (∀ s, 0 ≤ s → s < 60 → H (37 + 6) s = K 6 s ∧ H (37 + 8) s = K 8 s) := by
    rcases h with ⟨h1, h2, h3, h4⟩ | ⟨h1, h2, h3, h4⟩
    · exact ⟨h1, h2, h3, fun s s0 s1 => ⟨(h4 s s0 s1).1, (h4 s s0 s1).2.2⟩⟩
    · unfold kLook at h1 h2 h3 h4
      rw [kLok_o (by decide)] at h1 h2
      refine ⟨h1, h2, fun q q0 q1 => ?_, fun s s0 s1 => ?_⟩
      · have := h3 q q0 q1
        rw [kLok_o (k := 1) (by decide), kLok_o (k := 2) (by decide), kLok_o (k := 3) (by decide), kLok_o (k := 4) (by decide)] at this
        exact this
      · have := h4 s s0 s1
        rw [kLok_o (k := 6) (by decide), kLok_o (k := 8) (by decide)] at this
        exact ⟨this.1, this.2.2⟩
  obtain ⟨h1, h2, h3, h4⟩ := h'
  unfold kLook
  refine ⟨by rw [jMp_k (by decide), kLok_o (by decide)]; exact h1, by rw [jMp_k (by decide), kLok_o (by decide)]; exact h2, fun q q0 q1 => ?_, fun s s0 s1 => ?_⟩
  · rw [jMp_k (by decide), jMp_k (by decide), jMp_k (by decide), jMp_k (by decide), kLok_o (by decide), kLok_o (by decide), kLok_o (by decide), kLok_o (by decide)]
    exact h3 q q0 q1
  · obtain ⟨a1, a3⟩ := h4 s s0 s1
    rw [jMp_k (a := 37 + 6) (by decide), jMp_k (a := 37 + 8) (by decide), kLok_o (k := 6) (by decide), kLok_o (k := 8) (by decide), kLok_7]
    refine ⟨a1, ?_, a3⟩
    have hm7 := (ok.2.2.2.2 s s0 s1).2.1
    by_cases e : 0 ≤ s ∧ s < t + 1
    · rw [if_pos e]
      show jMp H 44 (t + 1) (fun i => lk1 (H 44 i) b w i) 44 s = _
      rw [jMp_i e.1 e.2]
      rcases h7 s s0 s1 with q | ⟨_, q⟩
      · rw [q]
      · rw [q, lk1_twice hm7 hb (by omega)]
    · rw [if_neg e]
      show jMp H 44 (t + 1) (fun i => lk1 (H 44 i) b w i) 44 s = _
      rw [jMp_n (by omega)]
      rcases h7 s s0 s1 with q | ⟨q, _⟩
      · exact q
      · omega
/-- where the law does not heed looks they are nothing -/
theorem look_eq {K : jH} {b : Int} (hb : 0 ≤ b ∧ b < 9) (hl : K 1 b ≠ 2) (hn : K 0 0 ≤ 9) (w : Int) {t : Int} (ht : t < 10) : kEq (kLook K b w t) K := by
  unfold kLook
  refine ⟨by rw [kLok_o (by decide)], fun q q0 q1 => ?_, fun s s0 s1 q q0 q1 => ?_⟩
  · rw [kLok_o (by decide), kLok_o (by decide), kLok_o (by decide), kLok_o (by decide), kLok_o (by decide)]
    exact ⟨rfl, rfl, fun _ => rfl, rfl, rfl⟩
  · rw [kLok_o (k := 0) (by decide)] at q1
    rw [kLok_o (k := 1) (by decide), kLok_o (k := 6) (by decide), kLok_o (k := 8) (by decide), kLok_7]
    refine ⟨fun _ => rfl, fun hq => ?_, rfl⟩
    by_cases e : 0 ≤ s ∧ s < t + 1
    · rw [if_pos e, lk1_bt hb (by omega) (by omega), if_neg (fun z => hl (by rw [← z]; exact hq))]
    · rw [if_neg e]
/-! weights -/
def wtN (c w : Int) : Nat → Int
  | 0 => 1
  | n + 1 => wtN c w n * (if bt w n then c else 16 - c)
def wt (c w n : Int) : Int := wtN c w n.toNat
theorem wt_s (c w : Int) {n : Int} (h : 0 ≤ n) : wt c w (n + 1) = wt c w n * (if bt w n then c else 16 - c) := by
  unfold wt
  rw [show (n + 1).toNat = n.toNat + 1 by omega, wtN, Int.toNat_of_nonneg h]
theorem wtN_r {c : Int} (hc : 0 ≤ c ∧ c ≤ 16) (w : Int) : ∀ n : Nat, 0 ≤ wtN c w n ∧ wtN c w n ≤ 16 ^ n
  | 0 => by show (0 : Int) ≤ 1 ∧ (1 : Int) ≤ 1; omega
  | n + 1 => by
    have ih := wtN_r hc w n
    have h16 : (0 : Int) ≤ 16 ^ n := Int.pow_nonneg (by omega)
    rw [wtN, Int.pow_succ]
    split
    · exact ⟨Int.mul_nonneg ih.1 hc.1, Int.mul_le_mul ih.2 hc.2 hc.1 h16⟩
    · exact ⟨Int.mul_nonneg ih.1 (by omega), Int.mul_le_mul ih.2 (by omega) (by omega) h16⟩
def p16 (n : Int) : Int := 16 ^ n.toNat
theorem p16_all : ∀ t : Fin 10, bLshl 1 (4 * (((t : Nat) : Int) + 1)) = p16 (((t : Nat) : Int) + 1) := by decide +kernel
theorem p16_r {n : Int} (h : n ≤ 10) : 1 ≤ p16 n ∧ p16 n ≤ 1099511627776 := by
  unfold p16
  have h1 : (16 : Nat) ^ n.toNat ≤ 16 ^ 10 := Nat.pow_le_pow_right (by omega) (by omega)
  have h2 : 1 ≤ (16 : Nat) ^ n.toNat := Nat.pow_pos (by omega)
  have h3 : (((16 : Nat) ^ n.toNat : Nat) : Int) = (16 : Int) ^ n.toNat := by norm_cast
  rw [← h3]
  omega
theorem wt_r {c : Int} (hc : 0 ≤ c ∧ c ≤ 16) (w : Int) {n : Int} (h : n ≤ 10) : 0 ≤ wt c w n ∧ wt c w n ≤ 1099511627776 := by
  have := wtN_r hc w n.toNat
  have h2 := (p16_r h).2
  unfold p16 at h2
  unfold wt
  omega
theorem wtN_cong {c w w2 : Int} : ∀ n : Nat, (∀ s : Nat, s < n → bt w s = bt w2 s) → wtN c w n = wtN c w2 n
  | 0, _ => rfl
  | n + 1, h => by rw [wtN, wtN, wtN_cong n (fun s hs => h s (by omega)), h n (by omega)]
theorem sumN_add (f g : Int → Int) : ∀ n : Nat, sumN (fun k => f k + g k) n = sumN f n + sumN g n
  | 0 => rfl
  | n + 1 => by rw [sumN, sumN, sumN, sumN_add f g n]; omega
theorem sumN_mul (f : Int → Int) (a : Int) : ∀ n : Nat, sumN (fun k => f k * a) n = sumN f n * a
  | 0 => by simp [sumN]
  | n + 1 => by rw [sumN, sumN, sumN_mul f a n, Int.add_mul]
theorem sumN_split (f : Int → Int) (m : Nat) : ∀ n : Nat, sumN f (m + n) = sumN f m + sumN (fun k => f (m + k)) n
  | 0 => by simp [sumN]
  | n + 1 => by
    rw [show m + (n + 1) = (m + n) + 1 by omega, sumN, sumN_split f m n, sumN]
    have : (((m + n : Nat)) : Int) = (m : Int) + (n : Int) := by omega
    rw [this]
    omega
theorem bt_natN (m s : Nat) (hs : s < 32) : bt (m : Int) (s : Int) = m.testBit s := by
  rw [bt_nat]
  simp [hs]
/-- all ways to look weigh 16 to the power of the steps -/
theorem wt_all (c : Int) : ∀ n : Nat, n ≤ 10 → sumN (fun w => wtN c w n) (2 ^ n) = 16 ^ n
  | 0, _ => by simp [sumN, wtN]
  | n + 1, hn => by
    have ih := wt_all c n (by omega)
    rw [Nat.pow_succ, show 2 ^ n * 2 = 2 ^ n + 2 ^ n by omega, sumN_split]
    have e1 : sumN (fun w => wtN c w (n + 1)) (2 ^ n) = sumN (fun w => wtN c w n * (16 - c)) (2 ^ n) := sumN_cong _ (fun k hk => by
      show wtN c k n * _ = _
      rw [bt_natN k n (by omega), Nat.testBit_lt_two_pow hk]
      rfl)
    have e2 : sumN (fun k => wtN c (((2 ^ n : Nat) : Int) + k) (n + 1)) (2 ^ n) = sumN (fun w => wtN c w n * c) (2 ^ n) := sumN_cong _ (fun k hk => by
      have ec : ((2 ^ n : Nat) : Int) + (k : Int) = ((2 ^ n + k : Nat) : Int) := by omega
      show wtN c (((2 ^ n : Nat) : Int) + (k : Int)) n * _ = _
      rw [ec, bt_natN _ n (by omega)]
      have hb : (2 ^ n + k).testBit n = true := by rw [Nat.testBit_two_pow_add_eq, Nat.testBit_lt_two_pow hk]; rfl
      rw [hb, wtN_cong (w2 := (k : Int)) n (fun s hs => by rw [bt_natN _ s (by omega), bt_natN _ s (by omega), Nat.testBit_two_pow_add_gt hs])]
      rfl)
    rw [e1, e2, sumN_mul, sumN_mul, ih, Int.pow_succ, ← Int.mul_add]
    congr 1
    omega
/-! the common divisor -/
theorem rem_half {a b : Int} (h0 : 0 < b) (h : b ≤ a) : 2 * (b * (a % b)) ≤ a * b := by
  have h1 := Int.emod_nonneg a (show b ≠ 0 by omega)
  have h2 := Int.emod_lt_of_pos a h0
  have h3 : a % b ≤ a - b := by
    have := Int.emod_add_mul_ediv a b
    have hq : 1 ≤ a / b := by
      have : b / b ≤ a / b := Int.ediv_le_ediv h0 h
      rw [Int.ediv_self (by omega)] at this
      exact this
    have : b * 1 ≤ b * (a / b) := Int.mul_le_mul_of_nonneg_left hq (by omega)
    omega
  have h4 : 2 * (a % b) ≤ a := by omega
  have h5 : b * (2 * (a % b)) ≤ b * a := Int.mul_le_mul_of_nonneg_left h4 (by omega)
  rw [Int.mul_comm a b]
  have e : b * (2 * (a % b)) = 2 * (b * (a % b)) := by rw [Int.mul_left_comm]
  omega
theorem lRem_n {a b : Int} (ha : 0 ≤ a ∧ a ≤ 9223372036854775807) (hb : 0 < b ∧ b ≤ 9223372036854775807) : lRem a b = a % b := by
  obtain ⟨x, rfl⟩ := Int.eq_ofNat_of_zero_le ha.1
  obtain ⟨y, rfl⟩ := Int.eq_ofNat_of_zero_le (show 0 ≤ b by omega)
  have e1 : jL (x : Int) = lN x := Int64.ofInt_eq_ofNat
  have e2 : jL (y : Int) = lN y := Int64.ofInt_eq_ofNat
  show (jL (x : Int) - jL (x : Int) / jL (y : Int) * jL (y : Int)).toInt = _
  rw [e1, e2, pk_lRem (by omega) (by omega) (by omega), pk_lT (by have := Nat.mod_le x y; omega)]
  rfl
theorem lDiv_n {a b : Int} (ha : 0 ≤ a ∧ a ≤ 9223372036854775807) (hb : 0 < b ∧ b ≤ 9223372036854775807) : lDiv a b = a / b := by
  obtain ⟨x, rfl⟩ := Int.eq_ofNat_of_zero_le ha.1
  obtain ⟨y, rfl⟩ := Int.eq_ofNat_of_zero_le (show 0 ≤ b by omega)
  have e1 : jL (x : Int) = lN x := Int64.ofInt_eq_ofNat
  have e2 : jL (y : Int) = lN y := Int64.ofInt_eq_ofNat
  show (jL (x : Int) / jL (y : Int)).toInt = _
  rw [e1, e2, pk_lDiv (by omega) (by omega) (by omega), pk_lT (by have := Nat.div_le_self x y; omega)]
  rfl
theorem gcd_step {a b : Int} (ha : 0 ≤ a) (hb : 0 < b) : Int.gcd b (a % b) = Int.gcd a b := by
  obtain ⟨x, rfl⟩ := Int.eq_ofNat_of_zero_le ha
  obtain ⟨y, rfl⟩ := Int.eq_ofNat_of_zero_le (show 0 ≤ b by omega)
  rw [← Int.natCast_emod, Int.gcd_natCast_natCast, Int.gcd_natCast_natCast, Nat.gcd_comm y, ← Nat.gcd_rec, Nat.gcd_comm]
section S26
variable {E : jE} {H K : jH}
-- X4_night
set_option maxHeartbeats 1000000 in
theorem s_night {x t w : Int} (ht : -2147483648 ≤ t ∧ t ≤ 2147483647) (hw : -2147483648 ≤ w ∧ w ≤ 2147483647) (h : CI H) : jOk E mX4_night [jRF E 0, .int (jI x), .int (jI t), .int (jI w)] H (jQi fun r H' => CQ H H' ∧ ((¬ (0 ≤ t ∧ t < 60 ∧ (w = 0 ∨ w = 1)) ∧ r = -2) ∨ ((0 ≤ t ∧ t < 60) ∧ w = 0 ∧ r = sumI (fun s => oc (pO (kNgt (cfg H) x t) s)) (t + 1)) ∨ ((0 ≤ t ∧ t < 60) ∧ w = 1 ∧ r = pU (kNgt (cfg H) x t) t))) := by
  have hn := parsed_n h.1.1 h.1.2.1
  have ok := cfg_ok h.1
  by_cases hok : (0 ≤ t ∧ t < 60 ∧ (w = 0 ∨ w = 1))
  rotate_left
  · refine jOk.rng (fun hR0 => ?_)
    refine jOk.ofe rfl (Nat.le_of_ble_eq_true rfl) (en_aiii_6 (E := E)) ?_
    refine j_iload_n 1 rfl rfl dX4_night_0 ?_
    refine jS1i 4 rfl dX4_night_1 lk_X4_137 rfl rfl (s_isStep (by omega)) (fun r1 H1 ⟨eh_, hr1⟩ => ?_)
    obtain rfl := eh_.symm
    refine j_if_eq 14 7 (by decide) rfl dX4_night_4 (by intro hR; first | omega | exact hR _ _ | exact jb_r _ | exact hR0 _ _ | assumption) (fun h4 => ?_) (fun h4 => ?_)
    · refine j_bipush 16 rfl rfl dX4_night_14 ?_
      refine j_ireti dX4_night_16 rfl ?_
      exact ⟨CQ.refl h, Or.inl ⟨by omega, rfl⟩⟩
    · refine j_iload_n 8 rfl rfl dX4_night_7 ?_
      refine jS1i 11 rfl dX4_night_8 lk_X4_140 rfl rfl (s_isEither (by omega)) (fun r8 H1 ⟨eh_, hr8⟩ => ?_)
      obtain rfl := eh_.symm
      refine j_if_ne 17 14 (by decide) rfl dX4_night_11 (by intro hR; first | omega | exact hR _ _ | exact jb_r _ | exact hR0 _ _ | assumption) (fun h11 => ?_) (fun h11 => ?_)
      · exfalso; omega
      · refine j_bipush 16 rfl rfl dX4_night_14 ?_
        refine j_ireti dX4_night_16 rfl ?_
        exact ⟨CQ.refl h, Or.inl ⟨by omega, rfl⟩⟩
  refine jOk.rng (fun hR0 => ?_)
  refine jOk.ofe rfl (Nat.le_of_ble_eq_true rfl) (en_aiii_6 (E := E)) ?_
  refine j_iload_n 1 rfl rfl dX4_night_0 ?_
  refine jS1i 4 rfl dX4_night_1 lk_X4_137 rfl rfl (s_isStep (by omega)) (fun r1 H1 ⟨eh_, hr1⟩ => ?_)
  obtain rfl := eh_.symm
  refine j_if_eq 14 7 (by decide) rfl dX4_night_4 (by intro hR; first | omega | exact hR _ _ | exact jb_r _ | exact hR0 _ _ | assumption) (fun h4 => ?_) (fun h4 => ?_)
  · exfalso; omega
  refine j_iload_n 8 rfl rfl dX4_night_7 ?_
  refine jS1i 11 rfl dX4_night_8 lk_X4_140 rfl rfl (s_isEither (by omega)) (fun r8 H1 ⟨eh_, hr8⟩ => ?_)
  obtain rfl := eh_.symm
  refine j_if_ne 17 14 (by decide) rfl dX4_night_11 (by intro hR; first | omega | exact hR _ _ | exact jb_r _ | exact hR0 _ _ | assumption) (fun h11 => ?_) (fun h11 => ?_)
  rotate_left
  · exfalso; omega
  refine j_aload_n 18 rfl rfl dX4_night_17 ?_
  refine j_getr 21 rfl 11 fl_X4_60 dX4_night_18 (by decide) ( rfl) ( rfl) ?_
  refine j_aload_n 22 rfl rfl dX4_night_21 ?_
  refine j_getr 25 rfl 0 fl_X4_12 dX4_night_22 (by decide) ( rfl) ( rfl) ?_
  refine j_aload_n 26 rfl rfl dX4_night_25 ?_
  refine j_getr 29 rfl 1 fl_X4_16 dX4_night_26 (by decide) ( rfl) ( rfl) ?_
  refine j_aload_n 30 rfl rfl dX4_night_29 ?_
  refine g_geti 33 rfl 2 2 rfl fl_X4_20 dX4_night_30 (by decide) ( rfl) ( rfl) ?_
  refine j_aload_n 34 rfl rfl dX4_night_33 ?_
  refine j_getr 37 rfl 3 fl_X4_27 dX4_night_34 (by decide) ( rfl) ( rfl) ?_
  refine jV4v 40 rfl dX4_night_37 lk_X4_161 rfl rfl (by decide) ( rfl) ( rfl) (r_load h.1) (fun H1 ⟨f0, hh0⟩ => ?_)
  have e1 : H1 1 = H 1 := f0 1 (by decide)
  have okn := cOk_ngt ok x t
  have fin : ∀ Hi x4 x5, tFr H Hi → hold 37 Hi (kNgt (cfg H) x t) → jWP E mX4_night (jQi fun r H' => CQ H H' ∧ ((¬ (0 ≤ t ∧ t < 60 ∧ (w = 0 ∨ w = 1)) ∧ r = -2) ∨ ((0 ≤ t ∧ t < 60) ∧ w = 0 ∧ r = sumI (fun s => oc (pO (kNgt (cfg H) x t) s)) (t + 1)) ∨ ((0 ≤ t ∧ t < 60) ∧ w = 1 ∧ r = pU (kNgt (cfg H) x t) t))) 109 [some (jRF E 0), some (.int (jI x)), some (.int (jI t)), some (.int (jI w)), x4, x5] [] Hi := by
    intro Hi x4 x5 g1 g2
    refine j_aload_n 110 rfl rfl dX4_night_109 ?_
    refine j_getr 113 rfl 11 fl_X4_60 dX4_night_110 (by decide) ( rfl) ( rfl) ?_
    refine j_iload_n 114 rfl rfl dX4_night_113 ?_
    refine jV1v 117 rfl dX4_night_114 lk_X4_187 rfl rfl (by decide) ( rfl) ( rfl) (r_run (by omega) g2 okn) (fun H3 ⟨q1, q2, q3⟩ => ?_)
    have hcq : CQ H H3 := cq_trial h (fun k a => (q1 k (by omega)).trans (g1 k (by omega)))
    refine j_iload_n 118 rfl rfl dX4_night_117 ?_
    refine j_if_ne 132 121 (by decide) rfl dX4_night_118 (by intro hR; first | omega | exact hR _ _ | exact jb_r _ | exact hR0 _ _ | assumption) (fun h2 => ?_) (fun h2 => ?_)
    · refine j_aload_n 133 rfl rfl dX4_night_132 ?_
      refine j_getr 136 rfl 11 fl_X4_60 dX4_night_133 (by decide) ( rfl) ( rfl) ?_
      refine j_getr 139 rfl 8 fl_X4_149 dX4_night_136 (by decide) ( rfl) ( rfl) ?_
      refine j_iload_n 140 rfl rfl dX4_night_139 ?_
      refine j_iald 141 rfl dX4_night_140 (by decide) rfl (by decide) rfl (by omega) ?_
      rw [(q3 t (by omega) (by omega)).2]
      refine j_ireti dX4_night_141 rfl ?_
      exact ⟨hcq, Or.inr (Or.inr ⟨by omega, by omega, rfl⟩)⟩
    · refine j_aload_n 122 rfl rfl dX4_night_121 ?_
      refine j_getr 125 rfl 11 fl_X4_60 dX4_night_122 (by decide) ( rfl) ( rfl) ?_
      refine j_iload_n 126 rfl rfl dX4_night_125 ?_
      refine jV1i 129 rfl dX4_night_126 lk_X4_218 rfl rfl (by decide) ( rfl) ( rfl) (s_openings_37 (by omega) (fun s s0 s1 => by rw [(q3 s s0 s1).1]; exact pO_r okn.1 s)) (fun r6 H6 ⟨eh_, hr6⟩ => ?_)
      obtain rfl := eh_.symm
      refine j_goto 141 (by decide) dX4_night_129 ?_
      refine j_ireti dX4_night_141 rfl ?_
      refine ⟨hcq, Or.inr (Or.inl ⟨by omega, h2, ?_⟩)⟩
      rw [hr6]
      exact sumI_cong (fun s s0 s1 => by rw [(q3 s s0 (by omega)).1])
  refine j_iload_n 41 rfl rfl dX4_night_40 ?_
  refine j_istore 43 rfl st_6_4 (by decide) rfl dX4_night_41 ?_
  refine j_iconst 44 rfl dX4_night_43 ?_
  refine j_istore 46 rfl st_6_5 (by decide) rfl dX4_night_44 ?_
  have loop := jUp 0 (t + 1) (fun i => 0 < H 1 3 → jWP E mX4_night (jQi fun r H' => CQ H H' ∧ ((¬ (0 ≤ t ∧ t < 60 ∧ (w = 0 ∨ w = 1)) ∧ r = -2) ∨ ((0 ≤ t ∧ t < 60) ∧ w = 0 ∧ r = sumI (fun s => oc (pO (kNgt (cfg H) x t) s)) (t + 1)) ∨ ((0 ≤ t ∧ t < 60) ∧ w = 1 ∧ r = pU (kNgt (cfg H) x t) t))) 46 [some (jRF E 0), some (.int (jI x)), some (.int (jI t)), some (.int (jI w)), some (.int (jI (lotI x i))), some (.int (jI i))] [] (jMp H1 43 i (ngt (cfg H) x))) ?_ ?_ 0 (by omega) (by omega)
  · by_cases hz : 0 < H 1 3
    · have := loop hz
      rw [jMp_0] at this
      exact this
    · refine j_iload 48 rfl rfl dX4_night_46 ?_
      refine j_iload_n 49 rfl rfl dX4_night_48 ?_
      refine j_icmp_gt 109 52 (by decide) rfl dX4_night_49 (by intro hR; first | omega | exact hR _ _ | exact jb_r _ | exact hR0 _ _ | assumption) (by intro hR; first | omega | exact hR _ _ | exact jb_r _ | exact hR0 _ _ | assumption) (fun h2 => ?_) (fun h2 => ?_)
      · exfalso; omega
      · refine j_aload_n 53 rfl rfl dX4_night_52 ?_
        refine j_getr 56 rfl 0 fl_X4_12 dX4_night_53 (by decide) ( rfl) ( rfl) ?_
        refine g_geti 59 rfl 3 3 rfl fl_X4_173 dX4_night_56 (by decide) ( rfl) ( rfl) ?_
        rw [e1]
        refine j_if_le 109 62 (by decide) rfl dX4_night_59 (by intro hR; first | omega | exact hR _ _ | exact jb_r _ | exact hR0 _ _ | assumption) (fun h3 => ?_) (fun h3 => ?_)
        · refine fin H1 _ _ f0 ?_
          have : kNgt (cfg H) x t = cfg H := by
            funext k i
            unfold kNgt kTrn
            by_cases q : k = 6
            · subst q
              rw [if_pos rfl]
              show (if 0 ≤ i ∧ i < t + 1 ∧ 0 < cfg H 0 0 then _ else _) = _
              rw [if_neg (fun z => hz z.2.2)]
            · rw [if_neg q]
          rw [this]
          exact hh0
        · exfalso; omega
  · intro hz
    refine j_iload 48 rfl rfl dX4_night_46 ?_
    refine j_iload_n 49 rfl rfl dX4_night_48 ?_
    refine j_icmp_gt 109 52 (by decide) rfl dX4_night_49 (by intro hR; first | omega | exact hR _ _ | exact jb_r _ | exact hR0 _ _ | assumption) (by intro hR; first | omega | exact hR _ _ | exact jb_r _ | exact hR0 _ _ | assumption) (fun h2 => ?_) (fun h2 => ?_)
    · refine fin _ _ _ (fun k a => by rw [jMp_o (by omega)]; exact f0 k a) ?_
      have q := hold_trn hh0 (ngt (cfg H) x) (t + 1)
      have e : kNgt (cfg H) x t = kTrn (cfg H) (fun s => if 0 ≤ s ∧ s < t + 1 then ngt (cfg H) x s else cfg H 6 s) := by
        unfold kNgt
        congr 1
        funext s
        by_cases q : 0 ≤ s ∧ s < t + 1
        · rw [if_pos q, if_pos ⟨q.1, q.2, hz⟩]
        · rw [if_neg q, if_neg (fun z => q ⟨z.1, z.2.1⟩)]
      rw [e]
      exact q
    · exfalso; omega
  · intro i h0 h1 ih hz
    have ih := ih hz
    rw [← jMp_s H1 43 (ngt (cfg H) x) h0, lotI_s x h0] at ih
    have h6 : H1 43 i = cfg H 6 i := (hh0.2.2.2 i h0 (by omega)).1
    have hu := ushr16 (1103515245 * lotI x i + 12345)
    refine j_iload 48 rfl rfl dX4_night_46 ?_
    refine j_iload_n 49 rfl rfl dX4_night_48 ?_
    refine j_icmp_gt 109 52 (by decide) rfl dX4_night_49 (by intro hR; first | omega | exact hR _ _ | exact jb_r _ | exact hR0 _ _ | assumption) (by intro hR; first | omega | exact hR _ _ | exact jb_r _ | exact hR0 _ _ | assumption) (fun h2 => ?_) (fun h2 => ?_)
    · exfalso; omega
    · refine j_aload_n 53 rfl rfl dX4_night_52 ?_
      refine j_getr 56 rfl 0 fl_X4_12 dX4_night_53 (by decide) ( rfl) ( rfl) ?_
      refine g_geti 59 rfl 3 3 rfl fl_X4_173 dX4_night_56 (by decide) ( rfl) ( rfl) ?_
      rw [jMp_k (by decide), e1]
      refine j_if_le 109 62 (by decide) rfl dX4_night_59 (by intro hR; first | omega | exact hR _ _ | exact jb_r _ | exact hR0 _ _ | assumption) (fun h3 => ?_) (fun h3 => ?_)
      · exfalso; omega
      · refine j_ldc 64 rfl kc_X4_213 dX4_night_62 ?_
        refine j_iload 66 rfl rfl dX4_night_64 ?_
        refine j_imul 67 rfl dX4_night_66 ?_
        refine j_sipush 70 rfl rfl dX4_night_67 ?_
        refine j_iadd 71 rfl dX4_night_70 ?_
        refine j_istore 73 rfl st_6_4 (by decide) rfl dX4_night_71 ?_
        refine j_aload_n 74 rfl rfl dX4_night_73 ?_
        refine j_getr 77 rfl 11 fl_X4_60 dX4_night_74 (by decide) ( rfl) ( rfl) ?_
        refine j_getr 80 rfl 6 fl_X4_214 dX4_night_77 (by decide) ( rfl) ( rfl) ?_
        refine j_iconst 81 rfl dX4_night_80 ?_
        refine j_aald 82 rfl dX4_night_81 (by decide) rfl (by decide) rfl (by omega) (rfl)  ?_
        refine j_iload 84 rfl rfl dX4_night_82 ?_
        refine j_dup2 85 rfl rfl rfl dX4_night_84 ?_
        refine j_iald 86 rfl dX4_night_85 (by decide) rfl (by decide) rfl (by omega) ?_
        rw [jMp_n (by omega), h6]
        refine j_iconst 87 rfl dX4_night_86 ?_
        refine j_iload 89 rfl rfl dX4_night_87 ?_
        refine j_bipush 91 rfl rfl dX4_night_89 ?_
        refine k_iushr 92 rfl dX4_night_91 ?_
        refine j_aload_n 93 rfl rfl dX4_night_92 ?_
        refine j_getr 96 rfl 0 fl_X4_12 dX4_night_93 (by decide) ( rfl) ( rfl) ?_
        refine g_geti 99 rfl 3 3 rfl fl_X4_173 dX4_night_96 (by decide) ( rfl) ( rfl) ?_
        rw [jMp_k (by decide), e1]
        refine k_irem 100 rfl (by omega) (by intro hR; first | omega | exact hR _ _ | exact jb_r _ | exact hR0 _ _ | assumption) dX4_night_99 ?_
        rw [iRem_n (by omega) (by omega)]
        refine k_ishl 101 rfl dX4_night_100 ?_
        refine k_ior 102 rfl dX4_night_101 ?_
        refine j_iast 103 rfl dX4_night_102 (by decide) rfl (by decide) rfl (by omega) (by intro _; exact jb_r _) ?_
        have en : ngt (cfg H) x i = bOr (cfg H 6 i) (bShl 1 (bUshr (1103515245 * lotI x i + 12345) 16 % H 1 3)) := by
          unfold ngt
          rw [lotI_s x h0]
          rfl
        rw [en] at ih
        refine j_iinc 106 rfl rfl st_6_5 (by decide) rfl dX4_night_103 ?_
        refine j_goto 46 (by decide) dX4_night_106 ?_
        exact ih
-- X4_wholeWeight
theorem s_wholeWeight {t : Int} (ht : 0 ≤ t ∧ t < 10) : jOk E mX4_wholeWeight [.int (jI t)] H (jQl fun r H' => H' = H ∧ r = p16 (t + 1)) := by
  refine jOk.rng (fun hR0 => ?_)
  refine jOk.ofe rfl (Nat.le_of_ble_eq_true rfl) (en_i_1 (E := E)) ?_
  refine j_lconst 1 rfl (x := 1) rfl dX4_wholeWeight_0 ?_
  refine j_iconst 2 rfl dX4_wholeWeight_1 ?_
  refine j_iload_n 3 rfl rfl dX4_wholeWeight_2 ?_
  refine j_iconst 4 rfl dX4_wholeWeight_3 ?_
  refine j_iadd 5 rfl dX4_wholeWeight_4 ?_
  refine j_imul 6 rfl dX4_wholeWeight_5 ?_
  refine k_lshl 7 rfl dX4_wholeWeight_6 ?_
  refine j_lretl dX4_wholeWeight_7 rfl ?_
  refine ⟨rfl, ?_⟩
  have := p16_all ⟨t.toNat, by omega⟩
  simp only [Int.toNat_of_nonneg ht.1] at this
  exact this
-- X4_weight
theorem s_weight {c w t : Int} (hc : 0 ≤ c ∧ c ≤ 16) (ht : 0 ≤ t ∧ t < 10) : jOk E mX4_weight [.int (jI c), .int (jI w), .int (jI t)] H (jQl fun r H' => H' = H ∧ r = wt c w (t + 1)) := by
  refine jOk.rng (fun hR0 => ?_)
  refine jOk.ofe rfl (Nat.le_of_ble_eq_true rfl) (en_iii_6 (E := E)) ?_
  refine j_lconst 1 rfl (x := 1) rfl dX4_weight_0 ?_
  refine j_lstore_n 2 rfl su_6_3 (by decide) (Nat.le_of_ble_eq_true rfl) rfl dX4_weight_1 ?_
  refine j_iconst 3 rfl dX4_weight_2 ?_
  refine j_istore 5 rfl st_6_5 (by decide) rfl dX4_weight_3 ?_
  have loop := jUp 0 (t + 1) (fun i => jWP E mX4_weight (jQl fun r H' => H' = H ∧ r = wt c w (t + 1)) 5 [some (.int (jI c)), some (.int (jI w)), some (.int (jI t)), some (.long (jL (wt c w i))), none, some (.int (jI i))] [] H) ?_ ?_ 0 (by omega) (by omega)
  · exact loop
  · refine j_iload 7 rfl rfl dX4_weight_5 ?_
    refine j_iload_n 8 rfl rfl dX4_weight_7 ?_
    refine j_icmp_gt 39 11 (by decide) rfl dX4_weight_8 (by intro hR; first | omega | exact hR _ _ | exact jb_r _ | exact hR0 _ _ | assumption) (by intro hR; first | omega | exact hR _ _ | exact jb_r _ | exact hR0 _ _ | assumption) (fun h => ?_) (fun h => ?_)
    · refine j_lload_n 40 rfl rfl dX4_weight_39 ?_
      refine j_lretl dX4_weight_40 rfl ?_
      exact ⟨rfl, rfl⟩
    · exfalso; omega
  · intro i h0 h1 ih
    rw [wt_s c w h0] at ih
    refine j_iload 7 rfl rfl dX4_weight_5 ?_
    refine j_iload_n 8 rfl rfl dX4_weight_7 ?_
    refine j_icmp_gt 39 11 (by decide) rfl dX4_weight_8 (by intro hR; first | omega | exact hR _ _ | exact jb_r _ | exact hR0 _ _ | assumption) (by intro hR; first | omega | exact hR _ _ | exact jb_r _ | exact hR0 _ _ | assumption) (fun h => ?_) (fun h => ?_)
    · exfalso; omega
    · refine j_lload_n 12 rfl rfl dX4_weight_11 ?_
      refine j_iload_n 13 rfl rfl dX4_weight_12 ?_
      refine j_iload 15 rfl rfl dX4_weight_13 ?_
      refine k_ishr 16 rfl dX4_weight_15 ?_
      refine j_iconst 17 rfl dX4_weight_16 ?_
      refine k_iand 18 rfl dX4_weight_17 ?_
      rw [bt_shr1 (by omega)]
      cases hx : bt w i with
      | true =>
        rw [hx] at ih
        simp only [if_true] at ih
        rw [if_pos rfl]
        refine j_if_eq 26 21 (by decide) rfl dX4_weight_18 (by intro hR; first | omega | exact hR _ _ | exact jb_r _ | exact hR0 _ _ | assumption) (fun h2 => ?_) (fun h2 => ?_)
        · exfalso; omega
        · refine j_iload_n 22 rfl rfl dX4_weight_21 ?_
          refine j_i2l 23 rfl (by intro hR; first | omega | exact hR _ _ | exact jb_r _ | exact hR0 _ _ | assumption) dX4_weight_22 ?_
          refine j_goto 31 (by decide) dX4_weight_23 ?_
          refine j_lmul 32 rfl dX4_weight_31 ?_
          refine j_lstore_n 33 rfl su_6_3 (by decide) (Nat.le_of_ble_eq_true rfl) rfl dX4_weight_32 ?_
          refine j_iinc 36 rfl rfl st_6_5 (by decide) rfl dX4_weight_33 ?_
          refine j_goto 5 (by decide) dX4_weight_36 ?_
          exact ih
      | false =>
        rw [hx] at ih
        simp only [Bool.false_eq_true, if_false] at ih
        rw [if_neg (by simp)]
        refine j_if_eq 26 21 (by decide) rfl dX4_weight_18 (by intro hR; first | omega | exact hR _ _ | exact jb_r _ | exact hR0 _ _ | assumption) (fun h2 => ?_) (fun h2 => ?_)
        · refine j_bipush 28 rfl rfl dX4_weight_26 ?_
          refine j_iload_n 29 rfl rfl dX4_weight_28 ?_
          refine j_isub 30 rfl dX4_weight_29 ?_
          refine j_i2l 31 rfl (by intro hR; first | omega | exact hR _ _ | exact jb_r _ | exact hR0 _ _ | assumption) dX4_weight_30 ?_
          refine j_lmul 32 rfl dX4_weight_31 ?_
          refine j_lstore_n 33 rfl su_6_3 (by decide) (Nat.le_of_ble_eq_true rfl) rfl dX4_weight_32 ?_
          refine j_iinc 36 rfl rfl st_6_5 (by decide) rfl dX4_weight_33 ?_
          refine j_goto 5 (by decide) dX4_weight_36 ?_
          exact ih
        · exfalso; omega
-- X4_commonDivisor
theorem s_commonDivisor {a b : Int} (ha : 0 ≤ a ∧ a ≤ b) (hb : 0 < b ∧ b ≤ 1099511627776) : jOk E mX4_commonDivisor [.long (jL a), .long (jL b)] H (jQl fun r H' => H' = H ∧ r = Int.gcd b a) := by
  refine jOk.rng (fun hR0 => ?_)
  refine jOk.ofe rfl (Nat.le_of_ble_eq_true rfl) (en_ll_11 (E := E)) ?_
  refine j_lload_n 1 rfl rfl dX4_commonDivisor_0 ?_
  refine j_lstore 3 rfl su_11_4 (by decide) (Nat.le_of_ble_eq_true rfl) rfl dX4_commonDivisor_1 ?_
  refine j_lload_n 4 rfl rfl dX4_commonDivisor_3 ?_
  refine j_lstore 6 rfl su_11_6 (by decide) (Nat.le_of_ble_eq_true rfl) rfl dX4_commonDivisor_4 ?_
  refine j_iconst 7 rfl dX4_commonDivisor_6 ?_
  refine j_istore 9 rfl st_11_8 (by decide) rfl dX4_commonDivisor_7 ?_
  have loop := jUp 0 100 (fun i => ∀ x y x9 x10, (0 < x ∧ 0 ≤ y ∧ y ≤ x ∧ x ≤ 1099511627776) → x * y * 2 ^ i.toNat ≤ 2 ^ 80 → Int.gcd x y = Int.gcd b a → jWP E mX4_commonDivisor (jQl fun r H' => H' = H ∧ r = Int.gcd b a) 9 [some (.long (jL a)), none, some (.long (jL b)), none, some (.long (jL x)), none, some (.long (jL y)), none, some (.int (jI i)), x9, x10] [] H) ?_ ?_ 0 (by omega) (by omega)
  · refine loop b a none none (by omega) ?_ rfl
    have h1 : b * a ≤ 1099511627776 * 1099511627776 := Int.mul_le_mul hb.2 (by omega) ha.1 (by omega)
    show b * a * 2 ^ 0 ≤ _
    have e : (2 : Int) ^ 80 = 1099511627776 * 1099511627776 := by decide
    rw [e]
    simpa using h1
  · intro x y x9 x10 hxy hm hg
    refine j_iload 11 rfl rfl dX4_commonDivisor_9 ?_
    refine j_bipush 13 rfl rfl dX4_commonDivisor_11 ?_
    refine j_icmp_ge 44 16 (by decide) rfl dX4_commonDivisor_13 (by intro hR; first | omega | exact hR _ _ | exact jb_r _ | exact hR0 _ _ | assumption) (by intro hR; first | omega | exact hR _ _ | exact jb_r _ | exact hR0 _ _ | assumption) (fun h => ?_) (fun h => ?_)
    · have hy0 : y = 0 := by
        apply Classical.byContradiction
        intro hy
        have h1 : 1 * 1 ≤ x * y := Int.mul_le_mul (by omega) (by omega) (by omega) (by omega)
        have h2 : (1 : Int) * 2 ^ 100 ≤ x * y * 2 ^ 100 := Int.mul_le_mul_of_nonneg_right (by omega) (by decide)
        have h3 : (1 : Int) * 2 ^ 100 ≤ 2 ^ 80 := Int.le_trans h2 hm
        exact absurd h3 (by decide)
      subst hy0
      have e : x = Int.gcd b a := by rw [← hg, Int.gcd_zero_right]; omega
      refine j_lload 46 rfl rfl dX4_commonDivisor_44 ?_
      refine j_lretl dX4_commonDivisor_46 rfl ?_
      exact ⟨rfl, e⟩
    · exfalso; omega
  · intro i h0 h1 ih x y x9 x10 hxy hm hg
    refine j_iload 11 rfl rfl dX4_commonDivisor_9 ?_
    refine j_bipush 13 rfl rfl dX4_commonDivisor_11 ?_
    refine j_icmp_ge 44 16 (by decide) rfl dX4_commonDivisor_13 (by intro hR; first | omega | exact hR _ _ | exact jb_r _ | exact hR0 _ _ | assumption) (by intro hR; first | omega | exact hR _ _ | exact jb_r _ | exact hR0 _ _ | assumption) (fun h => ?_) (fun h => ?_)
    · exfalso; omega
    · refine j_lload 18 rfl rfl dX4_commonDivisor_16 ?_
      refine j_lconst 19 rfl (x := 0) rfl dX4_commonDivisor_18 ?_
      refine j_lcmp 20 rfl dX4_commonDivisor_19 (by intro hR; first | omega | exact jb_r64 _ | (have := hR; omega)) (by intro hR; first | omega | exact jb_r64 _ | (have := hR; omega)) ?_
      have hcr := jCmp_r y 0
      refine j_if_eq 44 23 (by decide) rfl dX4_commonDivisor_20 (by intro hR; first | omega | exact hR _ _ | exact jb_r _ | exact hR0 _ _ | assumption) (fun h2 => ?_) (fun h2 => ?_)
      · have hy0 : y = 0 := (jCmp_eq y 0).mp h2
        subst hy0
        have e : x = Int.gcd b a := by rw [← hg, Int.gcd_zero_right]; omega
        refine j_lload 46 rfl rfl dX4_commonDivisor_44 ?_
        refine j_lretl dX4_commonDivisor_46 rfl ?_
        exact ⟨rfl, e⟩
      · have hy0 : y ≠ 0 := fun e => h2 ((jCmp_eq y 0).mpr e)
        refine j_lload 25 rfl rfl dX4_commonDivisor_23 ?_
        refine j_lload 27 rfl rfl dX4_commonDivisor_25 ?_
        refine k_lrem 28 rfl (by omega) (by intro hR; first | omega | exact jb_r64 _ | (have := hR; omega)) dX4_commonDivisor_27 ?_
        rw [lRem_n (by omega) (by omega)]
        have r1 := Int.emod_nonneg x (show y ≠ 0 by omega)
        have r2 := Int.emod_lt_of_pos x (show 0 < y by omega)
        refine j_lstore 30 rfl su_11_9 (by decide) (Nat.le_of_ble_eq_true rfl) rfl dX4_commonDivisor_28 ?_
        refine j_lload 32 rfl rfl dX4_commonDivisor_30 ?_
        refine j_lstore 34 rfl su_11_4 (by decide) (Nat.le_of_ble_eq_true rfl) rfl dX4_commonDivisor_32 ?_
        refine j_lload 36 rfl rfl dX4_commonDivisor_34 ?_
        refine j_lstore 38 rfl su_11_6 (by decide) (Nat.le_of_ble_eq_true rfl) rfl dX4_commonDivisor_36 ?_
        refine j_iinc 41 rfl rfl st_11_8 (by decide) rfl dX4_commonDivisor_38 ?_
        refine j_goto 9 (by decide) dX4_commonDivisor_41 ?_
        refine ih y (x % y) _ _ (by omega) ?_ ?_
        · have hh := rem_half (show 0 < y by omega) hxy.2.2.1
          rw [show (i + 1).toNat = i.toNat + 1 by omega, Int.pow_succ]
          have e : y * (x % y) * (2 ^ i.toNat * 2) = 2 * (y * (x % y)) * 2 ^ i.toNat := by
            rw [Int.mul_comm (2 ^ i.toNat) 2, ← Int.mul_assoc, Int.mul_comm (y * (x % y)) 2]
          rw [e]
          exact Int.le_trans (Int.mul_le_mul_of_nonneg_right hh (Int.pow_nonneg (by omega))) hm
        · rw [gcd_step (by omega) (by omega)]
          exact hg
end S26
