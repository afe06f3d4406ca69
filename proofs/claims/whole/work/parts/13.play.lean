/-! ===== what happens step by step, as mathematics ===== -/
theorem bt_512 {x : Int} (h : -2147483648 ≤ x ∧ x ≤ 2147483647) (hb : ∀ b, 9 ≤ b → b < 32 → bt x b = false) : 0 ≤ x ∧ x < 512 := by
  have e : x = mkI (bt x) 9 := by
    have hl := mkI_lt (bt x) (n := 9) (by omega)
    apply bt_ext h (by omega)
    intro b h0 h1
    rw [bt_mk _ (by omega) h0]
    by_cases h9 : b < 9
    · simp [h9]
    · rw [hb b (by omega) h1]
      simp [h9]
  have hl := mkI_lt (bt x) (n := 9) (by omega)
  omega
theorem bt_of512 {x : Int} (h : 0 ≤ x ∧ x < 512) {b : Int} (hb : 9 ≤ b) : bt x b = false := by
  obtain ⟨m, rfl⟩ := Int.eq_ofNat_of_zero_le h.1
  rw [bt_nat]
  have : m < 2 ^ b.toNat := Nat.lt_of_lt_of_le (show m < 2 ^ 9 by omega) (Nat.pow_le_pow_right (by omega) (by omega))
  rw [Nat.testBit_lt_two_pow this]
  simp
/-- a course's configuration: 0: how many (0), lids (5); 1 laws, 2 numbers, 3 springs, 4 places; 6 turned, 7 looked at, 8 shut -/
def cK (H : jH) (c : Nat) : jH := fun k i => if k = 0 then (if i = 0 then H c 0 else if i = 5 then H c 5 else 0) else if k ≤ 8 ∧ k ≠ 5 then H (c + k) i else 0
theorem cK_n (H : jH) (c : Nat) : cK H c 0 0 = H c 0 := rfl
theorem cK_l (H : jH) (c : Nat) : cK H c 0 5 = H c 5 := rfl
theorem cK_1 (H : jH) (c : Nat) (i : Int) : cK H c 1 i = H (c + 1) i := rfl
theorem cK_2 (H : jH) (c : Nat) (i : Int) : cK H c 2 i = H (c + 2) i := rfl
theorem cK_3 (H : jH) (c : Nat) (i : Int) : cK H c 3 i = H (c + 3) i := rfl
theorem cK_4 (H : jH) (c : Nat) (i : Int) : cK H c 4 i = H (c + 4) i := rfl
theorem cK_6 (H : jH) (c : Nat) (i : Int) : cK H c 6 i = H (c + 6) i := rfl
theorem cK_7 (H : jH) (c : Nat) (i : Int) : cK H c 7 i = H (c + 7) i := rfl
theorem cK_8 (H : jH) (c : Nat) (i : Int) : cK H c 8 i = H (c + 8) i := rfl
abbrev pT : Type := Int × Int × (Int → Int) × (Int → Int) × (Int → Int)
def pTu (K : jH) (t : Int) (s : pT) (b : Int) : Int := if !bt s.1 b && bt (K 6 t) b && !bt (K 0 5) b then s.2.2.2.1 b + 1 else s.2.2.2.1 b
def pAl (K : jH) (t : Int) (s : pT) (b : Int) : Int := if !bt s.1 b && !bt (K 7 t) b then s.2.2.2.2 b + 1 else 0
def pNr (K : jH) (o b : Int) : Bool := anyI (fun c => decide (c ≠ b) && bt o c && decide (K 4 b - K 4 c ≤ K 2 b ∧ K 4 c - K 4 b ≤ K 2 b)) (K 0 0)
def pLw (K : jH) (t : Int) (s : pT) (b : Int) : Bool :=
  if K 1 b = 0 then bt (K 6 t) b && decide (pTu K t s b = K 2 b)
  else if K 1 b = 1 then pNr K s.2.1 b
  else if K 1 b = 2 then decide (K 2 b ≤ pAl K t s b)
  else if K 1 b = 3 then decide (K 2 b ≤ oc s.1)
  else false
def pOp (K : jH) (t : Int) (s : pT) (b : Int) : Bool := !bt s.1 b && !bt (K 0 5) b && decide (0 < s.2.2.1 b) && pLw K t s b
def pStep (K : jH) (t : Int) (s : pT) : pT :=
  (bAnd (bOr s.1 (mkI (pOp K t s) (K 0 0))) (bXor (K 8 t) (-1)), mkI (pOp K t s) (K 0 0), fun b => if pOp K t s b then s.2.2.1 b - 1 else s.2.2.1 b, fun b => if pOp K t s b then 0 else pTu K t s b, fun b => if pOp K t s b then 0 else pAl K t s b)
def pS (K : jH) : Nat → pT
  | 0 => (0, 0, K 3, fun _ => 0, fun _ => 0)
  | t + 1 => pStep K t (pS K t)
def cOk (K : jH) : Prop := (0 ≤ K 0 0 ∧ K 0 0 ≤ 9) ∧ (0 ≤ K 0 5 ∧ K 0 5 < 512) ∧ (∀ b, 0 ≤ b → b < K 0 0 → (0 ≤ K 1 b ∧ K 1 b ≤ 4) ∧ (0 ≤ K 2 b ∧ K 2 b ≤ 9) ∧ (K 1 b = 3 → 1 ≤ K 2 b) ∧ (0 ≤ K 3 b ∧ K 3 b ≤ 9) ∧ (0 ≤ K 4 b ∧ K 4 b ≤ 8)) ∧ (∀ b c, 0 ≤ b → b < K 0 0 → 0 ≤ c → c < K 0 0 → K 4 b = K 4 c → b = c) ∧
  (∀ t, 0 ≤ t → t < 60 → (0 ≤ K 6 t ∧ K 6 t < 512) ∧ (0 ≤ K 7 t ∧ K 7 t < 512) ∧ (0 ≤ K 8 t ∧ K 8 t < 512))
theorem pS_hi {K : jH} (h : 0 ≤ K 0 0 ∧ K 0 0 ≤ 9) : ∀ (t : Nat) (b : Int), K 0 0 ≤ b → b < 32 → bt (pS K t).1 b = false ∧ bt (pS K t).2.1 b = false
  | 0, b, h1, h2 => ⟨bt_0 b, bt_0 b⟩
  | t + 1, b, h1, h2 => by
    have ih := pS_hi h t b h1 h2
    have e : bt (mkI (pOp K t (pS K t)) (K 0 0)) b = false := by
      rw [bt_mk _ (by omega) (by omega)]
      simp
      intro q; omega
    refine ⟨?_, e⟩
    show bt (bAnd (bOr (pS K t).1 (mkI (pOp K t (pS K t)) (K 0 0))) (bXor (K 8 t) (-1))) b = false
    rw [bt_and, bt_or, ih.1, e]
    rfl
theorem pS_U {K : jH} (h : 0 ≤ K 0 0 ∧ K 0 0 ≤ 9) (t : Nat) : 0 ≤ (pS K t).1 ∧ (pS K t).1 < 512 := by
  cases t with
  | zero => exact ⟨Int.le_refl 0, by show (0 : Int) < 512; omega⟩
  | succ t =>
    apply bt_512
    · exact jb_r _
    · intro b h1 h2
      exact (pS_hi h (t + 1) b (by omega) h2).1
theorem pS_O {K : jH} (h : 0 ≤ K 0 0 ∧ K 0 0 ≤ 9) (t : Nat) : 0 ≤ (pS K t).2.1 ∧ (pS K t).2.1 < 512 := by
  cases t with
  | zero => exact ⟨Int.le_refl 0, by show (0 : Int) < 512; omega⟩
  | succ t => exact mkI_lt _ h
theorem pS_u1 {K : jH} (h : 0 ≤ K 0 0 ∧ K 0 0 ≤ 9) (t : Nat) {b : Int} (h0 : 0 ≤ b) (h1 : b < K 0 0) : bt (pS K (t + 1)).1 b = ((bt (pS K t).1 b || pOp K t (pS K t) b) && !bt (K 8 t) b) := by
  show bt (bAnd (bOr (pS K t).1 (mkI (pOp K t (pS K t)) (K 0 0))) (bXor (K 8 t) (-1))) b = _
  rw [bt_and, bt_or, bt_mk _ (by omega) h0, bt_not (by omega)]
  simp [h1]
/-- a box that is up has not been alone -/
theorem pS_al {K : jH} (h : 0 ≤ K 0 0 ∧ K 0 0 ≤ 9) (t : Nat) {b : Int} (h0 : 0 ≤ b) (h1 : b < K 0 0) (hu : bt (pS K t).1 b = true) : (pS K t).2.2.2.2 b = 0 := by
  cases t with
  | zero => rfl
  | succ t =>
    rw [pS_u1 h t h0 h1] at hu
    show (if pOp K t (pS K t) b then 0 else pAl K t (pS K t) b) = 0
    by_cases ho : pOp K t (pS K t) b
    · rw [if_pos ho]
    · rw [if_neg ho]
      simp [ho] at hu
      unfold pAl
      simp [hu.1]
theorem pS_l {K : jH} (t : Nat) (b : Int) : (pS K (t + 1)).2.2.1 b = if pOp K t (pS K t) b then (pS K t).2.2.1 b - 1 else (pS K t).2.2.1 b := rfl
theorem pS_lr {K : jH} {b : Int} (hb : 0 ≤ K 3 b ∧ K 3 b ≤ 9) : ∀ t : Nat, 0 ≤ (pS K t).2.2.1 b ∧ (pS K t).2.2.1 b ≤ 9
  | 0 => hb
  | t + 1 => by
    have ih := pS_lr hb t
    rw [pS_l]
    by_cases ho : pOp K t (pS K t) b
    · rw [if_pos ho]
      have : 0 < (pS K t).2.2.1 b := by
        unfold pOp at ho
        simp at ho
        exact ho.1.2
      omega
    · rw [if_neg ho]
      exact ih
theorem pS_tr {K : jH} {b : Int} : ∀ t : Nat, (0 ≤ (pS K t).2.2.2.1 b ∧ (pS K t).2.2.2.1 b ≤ t) ∧ (0 ≤ (pS K t).2.2.2.2 b ∧ (pS K t).2.2.2.2 b ≤ t)
  | 0 => by show (0 ≤ (0 : Int) ∧ (0 : Int) ≤ ((0 : Nat) : Int)) ∧ (0 ≤ (0 : Int) ∧ (0 : Int) ≤ ((0 : Nat) : Int)); omega
  | t + 1 => by
    have ih := pS_tr (K := K) (b := b) t
    have e1 : (pS K (t + 1)).2.2.2.1 b = if pOp K t (pS K t) b then 0 else pTu K t (pS K t) b := rfl
    have e2 : (pS K (t + 1)).2.2.2.2 b = if pOp K t (pS K t) b then 0 else pAl K t (pS K t) b := rfl
    rw [e1, e2]
    unfold pTu pAl
    refine ⟨?_, ?_⟩
    · split
      · omega
      · split <;> omega
    · split
      · omega
      · split <;> omega
/-! the places that are near -/
def rch (p m : Int) : Int := bAnd (bShr (bShl (bShl 1 (2 * m + 1) - 1) p) m) (bXor (bShl 1 p) (-1))
theorem rch_all : ∀ p : Fin 9, ∀ m : Fin 10, ∀ q : Fin 9, bt (rch (p : Nat) (m : Nat)) (q : Nat) = decide (q ≠ p ∧ ((p : Nat) : Int) - (q : Nat) ≤ (m : Nat) ∧ ((q : Nat) : Int) - (p : Nat) ≤ (m : Nat)) := by decide +kernel
theorem rch_bt {p m q : Int} (hp : 0 ≤ p ∧ p ≤ 8) (hm : 0 ≤ m ∧ m ≤ 9) (hq : 0 ≤ q ∧ q ≤ 8) : bt (rch p m) q = decide (q ≠ p ∧ p - q ≤ m ∧ q - p ≤ m) := by
  have h := rch_all ⟨p.toNat, by omega⟩ ⟨m.toNat, by omega⟩ ⟨q.toNat, by omega⟩
  simp only [Int.toNat_of_nonneg hp.1, Int.toNat_of_nonneg hm.1, Int.toNat_of_nonneg hq.1] at h
  rw [h]
  congr 1
  simp only [ne_eq, Fin.mk.injEq, eq_iff_iff]
  constructor
  · rintro ⟨h1, h2⟩
    exact ⟨by omega, h2⟩
  · rintro ⟨h1, h2⟩
    exact ⟨by omega, h2⟩
/-- the places in which a box of the first i opened -/
def nzN (f : Int → Bool) (g : Int → Int) : Nat → Int
  | 0 => 0
  | n + 1 => if f n then bOr (nzN f g n) (bShl 1 (g n)) else nzN f g n
def nz (f : Int → Bool) (g : Int → Int) (n : Int) : Int := nzN f g n.toNat
theorem nz_0 (f : Int → Bool) (g : Int → Int) : nz f g 0 = 0 := rfl
theorem nz_s (f : Int → Bool) (g : Int → Int) {n : Int} (h : 0 ≤ n) : nz f g (n + 1) = if f n then bOr (nz f g n) (bShl 1 (g n)) else nz f g n := by
  unfold nz
  have e : (n + 1).toNat = n.toNat + 1 := by omega
  have e2 : ((n.toNat : Nat) : Int) = n := Int.toNat_of_nonneg h
  rw [e, nzN, e2]
theorem nzN_r (f : Int → Bool) (g : Int → Int) : ∀ n : Nat, -2147483648 ≤ nzN f g n ∧ nzN f g n ≤ 2147483647
  | 0 => by show -2147483648 ≤ (0 : Int) ∧ (0 : Int) ≤ 2147483647; omega
  | n + 1 => by
    unfold nzN
    split
    · exact jb_r _
    · exact nzN_r f g n
theorem nz_r (f : Int → Bool) (g : Int → Int) (n : Int) : -2147483648 ≤ nz f g n ∧ nz f g n ≤ 2147483647 := nzN_r f g _
theorem nzN_bt (f : Int → Bool) (g : Int → Int) : ∀ (n : Nat), (∀ b : Nat, b < n → 0 ≤ g b ∧ g b ≤ 8) → ∀ q : Int, 0 ≤ q → q < 32 → (bt (nzN f g n) q = true ↔ ∃ b : Nat, b < n ∧ f b = true ∧ g b = q)
  | 0, _, q, h0, h1 => by simp [nzN, bt_0]
  | n + 1, hg, q, h0, h1 => by
    have ih := nzN_bt f g n (fun b hb => hg b (by omega)) q h0 h1
    unfold nzN
    by_cases hf : f n
    · rw [if_pos hf, bt_or, Bool.or_eq_true, ih, bt_shl1 (by have := hg n (by omega); omega) ⟨h0, h1⟩]
      simp only [decide_eq_true_eq]
      constructor
      · rintro (⟨b, h2, h3, h4⟩ | h)
        · exact ⟨b, by omega, h3, h4⟩
        · exact ⟨n, by omega, hf, h.symm⟩
      · rintro ⟨b, h2, h3, h4⟩
        by_cases hb : b = n
        · subst hb; exact Or.inr h4.symm
        · exact Or.inl ⟨b, by omega, h3, h4⟩
    · rw [if_neg hf, ih]
      constructor
      · rintro ⟨b, h2, h3, h4⟩
        exact ⟨b, by omega, h3, h4⟩
      · rintro ⟨b, h2, h3, h4⟩
        by_cases hb : b = n
        · subst hb; exact absurd h3 hf
        · exact ⟨b, by omega, h3, h4⟩
theorem nz_bt {f : Int → Bool} {g : Int → Int} {n : Int} (hg : ∀ b, 0 ≤ b → b < n → 0 ≤ g b ∧ g b ≤ 8) {q : Int} (h0 : 0 ≤ q) (h1 : q < 32) : bt (nz f g n) q = true ↔ ∃ b, 0 ≤ b ∧ b < n ∧ f b = true ∧ g b = q := by
  unfold nz
  rw [nzN_bt f g n.toNat (fun b hb => hg b (by omega) (by omega)) q h0 h1]
  constructor
  · rintro ⟨b, h2, h3⟩
    exact ⟨b, by omega, by omega, h3⟩
  · rintro ⟨b, h2, h3, h4⟩
    refine ⟨b.toNat, by omega, ?_⟩
    rw [Int.toNat_of_nonneg h2]
    exact h4
/-- noise is heard just where it is near -/
theorem near_ok {K : jH} (ok : cOk K) {o b : Int} (h0 : 0 ≤ b) (h1 : b < K 0 0) : (bAnd (nz (bt o) (K 4) (K 0 0)) (rch (K 4 b) (K 2 b)) ≠ 0) ↔ pNr K o b = true := by
  obtain ⟨hn, hl, hb, hi, ht⟩ := ok
  have hpb := hb b h0 h1
  rw [bAnd_ne]
  unfold pNr
  rw [anyI_iff]
  constructor
  · rintro ⟨q, q0, q1, h2, h3⟩
    obtain ⟨c, c0, c1, c2, c3⟩ := (nz_bt (fun b h0 h1 => (hb b h0 h1).2.2.2.2) q0 q1).mp h2
    subst c3
    rw [rch_bt hpb.2.2.2.2 hpb.2.1 (hb c c0 c1).2.2.2.2] at h3
    simp only [decide_eq_true_eq] at h3
    refine ⟨c, c0, c1, ?_⟩
    simp only [Bool.and_eq_true, decide_eq_true_eq]
    exact ⟨⟨fun e => h3.1 (by rw [e]), c2⟩, h3.2⟩
  · rintro ⟨c, c0, c1, h2⟩
    simp only [Bool.and_eq_true, decide_eq_true_eq] at h2
    have hpc := (hb c c0 c1).2.2.2.2
    refine ⟨K 4 c, hpc.1, by omega, (nz_bt (fun b h0 h1 => (hb b h0 h1).2.2.2.2) hpc.1 (by omega)).mpr ⟨c, c0, c1, h2.1.2, rfl⟩, ?_⟩
    rw [rch_bt hpb.2.2.2.2 hpb.2.1 hpc]
    simp only [decide_eq_true_eq]
    exact ⟨fun e => h2.1.1 (hi c b c0 c1 h0 h1 e), h2.2⟩
