/-! ===== the class's course ===== -/
/-- places by a row: behind the first n places -/
def prN (H : jH) (k rk : Nat) : Nat → jH
  | 0 => H
  | n + 1 => jU (prN H k rk n) k (H rk n) n
def pr (H : jH) (k rk : Nat) (n : Int) : jH := prN H k rk n.toNat
theorem pr_0 (H : jH) (k rk : Nat) : pr H k rk 0 = H := rfl
theorem pr_s (H : jH) (k rk : Nat) {n : Int} (h : 0 ≤ n) : pr H k rk (n + 1) = jU (pr H k rk n) k (H rk n) n := by
  unfold pr
  have e : (n + 1).toNat = n.toNat + 1 := by omega
  have e2 : ((n.toNat : Nat) : Int) = n := Int.toNat_of_nonneg h
  rw [e, prN, e2]
theorem pr_o (H : jH) {k rk a : Nat} (h : a ≠ k) (n : Int) : pr H k rk n a = H a := by
  unfold pr
  induction n.toNat with
  | zero => rfl
  | succ m ih => rw [prN, jU_other _ _ _ _ _ h, ih]
theorem pr_p (H : jH) {k rk : Nat} (hi : ∀ p q, 0 ≤ p → p < 9 → 0 ≤ q → q < 9 → H rk p = H rk q → p = q) : ∀ n : Nat, n ≤ 9 → ∀ p : Int, 0 ≤ p → p < n → prN H k rk n k (H rk p) = p
  | 0, _, p, h0, h1 => by omega
  | n + 1, hn, p, h0, h1 => by
    rw [prN]
    by_cases hp : p = n
    · subst hp
      rw [jU_s]
    · rw [jU_i (fun e => hp (hi p n h0 (by omega) (by omega) (by omega) e))]
      exact pr_p H hi n (by omega) p h0 (by omega)
/-- what was told of a step: the boxes to which an act is done -/
def tmN (fs fb fa : Int → Int) (a t : Int) : Nat → Int
  | 0 => 0
  | k + 1 => if fa k = a ∧ fs k = t then bOr (tmN fs fb fa a t k) (bShl 1 (fb k)) else tmN fs fb fa a t k
def tm (fs fb fa : Int → Int) (a t n : Int) : Int := tmN fs fb fa a t n.toNat
theorem tm_0 (fs fb fa : Int → Int) (a t : Int) : tm fs fb fa a t 0 = 0 := rfl
theorem tm_s (fs fb fa : Int → Int) (a t : Int) {n : Int} (h : 0 ≤ n) : tm fs fb fa a t (n + 1) = if fa n = a ∧ fs n = t then bOr (tm fs fb fa a t n) (bShl 1 (fb n)) else tm fs fb fa a t n := by
  unfold tm
  have e : (n + 1).toNat = n.toNat + 1 := by omega
  have e2 : ((n.toNat : Nat) : Int) = n := Int.toNat_of_nonneg h
  rw [e, tmN, e2]
theorem tmN_512 {fs fb fa : Int → Int} {a t : Int} : ∀ n : Nat, (∀ k : Nat, k < n → 0 ≤ fb k ∧ fb k ≤ 8) → 0 ≤ tmN fs fb fa a t n ∧ tmN fs fb fa a t n < 512
  | 0, _ => by show (0 : Int) ≤ 0 ∧ (0 : Int) < 512; omega
  | n + 1, h => by
    have ih := tmN_512 (fs := fs) (fa := fa) (a := a) (t := t) n (fun k hk => h k (by omega))
    have hb := h n (by omega)
    unfold tmN
    split
    · apply bt_512 (jb_r _)
      intro b h1 h2
      rw [bt_or, bt_of512 ih h1, bt_shl1 (by omega) (by omega)]
      simp
      omega
    · exact ih
theorem tm_512 {fs fb fa : Int → Int} {a t n : Int} (h : ∀ k, 0 ≤ k → k < n → 0 ≤ fb k ∧ fb k ≤ 8) : 0 ≤ tm fs fb fa a t n ∧ tm fs fb fa a t n < 512 := tmN_512 _ (fun k hk => h k (by omega) (by omega))
theorem tmN_cong {fs fb fa gs gb ga : Int → Int} {a t : Int} : ∀ n : Nat, (∀ k : Nat, k < n → fs k = gs k ∧ fb k = gb k ∧ fa k = ga k) → tmN fs fb fa a t n = tmN gs gb ga a t n
  | 0, _ => rfl
  | n + 1, h => by
    obtain ⟨e1, e2, e3⟩ := h n (by omega)
    rw [tmN, tmN, tmN_cong n (fun k hk => h k (by omega)), e1, e2, e3]
theorem tm_cong {fs fb fa gs gb ga : Int → Int} {a t n : Int} (h : ∀ k, 0 ≤ k → k < n → fs k = gs k ∧ fb k = gb k ∧ fa k = ga k) : tm fs fb fa a t n = tm gs gb ga a t n := tmN_cong _ (fun k hk => h k (by omega) (by omega))
/-! sums, and rows set by a function -/
def sumN (f : Int → Int) : Nat → Int
  | 0 => 0
  | n + 1 => sumN f n + f n
def sumI (f : Int → Int) (n : Int) : Int := sumN f n.toNat
theorem sumI_0 (f : Int → Int) : sumI f 0 = 0 := rfl
theorem sumI_s (f : Int → Int) {n : Int} (h : 0 ≤ n) : sumI f (n + 1) = sumI f n + f n := by
  unfold sumI
  have e : (n + 1).toNat = n.toNat + 1 := by omega
  have e2 : ((n.toNat : Nat) : Int) = n := Int.toNat_of_nonneg h
  rw [e, sumN, e2]
theorem sumN_cong {f g : Int → Int} : ∀ n : Nat, (∀ k : Nat, k < n → f k = g k) → sumN f n = sumN g n
  | 0, _ => rfl
  | n + 1, h => by rw [sumN, sumN, sumN_cong n (fun k hk => h k (by omega)), h n (by omega)]
theorem sumI_cong {f g : Int → Int} {n : Int} (h : ∀ k, 0 ≤ k → k < n → f k = g k) : sumI f n = sumI g n := sumN_cong _ (fun k hk => h k (by omega) (by omega))
def jMp (H : jH) (k : Nat) (n : Int) (g : Int → Int) : jH := fun a i => if a = k ∧ 0 ≤ i ∧ i < n then g i else H a i
theorem jMp_0 (H : jH) (k : Nat) (g : Int → Int) : jMp H k 0 g = H := by
  funext a b
  unfold jMp
  rw [if_neg (fun q => by omega)]
theorem jMp_s (H : jH) (k : Nat) {n : Int} (g : Int → Int) (h : 0 ≤ n) : jU (jMp H k n g) k n (g n) = jMp H k (n + 1) g := by
  funext a b
  unfold jMp jU
  dsimp only
  by_cases h1 : a = k ∧ b = n
  · obtain ⟨rfl, rfl⟩ := h1
    rw [if_pos ⟨rfl, rfl⟩, if_pos ⟨rfl, by omega, by omega⟩]
  · rw [if_neg h1]
    by_cases h2 : a = k ∧ 0 ≤ b ∧ b < n
    · rw [if_pos h2, if_pos ⟨h2.1, h2.2.1, by omega⟩]
    · rw [if_neg h2, if_neg (fun q => by
        by_cases h3 : b = n
        · exact h1 ⟨q.1, h3⟩
        · exact h2 ⟨q.1, q.2.1, by omega⟩)]
theorem jMp_k {H : jH} {k a : Nat} {n b : Int} {g : Int → Int} (h : a ≠ k) : jMp H k n g a b = H a b := by unfold jMp; rw [if_neg (fun q => h q.1)]
theorem jMp_o {H : jH} {k a : Nat} {n : Int} {g : Int → Int} (h : a ≠ k) : jMp H k n g a = H a := by funext b; exact jMp_k h
theorem jMp_i {H : jH} {k : Nat} {n b : Int} {g : Int → Int} (h : 0 ≤ b) (h2 : b < n) : jMp H k n g k b = g b := by unfold jMp; rw [if_pos ⟨rfl, h, h2⟩]
theorem jMp_n {H : jH} {k : Nat} {n b : Int} {g : Int → Int} (h : b < 0 ∨ n ≤ b) : jMp H k n g k b = H k b := by unfold jMp; rw [if_neg (fun q => by omega)]
theorem jU_o {H : jH} {k a : Nat} {i v : Int} (h : a ≠ k) : jU H k i v a = H a := jU_other H k i v a h
theorem jCpy_k {H : jH} {a b q : Nat} {sp dp n i : Int} (h : q ≠ b) : jCpy H a b sp dp n q i = H q i := by unfold jCpy; rw [if_neg (fun z => h z.1)]
theorem jCpy_o {H : jH} {a b q : Nat} {sp dp n : Int} (h : q ≠ b) : jCpy H a b sp dp n q = H q := by funext i; exact jCpy_k h
theorem jCpy_i {H : jH} {a b : Nat} {sp dp n i : Int} (h : dp ≤ i) (h2 : i < dp + n) : jCpy H a b sp dp n b i = H a (sp + (i - dp)) := by unfold jCpy; rw [if_pos ⟨rfl, h, h2⟩]
theorem jFill_o {H : jH} {k a : Nat} {n v : Int} (h : a ≠ k) : jFill H k n v a = H a := by funext i; exact jFill_k h
theorem nz_cong {f g : Int → Bool} {p : Int → Int} {n : Int} (h : ∀ b, 0 ≤ b → b < n → f b = g b) : nz f p n = nz g p n := by
  have key : ∀ m : Nat, m ≤ n.toNat → nzN f p m = nzN g p m := by
    intro m
    induction m with
    | zero => intro _; rfl
    | succ m ih =>
      intro hm
      rw [nzN, nzN, ih (by omega), h m (by omega) (by omega)]
  exact key _ (Nat.le_refl _)
/-- a mask in which box b has bit i of w -/
def lk1 (m b w i : Int) : Int := bOr (bAnd m (bXor (bShl 1 b) (-1))) (bShl (bAnd (bShr w i) 1) b)
/-- what a course's run leaves as it was -/
def cFr (c : Nat) (H H' : jH) : Prop := (∀ k, k ≠ c → (k < c + 9 ∨ c + 14 < k) → H' k = H k) ∧ (∀ i, i ≠ 13 → i ≠ 14 → i ≠ 15 → H' c i = H c i)
theorem cFr.K {c : Nat} {H H' : jH} (h : cFr c H H') : cK H' c = cK H c := by
  funext k i
  unfold cK
  by_cases h0 : k = 0
  · subst h0
    simp only [if_true]
    rw [h.2 0 (by omega) (by omega) (by omega), h.2 5 (by omega) (by omega) (by omega)]
  · rw [if_neg h0, if_neg h0]
    by_cases h1 : k ≤ 8 ∧ k ≠ 5
    · rw [if_pos h1, if_pos h1, h.1 (c + k) (by omega) (by omega)]
    · rw [if_neg h1, if_neg h1]
theorem cFr.refl (c : Nat) (H : jH) : cFr c H H := ⟨fun _ _ _ => rfl, fun _ _ _ _ => rfl⟩
theorem cFr.trans {c : Nat} {H H1 H2 : jH} (h : cFr c H H1) (h2 : cFr c H1 H2) : cFr c H H2 := ⟨fun k a b => (h2.1 k a b).trans (h.1 k a b), fun i a b d => (h2.2 i a b d).trans (h.2 i a b d)⟩
/-- the course at c stands behind t steps -/
def cRel (c : Nat) (H : jH) (t : Nat) : Prop := H c 13 = (pS (cK H c) t).1 ∧ H c 15 = nz (bt (pS (cK H c) t).2.1) (cK H c 4) (cK H c 0 0) ∧ ∀ b, 0 ≤ b → b < cK H c 0 0 → H (c + 12) b = (pS (cK H c) t).2.2.1 b ∧ H (c + 11) b = rch (cK H c 4 b) (cK H c 2 b) ∧
  (cK H c 1 b = 0 → bt (cK H c 0 5) b = false → 0 < (pS (cK H c) t).2.2.1 b → H (c + 13) b = (pS (cK H c) t).2.2.2.1 b) ∧ (cK H c 1 b = 2 → bt (cK H c 0 5) b = false → 0 < (pS (cK H c) t).2.2.1 b → H (c + 14) b = (pS (cK H c) t).2.2.2.2 b)
section S14
variable {E : jE} {H : jH}
-- J6_bitCount_0f7a4
theorem s_bitCount {x : Int} (hx : 0 ≤ x ∧ x < 512) : jOk E mJ6_bitCount_0f7a4 [.int (jI x)] H (jQi fun r H' => H' = H ∧ r = oc x) := by
  refine jOk.rng (fun hR0 => ?_)
  refine jOk.ofe rfl (Nat.le_of_ble_eq_true rfl) (en_i_1 (E := E)) ?_
  refine j_iload_n 1 rfl rfl dJ6_bitCount_0f7a4_0 ?_
  refine j_iload_n 2 rfl rfl dJ6_bitCount_0f7a4_1 ?_
  refine j_iconst 3 rfl dJ6_bitCount_0f7a4_2 ?_
  refine k_iushr 4 rfl dJ6_bitCount_0f7a4_3 ?_
  refine j_ldcw 7 rfl kc_J6_265 dJ6_bitCount_0f7a4_4 ?_
  refine k_iand 8 rfl dJ6_bitCount_0f7a4_7 ?_
  refine j_isub 9 rfl dJ6_bitCount_0f7a4_8 ?_
  refine j_istore_n 10 rfl st_1_0 (by decide) rfl dJ6_bitCount_0f7a4_9 ?_
  refine j_iload_n 11 rfl rfl dJ6_bitCount_0f7a4_10 ?_
  refine j_ldcw 14 rfl kc_J6_266 dJ6_bitCount_0f7a4_11 ?_
  refine k_iand 15 rfl dJ6_bitCount_0f7a4_14 ?_
  refine j_iload_n 16 rfl rfl dJ6_bitCount_0f7a4_15 ?_
  refine j_iconst 17 rfl dJ6_bitCount_0f7a4_16 ?_
  refine k_iushr 18 rfl dJ6_bitCount_0f7a4_17 ?_
  refine j_ldcw 21 rfl kc_J6_266 dJ6_bitCount_0f7a4_18 ?_
  refine k_iand 22 rfl dJ6_bitCount_0f7a4_21 ?_
  refine j_iadd 23 rfl dJ6_bitCount_0f7a4_22 ?_
  refine j_istore_n 24 rfl st_1_0 (by decide) rfl dJ6_bitCount_0f7a4_23 ?_
  refine j_iload_n 25 rfl rfl dJ6_bitCount_0f7a4_24 ?_
  refine j_iload_n 26 rfl rfl dJ6_bitCount_0f7a4_25 ?_
  refine j_iconst 27 rfl dJ6_bitCount_0f7a4_26 ?_
  refine k_iushr 28 rfl dJ6_bitCount_0f7a4_27 ?_
  refine j_iadd 29 rfl dJ6_bitCount_0f7a4_28 ?_
  refine j_ldcw 32 rfl kc_J6_267 dJ6_bitCount_0f7a4_29 ?_
  refine k_iand 33 rfl dJ6_bitCount_0f7a4_32 ?_
  refine j_istore_n 34 rfl st_1_0 (by decide) rfl dJ6_bitCount_0f7a4_33 ?_
  refine j_iload_n 35 rfl rfl dJ6_bitCount_0f7a4_34 ?_
  refine j_iload_n 36 rfl rfl dJ6_bitCount_0f7a4_35 ?_
  refine j_bipush 38 rfl rfl dJ6_bitCount_0f7a4_36 ?_
  refine k_iushr 39 rfl dJ6_bitCount_0f7a4_38 ?_
  refine j_iadd 40 rfl dJ6_bitCount_0f7a4_39 ?_
  refine j_istore_n 41 rfl st_1_0 (by decide) rfl dJ6_bitCount_0f7a4_40 ?_
  refine j_iload_n 42 rfl rfl dJ6_bitCount_0f7a4_41 ?_
  refine j_iload_n 43 rfl rfl dJ6_bitCount_0f7a4_42 ?_
  refine j_bipush 45 rfl rfl dJ6_bitCount_0f7a4_43 ?_
  refine k_iushr 46 rfl dJ6_bitCount_0f7a4_45 ?_
  refine j_iadd 47 rfl dJ6_bitCount_0f7a4_46 ?_
  refine j_istore_n 48 rfl st_1_0 (by decide) rfl dJ6_bitCount_0f7a4_47 ?_
  refine j_iload_n 49 rfl rfl dJ6_bitCount_0f7a4_48 ?_
  refine j_bipush 51 rfl rfl dJ6_bitCount_0f7a4_49 ?_
  refine k_iand 52 rfl dJ6_bitCount_0f7a4_51 ?_
  refine j_ireti dJ6_bitCount_0f7a4_52 rfl ?_
  refine ⟨rfl, ?_⟩
  have h := bc_all ⟨x.toNat, by omega⟩
  simp only [Int.toNat_of_nonneg hx.1] at h
  exact h
-- X1_placesAround
theorem s_placesAround {p m : Int} : jOk E mX1_placesAround [.int (jI p), .int (jI m)] H (jQi fun r H' => H' = H ∧ r = rch p m) := by
  refine jOk.rng (fun hR0 => ?_)
  refine jOk.ofe rfl (Nat.le_of_ble_eq_true rfl) (en_ii_3 (E := E)) ?_
  refine j_iconst 1 rfl dX1_placesAround_0 ?_
  refine j_iconst 2 rfl dX1_placesAround_1 ?_
  refine j_iload_n 3 rfl rfl dX1_placesAround_2 ?_
  refine j_imul 4 rfl dX1_placesAround_3 ?_
  refine j_iconst 5 rfl dX1_placesAround_4 ?_
  refine j_iadd 6 rfl dX1_placesAround_5 ?_
  refine k_ishl 7 rfl dX1_placesAround_6 ?_
  refine j_iconst 8 rfl dX1_placesAround_7 ?_
  refine j_isub 9 rfl dX1_placesAround_8 ?_
  refine j_istore_n 10 rfl st_3_2 (by decide) rfl dX1_placesAround_9 ?_
  refine j_iload_n 11 rfl rfl dX1_placesAround_10 ?_
  refine j_iload_n 12 rfl rfl dX1_placesAround_11 ?_
  refine k_ishl 13 rfl dX1_placesAround_12 ?_
  refine j_iload_n 14 rfl rfl dX1_placesAround_13 ?_
  refine k_ishr 15 rfl dX1_placesAround_14 ?_
  refine j_iconst 16 rfl dX1_placesAround_15 ?_
  refine j_iload_n 17 rfl rfl dX1_placesAround_16 ?_
  refine k_ishl 18 rfl dX1_placesAround_17 ?_
  refine j_iconst 19 rfl dX1_placesAround_18 ?_
  refine k_ixor 20 rfl dX1_placesAround_19 ?_
  refine k_iand 21 rfl dX1_placesAround_20 ?_
  refine j_ireti dX1_placesAround_21 rfl ?_
  exact ⟨rfl, rfl⟩
-- X1_putRow
theorem s_putRow_22 {rk : Nat} (hrk : rk = 6 ∨ rk = 54) (hrow : ∀ p, 0 ≤ p → p < 9 → 0 ≤ H rk p ∧ H rk p ≤ 8) : jOk E mX1_putRow [jRF E 22, jRF E rk] H (jQv fun H' => H' = pr H 26 rk 9) := by
  have hs : j_shp rk = .inl 9 := by rcases hrk with rfl | rfl <;> rfl
  have hlt : rk < jK := by rcases hrk with rfl | rfl <;> decide
  have hty : j_ty rk = .int := by rcases hrk with rfl | rfl <;> rfl
  have hne : rk ≠ 26 := by omega
  refine jOk.rng (fun hR0 => ?_)
  refine jOk.ofe rfl (Nat.le_of_ble_eq_true rfl) (en_aa_3 (E := E)) ?_
  refine j_iconst 1 rfl dX1_putRow_0 ?_
  refine j_istore_n 2 rfl st_3_2 (by decide) rfl dX1_putRow_1 ?_
  have loop := jUp 0 9 (fun i => jWP E mX1_putRow (jQv fun H' => H' = pr H 26 rk 9) 2 [some (jRF E 22), some (jRF E rk), some (.int (jI i))] [] (pr H 26 rk i)) ?_ ?_ 0 (by omega) (by omega)
  · exact loop
  · refine j_iload_n 3 rfl rfl dX1_putRow_2 ?_
    refine j_bipush 5 rfl rfl dX1_putRow_3 ?_
    refine j_icmp_ge 23 8 (by decide) rfl dX1_putRow_5 (by intro hR; first | omega | exact hR _ _ | exact jb_r _ | exact hR0 _ _ | assumption) (by intro hR; first | omega | exact hR _ _ | exact jb_r _ | exact hR0 _ _ | assumption) (fun h => ?_) (fun h => ?_)
    · refine j_vretv dX1_putRow_23 rfl ?_
      exact rfl
    · exfalso; omega
  · intro i h0 h1 ih
    have hr := hrow i h0 h1
    refine j_iload_n 3 rfl rfl dX1_putRow_2 ?_
    refine j_bipush 5 rfl rfl dX1_putRow_3 ?_
    refine j_icmp_ge 23 8 (by decide) rfl dX1_putRow_5 (by intro hR; first | omega | exact hR _ _ | exact jb_r _ | exact hR0 _ _ | assumption) (by intro hR; first | omega | exact hR _ _ | exact jb_r _ | exact hR0 _ _ | assumption) (fun h => ?_) (fun h => ?_)
    · exfalso; omega
    · refine j_aload_n 9 rfl rfl dX1_putRow_8 ?_
      refine j_getr 12 rfl 4 fl_X1_25 dX1_putRow_9 (by decide) ( rfl) ( rfl) ?_
      refine j_aload_n 13 rfl rfl dX1_putRow_12 ?_
      refine j_iload_n 14 rfl rfl dX1_putRow_13 ?_
      refine j_iald 15 rfl dX1_putRow_14 hlt hs (by decide) hty (by omega) ?_
      rw [pr_o H hne]
      refine j_iload_n 16 rfl rfl dX1_putRow_15 ?_
      refine j_iast 17 rfl dX1_putRow_16 (by decide) rfl (by decide) rfl (by omega) (by intro hR; omega) ?_
      rw [← pr_s H 26 rk h0]
      refine j_iinc 20 rfl rfl st_3_2 (by decide) rfl dX1_putRow_17 ?_
      refine j_goto 2 (by decide) dX1_putRow_20 ?_
      exact ih
-- X1_putLaw
theorem s_putLaw_22 {b cd : Int} (hb : 0 ≤ b ∧ b < 9) (hc : 0 ≤ cd ∧ cd ≤ 100) : jOk E mX1_putLaw [jRF E 22, .int (jI b), .int (jI cd)] H (jQv fun H' => H' = jU (jU H 23 b (cd / 10)) 24 b (cd % 10)) := by
  refine jOk.rng (fun hR0 => ?_)
  refine jOk.ofe rfl (Nat.le_of_ble_eq_true rfl) (en_aii_3 (E := E)) ?_
  refine j_aload_n 1 rfl rfl dX1_putLaw_0 ?_
  refine j_getr 4 rfl 1 fl_X1_15 dX1_putLaw_1 (by decide) ( rfl) ( rfl) ?_
  refine j_iload_n 5 rfl rfl dX1_putLaw_4 ?_
  refine j_iload_n 6 rfl rfl dX1_putLaw_5 ?_
  refine j_bipush 8 rfl rfl dX1_putLaw_6 ?_
  refine k_idiv 9 rfl (by omega) (by intro hR; first | omega | exact hR _ _ | exact jb_r _ | exact hR0 _ _ | assumption) dX1_putLaw_8 ?_
  rw [iDiv_n (by omega) (by omega)]
  refine j_iast 10 rfl dX1_putLaw_9 (by decide) rfl (by decide) rfl (by omega) (by intro hR; first | omega | exact hR _ _ | exact jb_r _ | exact hR0 _ _ | assumption) ?_
  refine j_aload_n 11 rfl rfl dX1_putLaw_10 ?_
  refine j_getr 14 rfl 2 fl_X1_19 dX1_putLaw_11 (by decide) ( rfl) ( rfl) ?_
  refine j_iload_n 15 rfl rfl dX1_putLaw_14 ?_
  refine j_iload_n 16 rfl rfl dX1_putLaw_15 ?_
  refine j_bipush 18 rfl rfl dX1_putLaw_16 ?_
  refine k_irem 19 rfl (by omega) (by intro hR; first | omega | exact hR _ _ | exact jb_r _ | exact hR0 _ _ | assumption) dX1_putLaw_18 ?_
  rw [iRem_n (by omega) (by omega)]
  refine j_iast 20 rfl dX1_putLaw_19 (by decide) rfl (by decide) rfl (by omega) (by intro hR; first | omega | exact hR _ _ | exact jb_r _ | exact hR0 _ _ | assumption) ?_
  refine j_vretv dX1_putLaw_20 rfl ?_
  exact rfl
-- X1_isUp
theorem s_isUp_22 {b t : Int} (hb : 0 ≤ b ∧ b < 9) (ht : 0 ≤ t ∧ t < 60) : jOk E mX1_isUp [jRF E 22, .int (jI b), .int (jI t)] H (jQi fun r H' => H' = H ∧ ((r = 1 ∧ bt (H 32 t) b = true) ∨ (r = 0 ∧ bt (H 32 t) b = false))) := by
  refine jOk.rng (fun hR0 => ?_)
  refine jOk.ofe rfl (Nat.le_of_ble_eq_true rfl) (en_aii_3 (E := E)) ?_
  refine j_aload_n 1 rfl rfl dX1_isUp_0 ?_
  refine j_getr 4 rfl 8 fl_X1_39 dX1_isUp_1 (by decide) ( rfl) ( rfl) ?_
  refine j_iload_n 5 rfl rfl dX1_isUp_4 ?_
  refine j_iald 6 rfl dX1_isUp_5 (by decide) rfl (by decide) rfl (by omega) ?_
  refine j_iload_n 7 rfl rfl dX1_isUp_6 ?_
  refine k_ishr 8 rfl dX1_isUp_7 ?_
  refine j_iconst 9 rfl dX1_isUp_8 ?_
  refine k_iand 10 rfl dX1_isUp_9 ?_
  rw [bt_shr1 (by omega)]
  cases hx : bt (H 32 t) b with
  | true =>
    rw [if_pos rfl]
    refine j_if_eq 17 13 (by decide) rfl dX1_isUp_10 (by intro hR; first | omega | exact hR _ _ | exact jb_r _ | exact hR0 _ _ | assumption) (fun h10 => ?_) (fun h10 => ?_)
    · exfalso; omega
    · refine j_iconst 14 rfl dX1_isUp_13 ?_
      refine j_goto 18 (by decide) dX1_isUp_14 ?_
      refine j_zreti dX1_isUp_18 rfl (by first | decide | omega) ?_
      exact ⟨rfl, by simp⟩
  | false =>
    rw [if_neg (by simp)]
    refine j_if_eq 17 13 (by decide) rfl dX1_isUp_10 (by intro hR; first | omega | exact hR _ _ | exact jb_r _ | exact hR0 _ _ | assumption) (fun h10 => ?_) (fun h10 => ?_)
    · refine j_iconst 18 rfl dX1_isUp_17 ?_
      refine j_zreti dX1_isUp_18 rfl (by first | decide | omega) ?_
      exact ⟨rfl, by simp⟩
    · exfalso; omega
-- X1_openings
theorem s_openings_22 {l : Int} (hl : -1 ≤ l ∧ l < 60) (hm : ∀ t, 0 ≤ t → t ≤ l → 0 ≤ H 31 t ∧ H 31 t < 512) : jOk E mX1_openings [jRF E 22, .int (jI l)] H (jQi fun r H' => H' = H ∧ r = sumI (fun t => oc (H 31 t)) (l + 1)) := by
  refine jOk.rng (fun hR0 => ?_)
  refine jOk.ofe rfl (Nat.le_of_ble_eq_true rfl) (en_ai_4 (E := E)) ?_
  refine j_iconst 1 rfl dX1_openings_0 ?_
  refine j_istore_n 2 rfl st_4_2 (by decide) rfl dX1_openings_1 ?_
  refine j_iconst 3 rfl dX1_openings_2 ?_
  refine j_istore_n 4 rfl st_4_3 (by decide) rfl dX1_openings_3 ?_
  have loop := jUp 0 (l + 1) (fun i => jWP E mX1_openings (jQi fun r H' => H' = H ∧ r = sumI (fun t => oc (H 31 t)) (l + 1)) 4 [some (jRF E 22), some (.int (jI l)), some (.int (jI (sumI (fun t => oc (H 31 t)) i))), some (.int (jI i))] [] H) ?_ ?_ 0 (by omega) (by omega)
  · exact loop
  · refine j_iload_n 5 rfl rfl dX1_openings_4 ?_
    refine j_iload_n 6 rfl rfl dX1_openings_5 ?_
    refine j_icmp_gt 33 9 (by decide) rfl dX1_openings_6 (by intro hR; first | omega | exact hR _ _ | exact jb_r _ | exact hR0 _ _ | assumption) (by intro hR; first | omega | exact hR _ _ | exact jb_r _ | exact hR0 _ _ | assumption) (fun h => ?_) (fun h => ?_)
    · refine j_iload_n 34 rfl rfl dX1_openings_33 ?_
      refine j_ireti dX1_openings_34 rfl ?_
      exact ⟨rfl, rfl⟩
    · exfalso; omega
  · intro i h0 h1 ih
    refine j_iload_n 5 rfl rfl dX1_openings_4 ?_
    refine j_iload_n 6 rfl rfl dX1_openings_5 ?_
    refine j_icmp_gt 33 9 (by decide) rfl dX1_openings_6 (by intro hR; first | omega | exact hR _ _ | exact jb_r _ | exact hR0 _ _ | assumption) (by intro hR; first | omega | exact hR _ _ | exact jb_r _ | exact hR0 _ _ | assumption) (fun h => ?_) (fun h => ?_)
    · exfalso; omega
    · refine j_iload_n 10 rfl rfl dX1_openings_9 ?_
      refine j_bipush 12 rfl rfl dX1_openings_10 ?_
      refine j_icmp_ge 33 15 (by decide) rfl dX1_openings_12 (by intro hR; first | omega | exact hR _ _ | exact jb_r _ | exact hR0 _ _ | assumption) (by intro hR; first | omega | exact hR _ _ | exact jb_r _ | exact hR0 _ _ | assumption) (fun h => ?_) (fun h => ?_)
      · exfalso; omega
      · refine j_iload_n 16 rfl rfl dX1_openings_15 ?_
        refine j_aload_n 17 rfl rfl dX1_openings_16 ?_
        refine j_getr 20 rfl 7 fl_X1_36 dX1_openings_17 (by decide) ( rfl) ( rfl) ?_
        refine j_iload_n 21 rfl rfl dX1_openings_20 ?_
        refine j_iald 22 rfl dX1_openings_21 (by decide) rfl (by decide) rfl (by omega) ?_
        refine jS1i 25 rfl dX1_openings_22 lk_X1_106 rfl rfl (s_bitCount (hm i h0 (by omega))) (fun r H1 ⟨e, hr⟩ => ?_)
        subst e
        subst hr
        refine j_iadd 26 rfl dX1_openings_25 ?_
        rw [← sumI_s (fun t => oc (H1 31 t)) h0]
        refine j_istore_n 27 rfl st_4_2 (by decide) rfl dX1_openings_26 ?_
        refine j_iinc 30 rfl rfl st_4_3 (by decide) rfl dX1_openings_27 ?_
        refine j_goto 4 (by decide) dX1_openings_30 ?_
        exact ih
-- X1_putLooks
theorem s_putLooks_22 {b w l : Int} (hb : 0 ≤ b ∧ b < 9) (hl : -1 ≤ l ∧ l < 60) : jOk E mX1_putLooks [jRF E 22, .int (jI b), .int (jI w), .int (jI l)] H (jQv fun H' => H' = jMp H 29 (l + 1) (fun i => lk1 (H 29 i) b w i)) := by
  refine jOk.rng (fun hR1 => ?_)
  refine jOk.rng (fun hR0 => ?_)
  refine jOk.ofe rfl (Nat.le_of_ble_eq_true rfl) (en_aiii_6 (E := E)) ?_
  refine j_iconst 1 rfl dX1_putLooks_0 ?_
  refine j_istore 3 rfl st_6_4 (by decide) rfl dX1_putLooks_1 ?_
  have loop := jUp 0 (l + 1) (fun i => ∀ x5, jWP E mX1_putLooks (jQv fun H' => H' = jMp H 29 (l + 1) (fun i => lk1 (H 29 i) b w i)) 3 [some (jRF E 22), some (.int (jI b)), some (.int (jI w)), some (.int (jI l)), some (.int (jI i)), x5] [] (jMp H 29 i (fun i => lk1 (H 29 i) b w i))) ?_ ?_ 0 (by omega) (by omega)
  · have := loop none
    rw [jMp_0] at this
    exact this
  · intro x5
    refine j_iload 5 rfl rfl dX1_putLooks_3 ?_
    refine j_iload_n 6 rfl rfl dX1_putLooks_5 ?_
    refine j_icmp_gt 59 9 (by decide) rfl dX1_putLooks_6 (by intro hR; first | omega | exact hR _ _ | exact jb_r _ | exact hR0 _ _ | assumption) (by intro hR; first | omega | exact hR _ _ | exact jb_r _ | exact hR0 _ _ | assumption) (fun h => ?_) (fun h => ?_)
    · refine j_vretv dX1_putLooks_59 rfl ?_
      exact rfl
    · exfalso; omega
  · intro i h0 h1 ih x5
    refine j_iload 5 rfl rfl dX1_putLooks_3 ?_
    refine j_iload_n 6 rfl rfl dX1_putLooks_5 ?_
    refine j_icmp_gt 59 9 (by decide) rfl dX1_putLooks_6 (by intro hR; first | omega | exact hR _ _ | exact jb_r _ | exact hR0 _ _ | assumption) (by intro hR; first | omega | exact hR _ _ | exact jb_r _ | exact hR0 _ _ | assumption) (fun h => ?_) (fun h => ?_)
    · exfalso; omega
    · refine j_iload 11 rfl rfl dX1_putLooks_9 ?_
      refine j_bipush 13 rfl rfl dX1_putLooks_11 ?_
      refine j_icmp_ge 59 16 (by decide) rfl dX1_putLooks_13 (by intro hR; first | omega | exact hR _ _ | exact jb_r _ | exact hR0 _ _ | assumption) (by intro hR; first | omega | exact hR _ _ | exact jb_r _ | exact hR0 _ _ | assumption) (fun h => ?_) (fun h => ?_)
      · exfalso; omega
      · refine j_aload_n 17 rfl rfl dX1_putLooks_16 ?_
        refine j_getr 20 rfl 6 fl_X1_33 dX1_putLooks_17 (by decide) ( rfl) ( rfl) ?_
        refine j_iconst 21 rfl dX1_putLooks_20 ?_
        refine j_aald 22 rfl dX1_putLooks_21 (by decide) rfl (by decide) rfl (by omega) (rfl)  ?_
        refine j_iload 24 rfl rfl dX1_putLooks_22 ?_
        refine j_iald 25 rfl dX1_putLooks_24 (by decide) rfl (by decide) rfl (by omega) ?_
        rw [jMp_n (by omega)]
        refine j_iconst 26 rfl dX1_putLooks_25 ?_
        refine j_iload_n 27 rfl rfl dX1_putLooks_26 ?_
        refine k_ishl 28 rfl dX1_putLooks_27 ?_
        refine j_iconst 29 rfl dX1_putLooks_28 ?_
        refine k_ixor 30 rfl dX1_putLooks_29 ?_
        refine k_iand 31 rfl dX1_putLooks_30 ?_
        refine j_istore 33 rfl st_6_5 (by decide) rfl dX1_putLooks_31 ?_
        refine j_aload_n 34 rfl rfl dX1_putLooks_33 ?_
        refine j_getr 37 rfl 6 fl_X1_33 dX1_putLooks_34 (by decide) ( rfl) ( rfl) ?_
        refine j_iconst 38 rfl dX1_putLooks_37 ?_
        refine j_aald 39 rfl dX1_putLooks_38 (by decide) rfl (by decide) rfl (by omega) (rfl)  ?_
        refine j_iload 41 rfl rfl dX1_putLooks_39 ?_
        refine j_iload 43 rfl rfl dX1_putLooks_41 ?_
        refine j_iload_n 44 rfl rfl dX1_putLooks_43 ?_
        refine j_iload 46 rfl rfl dX1_putLooks_44 ?_
        refine k_ishr 47 rfl dX1_putLooks_46 ?_
        refine j_iconst 48 rfl dX1_putLooks_47 ?_
        refine k_iand 49 rfl dX1_putLooks_48 ?_
        refine j_iload_n 50 rfl rfl dX1_putLooks_49 ?_
        refine k_ishl 51 rfl dX1_putLooks_50 ?_
        refine k_ior 52 rfl dX1_putLooks_51 ?_
        refine j_iast 53 rfl dX1_putLooks_52 (by decide) rfl (by decide) rfl (by omega) (by intro hR; exact jb_r _) ?_
        have e := jMp_s H 29 (fun i => lk1 (H 29 i) b w i) h0
        unfold lk1 at e ih ⊢
        rw [e]
        refine j_iinc 56 rfl rfl st_6_4 (by decide) rfl dX1_putLooks_53 ?_
        refine j_goto 3 (by decide) dX1_putLooks_56 ?_
        exact ih _
-- X1_opensByLaw
theorem s_law0_22 {b t : Int} (hb : 0 ≤ b ∧ b < 9) (ht : 0 ≤ t ∧ t < 60) (hl : H 23 b = 0) (hu : 0 ≤ H 35 b ∧ H 35 b ≤ 100) : jOk E mX1_opensByLaw [jRF E 22, .int (jI b), .int (jI t)] H (jQi fun r H' => (bt (H 28 t) b = false ∧ r = 0 ∧ H' = H) ∨ (bt (H 28 t) b = true ∧ ((r = 1 ∧ H 35 b + 1 = H 24 b) ∨ (r = 0 ∧ H 35 b + 1 ≠ H 24 b)) ∧ H' = jU H 35 b (H 35 b + 1))) := by
  refine jOk.rng (fun hR0 => ?_)
  refine jOk.ofe rfl (Nat.le_of_ble_eq_true rfl) (en_aii_3 (E := E)) ?_
  refine j_aload_n 1 rfl rfl dX1_opensByLaw_0 ?_
  refine j_getr 4 rfl 1 fl_X1_15 dX1_opensByLaw_1 (by decide) ( rfl) ( rfl) ?_
  refine j_iload_n 5 rfl rfl dX1_opensByLaw_4 ?_
  refine j_iald 6 rfl dX1_opensByLaw_5 (by decide) rfl (by decide) rfl (by omega) ?_
  rw [hl]
  refine j_tabIn 36 dX1_opensByLaw_6 (by omega) (by omega) (by rfl) (by decide) ?_
  refine j_aload_n 37 rfl rfl dX1_opensByLaw_36 ?_
  refine j_getr 40 rfl 6 fl_X1_33 dX1_opensByLaw_37 (by decide) ( rfl) ( rfl) ?_
  refine j_iconst 41 rfl dX1_opensByLaw_40 ?_
  refine j_aald 42 rfl dX1_opensByLaw_41 (by decide) rfl (by decide) rfl (by omega) (rfl)  ?_
  refine j_iload_n 43 rfl rfl dX1_opensByLaw_42 ?_
  refine j_iald 44 rfl dX1_opensByLaw_43 (by decide) rfl (by decide) rfl (by omega) ?_
  refine j_iload_n 45 rfl rfl dX1_opensByLaw_44 ?_
  refine k_ishr 46 rfl dX1_opensByLaw_45 ?_
  refine j_iconst 47 rfl dX1_opensByLaw_46 ?_
  refine k_iand 48 rfl dX1_opensByLaw_47 ?_
  rw [bt_shr1 (by omega)]
  cases hx : bt (H 28 t) b with
  | true =>
    rw [if_pos rfl]
    refine j_if_ne 53 51 (by decide) rfl dX1_opensByLaw_48 (by intro hR; first | omega | exact hR _ _ | exact jb_r _ | exact hR0 _ _ | assumption) (fun h => ?_) (fun h => ?_)
    · refine j_aload_n 54 rfl rfl dX1_opensByLaw_53 ?_
      refine j_getr 57 rfl 11 fl_X1_48 dX1_opensByLaw_54 (by decide) ( rfl) ( rfl) ?_
      refine j_iload_n 58 rfl rfl dX1_opensByLaw_57 ?_
      refine j_dup2 59 rfl rfl rfl dX1_opensByLaw_58 ?_
      refine j_iald 60 rfl dX1_opensByLaw_59 (by decide) rfl (by decide) rfl (by omega) ?_
      refine j_iconst 61 rfl dX1_opensByLaw_60 ?_
      refine j_iadd 62 rfl dX1_opensByLaw_61 ?_
      refine j_iast 63 rfl dX1_opensByLaw_62 (by decide) rfl (by decide) rfl (by omega) (by intro hR; first | omega | exact hR _ _ | exact jb_r _ | exact hR0 _ _ | assumption) ?_
      refine j_aload_n 64 rfl rfl dX1_opensByLaw_63 ?_
      refine j_getr 67 rfl 11 fl_X1_48 dX1_opensByLaw_64 (by decide) ( rfl) ( rfl) ?_
      refine j_iload_n 68 rfl rfl dX1_opensByLaw_67 ?_
      refine j_iald 69 rfl dX1_opensByLaw_68 (by decide) rfl (by decide) rfl (by omega) ?_
      try simp (disch := omega) only [jU_s, jU_k, jU_i]
      refine j_aload_n 70 rfl rfl dX1_opensByLaw_69 ?_
      refine j_getr 73 rfl 2 fl_X1_19 dX1_opensByLaw_70 (by decide) ( rfl) ( rfl) ?_
      refine j_iload_n 74 rfl rfl dX1_opensByLaw_73 ?_
      refine j_iald 75 rfl dX1_opensByLaw_74 (by decide) rfl (by decide) rfl (by omega) ?_
      try simp (disch := omega) only [jU_s, jU_k, jU_i]
      refine j_icmp_ne 82 78 (by decide) rfl dX1_opensByLaw_75 (by intro hR; first | omega | exact hR _ _ | exact jb_r _ | exact hR0 _ _ | assumption) (by intro hR; first | omega | exact hR _ _ | exact jb_r _ | exact hR0 _ _ | assumption) (fun h75 => ?_) (fun h75 => ?_)
      · refine j_iconst 83 rfl dX1_opensByLaw_82 ?_
        refine j_zreti dX1_opensByLaw_83 rfl (by first | decide | omega) ?_
        exact Or.inr ⟨by simp, by omega, rfl⟩
      · refine j_iconst 79 rfl dX1_opensByLaw_78 ?_
        refine j_goto 83 (by decide) dX1_opensByLaw_79 ?_
        refine j_zreti dX1_opensByLaw_83 rfl (by first | decide | omega) ?_
        exact Or.inr ⟨by simp, by omega, rfl⟩
    · exfalso; omega
  | false =>
    rw [if_neg (by simp)]
    refine j_if_ne 53 51 (by decide) rfl dX1_opensByLaw_48 (by intro hR; first | omega | exact hR _ _ | exact jb_r _ | exact hR0 _ _ | assumption) (fun h => ?_) (fun h => ?_)
    · exfalso; omega
    · refine j_iconst 52 rfl dX1_opensByLaw_51 ?_
      refine j_zreti dX1_opensByLaw_52 rfl (by first | decide | omega) ?_
      exact Or.inl ⟨rfl, rfl, rfl⟩
theorem s_law1_22 {b t : Int} (hb : 0 ≤ b ∧ b < 9) (ht : 0 ≤ t ∧ t < 60) (hl : H 23 b = 1) : jOk E mX1_opensByLaw [jRF E 22, .int (jI b), .int (jI t)] H (jQi fun r H' => H' = H ∧ ((r = 1 ∧ bAnd (H 22 15) (H 33 b) ≠ 0) ∨ (r = 0 ∧ bAnd (H 22 15) (H 33 b) = 0))) := by
  refine jOk.rng (fun hR0 => ?_)
  refine jOk.ofe rfl (Nat.le_of_ble_eq_true rfl) (en_aii_3 (E := E)) ?_
  refine j_aload_n 1 rfl rfl dX1_opensByLaw_0 ?_
  refine j_getr 4 rfl 1 fl_X1_15 dX1_opensByLaw_1 (by decide) ( rfl) ( rfl) ?_
  refine j_iload_n 5 rfl rfl dX1_opensByLaw_4 ?_
  refine j_iald 6 rfl dX1_opensByLaw_5 (by decide) rfl (by decide) rfl (by omega) ?_
  rw [hl]
  refine j_tabIn 84 dX1_opensByLaw_6 (by omega) (by omega) (by rfl) (by decide) ?_
  refine j_aload_n 85 rfl rfl dX1_opensByLaw_84 ?_
  refine g_geti 88 rfl 15 15 rfl fl_X1_60 dX1_opensByLaw_85 (by decide) ( rfl) ( rfl) ?_
  refine j_aload_n 89 rfl rfl dX1_opensByLaw_88 ?_
  refine j_getr 92 rfl 9 fl_X1_42 dX1_opensByLaw_89 (by decide) ( rfl) ( rfl) ?_
  refine j_iload_n 93 rfl rfl dX1_opensByLaw_92 ?_
  refine j_iald 94 rfl dX1_opensByLaw_93 (by decide) rfl (by decide) rfl (by omega) ?_
  refine k_iand 95 rfl dX1_opensByLaw_94 ?_
  refine j_if_eq 102 98 (by decide) rfl dX1_opensByLaw_95 (by intro hR; first | omega | exact hR _ _ | exact jb_r _ | exact hR0 _ _ | assumption) (fun h95 => ?_) (fun h95 => ?_)
  · refine j_iconst 103 rfl dX1_opensByLaw_102 ?_
    refine j_zreti dX1_opensByLaw_103 rfl (by first | decide | omega) ?_
    exact ⟨rfl, by omega⟩
  · refine j_iconst 99 rfl dX1_opensByLaw_98 ?_
    refine j_goto 103 (by decide) dX1_opensByLaw_99 ?_
    refine j_zreti dX1_opensByLaw_103 rfl (by first | decide | omega) ?_
    exact ⟨rfl, by omega⟩
theorem s_law2_22 {b t : Int} (hb : 0 ≤ b ∧ b < 9) (ht : 0 ≤ t ∧ t < 60) (hl : H 23 b = 2) (hu : 0 ≤ H 36 b ∧ H 36 b ≤ 100) : jOk E mX1_opensByLaw [jRF E 22, .int (jI b), .int (jI t)] H (jQi fun r H' => (bt (H 29 t) b = true ∧ ((r = 1 ∧ H 24 b ≤ 0) ∨ (r = 0 ∧ 0 < H 24 b)) ∧ H' = jU H 36 b 0) ∨ (bt (H 29 t) b = false ∧ ((r = 1 ∧ H 24 b ≤ H 36 b + 1) ∨ (r = 0 ∧ H 36 b + 1 < H 24 b)) ∧ H' = jU H 36 b (H 36 b + 1))) := by
  refine jOk.rng (fun hR0 => ?_)
  refine jOk.ofe rfl (Nat.le_of_ble_eq_true rfl) (en_aii_3 (E := E)) ?_
  refine j_aload_n 1 rfl rfl dX1_opensByLaw_0 ?_
  refine j_getr 4 rfl 1 fl_X1_15 dX1_opensByLaw_1 (by decide) ( rfl) ( rfl) ?_
  refine j_iload_n 5 rfl rfl dX1_opensByLaw_4 ?_
  refine j_iald 6 rfl dX1_opensByLaw_5 (by decide) rfl (by decide) rfl (by omega) ?_
  rw [hl]
  refine j_tabIn 104 dX1_opensByLaw_6 (by omega) (by omega) (by rfl) (by decide) ?_
  refine j_aload_n 105 rfl rfl dX1_opensByLaw_104 ?_
  refine j_getr 108 rfl 12 fl_X1_51 dX1_opensByLaw_105 (by decide) ( rfl) ( rfl) ?_
  refine j_iload_n 109 rfl rfl dX1_opensByLaw_108 ?_
  refine j_aload_n 110 rfl rfl dX1_opensByLaw_109 ?_
  refine j_getr 113 rfl 6 fl_X1_33 dX1_opensByLaw_110 (by decide) ( rfl) ( rfl) ?_
  refine j_iconst 114 rfl dX1_opensByLaw_113 ?_
  refine j_aald 115 rfl dX1_opensByLaw_114 (by decide) rfl (by decide) rfl (by omega) (rfl)  ?_
  refine j_iload_n 116 rfl rfl dX1_opensByLaw_115 ?_
  refine j_iald 117 rfl dX1_opensByLaw_116 (by decide) rfl (by decide) rfl (by omega) ?_
  refine j_iload_n 118 rfl rfl dX1_opensByLaw_117 ?_
  refine k_ishr 119 rfl dX1_opensByLaw_118 ?_
  refine j_iconst 120 rfl dX1_opensByLaw_119 ?_
  refine k_iand 121 rfl dX1_opensByLaw_120 ?_
  rw [bt_shr1 (by omega)]
  cases hx : bt (H 29 t) b with
  | true =>
    rw [if_pos rfl]
    refine j_if_eq 128 124 (by decide) rfl dX1_opensByLaw_121 (by intro hR; first | omega | exact hR _ _ | exact jb_r _ | exact hR0 _ _ | assumption) (fun h => ?_) (fun h => ?_)
    · exfalso; omega
    · refine j_iconst 125 rfl dX1_opensByLaw_124 ?_
      refine j_goto 136 (by decide) dX1_opensByLaw_125 ?_
      refine j_iast 137 rfl dX1_opensByLaw_136 (by decide) rfl (by decide) rfl (by omega) (by intro hR; first | omega | exact hR _ _ | exact jb_r _ | exact hR0 _ _ | assumption) ?_
      refine j_aload_n 138 rfl rfl dX1_opensByLaw_137 ?_
      refine j_getr 141 rfl 12 fl_X1_51 dX1_opensByLaw_138 (by decide) ( rfl) ( rfl) ?_
      refine j_iload_n 142 rfl rfl dX1_opensByLaw_141 ?_
      refine j_iald 143 rfl dX1_opensByLaw_142 (by decide) rfl (by decide) rfl (by omega) ?_
      try simp (disch := omega) only [jU_s, jU_k, jU_i]
      refine j_aload_n 144 rfl rfl dX1_opensByLaw_143 ?_
      refine j_getr 147 rfl 2 fl_X1_19 dX1_opensByLaw_144 (by decide) ( rfl) ( rfl) ?_
      refine j_iload_n 148 rfl rfl dX1_opensByLaw_147 ?_
      refine j_iald 149 rfl dX1_opensByLaw_148 (by decide) rfl (by decide) rfl (by omega) ?_
      try simp (disch := omega) only [jU_s, jU_k, jU_i]
      refine j_icmp_lt 156 152 (by decide) rfl dX1_opensByLaw_149 (by intro hR; first | omega | exact hR _ _ | exact jb_r _ | exact hR0 _ _ | assumption) (by intro hR; first | omega | exact hR _ _ | exact jb_r _ | exact hR0 _ _ | assumption) (fun h149 => ?_) (fun h149 => ?_)
      · refine j_iconst 157 rfl dX1_opensByLaw_156 ?_
        refine j_zreti dX1_opensByLaw_157 rfl (by first | decide | omega) ?_
        exact Or.inl ⟨by simp, by omega, rfl⟩
      · refine j_iconst 153 rfl dX1_opensByLaw_152 ?_
        refine j_goto 157 (by decide) dX1_opensByLaw_153 ?_
        refine j_zreti dX1_opensByLaw_157 rfl (by first | decide | omega) ?_
        exact Or.inl ⟨by simp, by omega, rfl⟩
  | false =>
    rw [if_neg (by simp)]
    refine j_if_eq 128 124 (by decide) rfl dX1_opensByLaw_121 (by intro hR; first | omega | exact hR _ _ | exact jb_r _ | exact hR0 _ _ | assumption) (fun h => ?_) (fun h => ?_)
    · refine j_aload_n 129 rfl rfl dX1_opensByLaw_128 ?_
      refine j_getr 132 rfl 12 fl_X1_51 dX1_opensByLaw_129 (by decide) ( rfl) ( rfl) ?_
      refine j_iload_n 133 rfl rfl dX1_opensByLaw_132 ?_
      refine j_iald 134 rfl dX1_opensByLaw_133 (by decide) rfl (by decide) rfl (by omega) ?_
      refine j_iconst 135 rfl dX1_opensByLaw_134 ?_
      refine j_iadd 136 rfl dX1_opensByLaw_135 ?_
      refine j_iast 137 rfl dX1_opensByLaw_136 (by decide) rfl (by decide) rfl (by omega) (by intro hR; first | omega | exact hR _ _ | exact jb_r _ | exact hR0 _ _ | assumption) ?_
      refine j_aload_n 138 rfl rfl dX1_opensByLaw_137 ?_
      refine j_getr 141 rfl 12 fl_X1_51 dX1_opensByLaw_138 (by decide) ( rfl) ( rfl) ?_
      refine j_iload_n 142 rfl rfl dX1_opensByLaw_141 ?_
      refine j_iald 143 rfl dX1_opensByLaw_142 (by decide) rfl (by decide) rfl (by omega) ?_
      try simp (disch := omega) only [jU_s, jU_k, jU_i]
      refine j_aload_n 144 rfl rfl dX1_opensByLaw_143 ?_
      refine j_getr 147 rfl 2 fl_X1_19 dX1_opensByLaw_144 (by decide) ( rfl) ( rfl) ?_
      refine j_iload_n 148 rfl rfl dX1_opensByLaw_147 ?_
      refine j_iald 149 rfl dX1_opensByLaw_148 (by decide) rfl (by decide) rfl (by omega) ?_
      try simp (disch := omega) only [jU_s, jU_k, jU_i]
      refine j_icmp_lt 156 152 (by decide) rfl dX1_opensByLaw_149 (by intro hR; first | omega | exact hR _ _ | exact jb_r _ | exact hR0 _ _ | assumption) (by intro hR; first | omega | exact hR _ _ | exact jb_r _ | exact hR0 _ _ | assumption) (fun h149 => ?_) (fun h149 => ?_)
      · refine j_iconst 157 rfl dX1_opensByLaw_156 ?_
        refine j_zreti dX1_opensByLaw_157 rfl (by first | decide | omega) ?_
        exact Or.inr ⟨by simp, by omega, rfl⟩
      · refine j_iconst 153 rfl dX1_opensByLaw_152 ?_
        refine j_goto 157 (by decide) dX1_opensByLaw_153 ?_
        refine j_zreti dX1_opensByLaw_157 rfl (by first | decide | omega) ?_
        exact Or.inr ⟨by simp, by omega, rfl⟩
    · exfalso; omega
theorem s_law3_22 {b t : Int} (hb : 0 ≤ b ∧ b < 9) (ht : 0 ≤ t ∧ t < 60) (hl : H 23 b = 3) : jOk E mX1_opensByLaw [jRF E 22, .int (jI b), .int (jI t)] H (jQi fun r H' => H' = H ∧ ((r = 1 ∧ H 24 b ≤ H 22 14) ∨ (r = 0 ∧ H 22 14 < H 24 b))) := by
  refine jOk.rng (fun hR0 => ?_)
  refine jOk.ofe rfl (Nat.le_of_ble_eq_true rfl) (en_aii_3 (E := E)) ?_
  refine j_aload_n 1 rfl rfl dX1_opensByLaw_0 ?_
  refine j_getr 4 rfl 1 fl_X1_15 dX1_opensByLaw_1 (by decide) ( rfl) ( rfl) ?_
  refine j_iload_n 5 rfl rfl dX1_opensByLaw_4 ?_
  refine j_iald 6 rfl dX1_opensByLaw_5 (by decide) rfl (by decide) rfl (by omega) ?_
  rw [hl]
  refine j_tabIn 158 dX1_opensByLaw_6 (by omega) (by omega) (by rfl) (by decide) ?_
  refine j_aload_n 159 rfl rfl dX1_opensByLaw_158 ?_
  refine g_geti 162 rfl 14 14 rfl fl_X1_57 dX1_opensByLaw_159 (by decide) ( rfl) ( rfl) ?_
  refine j_aload_n 163 rfl rfl dX1_opensByLaw_162 ?_
  refine j_getr 166 rfl 2 fl_X1_19 dX1_opensByLaw_163 (by decide) ( rfl) ( rfl) ?_
  refine j_iload_n 167 rfl rfl dX1_opensByLaw_166 ?_
  refine j_iald 168 rfl dX1_opensByLaw_167 (by decide) rfl (by decide) rfl (by omega) ?_
  refine j_icmp_lt 175 171 (by decide) rfl dX1_opensByLaw_168 (by intro hR; first | omega | exact hR _ _ | exact jb_r _ | exact hR0 _ _ | assumption) (by intro hR; first | omega | exact hR _ _ | exact jb_r _ | exact hR0 _ _ | assumption) (fun h168 => ?_) (fun h168 => ?_)
  · refine j_iconst 176 rfl dX1_opensByLaw_175 ?_
    refine j_zreti dX1_opensByLaw_176 rfl (by first | decide | omega) ?_
    exact ⟨rfl, by omega⟩
  · refine j_iconst 172 rfl dX1_opensByLaw_171 ?_
    refine j_goto 176 (by decide) dX1_opensByLaw_172 ?_
    refine j_zreti dX1_opensByLaw_176 rfl (by first | decide | omega) ?_
    exact ⟨rfl, by omega⟩
theorem s_law4_22 {b t : Int} (hb : 0 ≤ b ∧ b < 9) (ht : 0 ≤ t ∧ t < 60) (hl : H 23 b = 4) : jOk E mX1_opensByLaw [jRF E 22, .int (jI b), .int (jI t)] H (jQi fun r H' => H' = H ∧ r = 0) := by
  refine jOk.rng (fun hR0 => ?_)
  refine jOk.ofe rfl (Nat.le_of_ble_eq_true rfl) (en_aii_3 (E := E)) ?_
  refine j_aload_n 1 rfl rfl dX1_opensByLaw_0 ?_
  refine j_getr 4 rfl 1 fl_X1_15 dX1_opensByLaw_1 (by decide) ( rfl) ( rfl) ?_
  refine j_iload_n 5 rfl rfl dX1_opensByLaw_4 ?_
  refine j_iald 6 rfl dX1_opensByLaw_5 (by decide) rfl (by decide) rfl (by omega) ?_
  rw [hl]
  refine j_tabOut 177 dX1_opensByLaw_6 (by intro _; omega) (by omega) (by decide) ?_
  refine j_iconst 178 rfl dX1_opensByLaw_177 ?_
  refine j_zreti dX1_opensByLaw_178 rfl (by first | decide | omega) ?_
  exact ⟨rfl, rfl⟩
-- X1_putRow
theorem s_putRow_37 {rk : Nat} (hrk : rk = 6 ∨ rk = 54) (hrow : ∀ p, 0 ≤ p → p < 9 → 0 ≤ H rk p ∧ H rk p ≤ 8) : jOk E mX1_putRow [jRF E 37, jRF E rk] H (jQv fun H' => H' = pr H 41 rk 9) := by
  have hs : j_shp rk = .inl 9 := by rcases hrk with rfl | rfl <;> rfl
  have hlt : rk < jK := by rcases hrk with rfl | rfl <;> decide
  have hty : j_ty rk = .int := by rcases hrk with rfl | rfl <;> rfl
  have hne : rk ≠ 41 := by omega
  refine jOk.rng (fun hR0 => ?_)
  refine jOk.ofe rfl (Nat.le_of_ble_eq_true rfl) (en_aa_3 (E := E)) ?_
  refine j_iconst 1 rfl dX1_putRow_0 ?_
  refine j_istore_n 2 rfl st_3_2 (by decide) rfl dX1_putRow_1 ?_
  have loop := jUp 0 9 (fun i => jWP E mX1_putRow (jQv fun H' => H' = pr H 41 rk 9) 2 [some (jRF E 37), some (jRF E rk), some (.int (jI i))] [] (pr H 41 rk i)) ?_ ?_ 0 (by omega) (by omega)
  · exact loop
  · refine j_iload_n 3 rfl rfl dX1_putRow_2 ?_
    refine j_bipush 5 rfl rfl dX1_putRow_3 ?_
    refine j_icmp_ge 23 8 (by decide) rfl dX1_putRow_5 (by intro hR; first | omega | exact hR _ _ | exact jb_r _ | exact hR0 _ _ | assumption) (by intro hR; first | omega | exact hR _ _ | exact jb_r _ | exact hR0 _ _ | assumption) (fun h => ?_) (fun h => ?_)
    · refine j_vretv dX1_putRow_23 rfl ?_
      exact rfl
    · exfalso; omega
  · intro i h0 h1 ih
    have hr := hrow i h0 h1
    refine j_iload_n 3 rfl rfl dX1_putRow_2 ?_
    refine j_bipush 5 rfl rfl dX1_putRow_3 ?_
    refine j_icmp_ge 23 8 (by decide) rfl dX1_putRow_5 (by intro hR; first | omega | exact hR _ _ | exact jb_r _ | exact hR0 _ _ | assumption) (by intro hR; first | omega | exact hR _ _ | exact jb_r _ | exact hR0 _ _ | assumption) (fun h => ?_) (fun h => ?_)
    · exfalso; omega
    · refine j_aload_n 9 rfl rfl dX1_putRow_8 ?_
      refine j_getr 12 rfl 4 fl_X1_25 dX1_putRow_9 (by decide) ( rfl) ( rfl) ?_
      refine j_aload_n 13 rfl rfl dX1_putRow_12 ?_
      refine j_iload_n 14 rfl rfl dX1_putRow_13 ?_
      refine j_iald 15 rfl dX1_putRow_14 hlt hs (by decide) hty (by omega) ?_
      rw [pr_o H hne]
      refine j_iload_n 16 rfl rfl dX1_putRow_15 ?_
      refine j_iast 17 rfl dX1_putRow_16 (by decide) rfl (by decide) rfl (by omega) (by intro hR; omega) ?_
      rw [← pr_s H 41 rk h0]
      refine j_iinc 20 rfl rfl st_3_2 (by decide) rfl dX1_putRow_17 ?_
      refine j_goto 2 (by decide) dX1_putRow_20 ?_
      exact ih
-- X1_putLaw
theorem s_putLaw_37 {b cd : Int} (hb : 0 ≤ b ∧ b < 9) (hc : 0 ≤ cd ∧ cd ≤ 100) : jOk E mX1_putLaw [jRF E 37, .int (jI b), .int (jI cd)] H (jQv fun H' => H' = jU (jU H 38 b (cd / 10)) 39 b (cd % 10)) := by
  refine jOk.rng (fun hR0 => ?_)
  refine jOk.ofe rfl (Nat.le_of_ble_eq_true rfl) (en_aii_3 (E := E)) ?_
  refine j_aload_n 1 rfl rfl dX1_putLaw_0 ?_
  refine j_getr 4 rfl 1 fl_X1_15 dX1_putLaw_1 (by decide) ( rfl) ( rfl) ?_
  refine j_iload_n 5 rfl rfl dX1_putLaw_4 ?_
  refine j_iload_n 6 rfl rfl dX1_putLaw_5 ?_
  refine j_bipush 8 rfl rfl dX1_putLaw_6 ?_
  refine k_idiv 9 rfl (by omega) (by intro hR; first | omega | exact hR _ _ | exact jb_r _ | exact hR0 _ _ | assumption) dX1_putLaw_8 ?_
  rw [iDiv_n (by omega) (by omega)]
  refine j_iast 10 rfl dX1_putLaw_9 (by decide) rfl (by decide) rfl (by omega) (by intro hR; first | omega | exact hR _ _ | exact jb_r _ | exact hR0 _ _ | assumption) ?_
  refine j_aload_n 11 rfl rfl dX1_putLaw_10 ?_
  refine j_getr 14 rfl 2 fl_X1_19 dX1_putLaw_11 (by decide) ( rfl) ( rfl) ?_
  refine j_iload_n 15 rfl rfl dX1_putLaw_14 ?_
  refine j_iload_n 16 rfl rfl dX1_putLaw_15 ?_
  refine j_bipush 18 rfl rfl dX1_putLaw_16 ?_
  refine k_irem 19 rfl (by omega) (by intro hR; first | omega | exact hR _ _ | exact jb_r _ | exact hR0 _ _ | assumption) dX1_putLaw_18 ?_
  rw [iRem_n (by omega) (by omega)]
  refine j_iast 20 rfl dX1_putLaw_19 (by decide) rfl (by decide) rfl (by omega) (by intro hR; first | omega | exact hR _ _ | exact jb_r _ | exact hR0 _ _ | assumption) ?_
  refine j_vretv dX1_putLaw_20 rfl ?_
  exact rfl
-- X1_isUp
theorem s_isUp_37 {b t : Int} (hb : 0 ≤ b ∧ b < 9) (ht : 0 ≤ t ∧ t < 60) : jOk E mX1_isUp [jRF E 37, .int (jI b), .int (jI t)] H (jQi fun r H' => H' = H ∧ ((r = 1 ∧ bt (H 47 t) b = true) ∨ (r = 0 ∧ bt (H 47 t) b = false))) := by
  refine jOk.rng (fun hR0 => ?_)
  refine jOk.ofe rfl (Nat.le_of_ble_eq_true rfl) (en_aii_3 (E := E)) ?_
  refine j_aload_n 1 rfl rfl dX1_isUp_0 ?_
  refine j_getr 4 rfl 8 fl_X1_39 dX1_isUp_1 (by decide) ( rfl) ( rfl) ?_
  refine j_iload_n 5 rfl rfl dX1_isUp_4 ?_
  refine j_iald 6 rfl dX1_isUp_5 (by decide) rfl (by decide) rfl (by omega) ?_
  refine j_iload_n 7 rfl rfl dX1_isUp_6 ?_
  refine k_ishr 8 rfl dX1_isUp_7 ?_
  refine j_iconst 9 rfl dX1_isUp_8 ?_
  refine k_iand 10 rfl dX1_isUp_9 ?_
  rw [bt_shr1 (by omega)]
  cases hx : bt (H 47 t) b with
  | true =>
    rw [if_pos rfl]
    refine j_if_eq 17 13 (by decide) rfl dX1_isUp_10 (by intro hR; first | omega | exact hR _ _ | exact jb_r _ | exact hR0 _ _ | assumption) (fun h10 => ?_) (fun h10 => ?_)
    · exfalso; omega
    · refine j_iconst 14 rfl dX1_isUp_13 ?_
      refine j_goto 18 (by decide) dX1_isUp_14 ?_
      refine j_zreti dX1_isUp_18 rfl (by first | decide | omega) ?_
      exact ⟨rfl, by simp⟩
  | false =>
    rw [if_neg (by simp)]
    refine j_if_eq 17 13 (by decide) rfl dX1_isUp_10 (by intro hR; first | omega | exact hR _ _ | exact jb_r _ | exact hR0 _ _ | assumption) (fun h10 => ?_) (fun h10 => ?_)
    · refine j_iconst 18 rfl dX1_isUp_17 ?_
      refine j_zreti dX1_isUp_18 rfl (by first | decide | omega) ?_
      exact ⟨rfl, by simp⟩
    · exfalso; omega
-- X1_openings
theorem s_openings_37 {l : Int} (hl : -1 ≤ l ∧ l < 60) (hm : ∀ t, 0 ≤ t → t ≤ l → 0 ≤ H 46 t ∧ H 46 t < 512) : jOk E mX1_openings [jRF E 37, .int (jI l)] H (jQi fun r H' => H' = H ∧ r = sumI (fun t => oc (H 46 t)) (l + 1)) := by
  refine jOk.rng (fun hR0 => ?_)
  refine jOk.ofe rfl (Nat.le_of_ble_eq_true rfl) (en_ai_4 (E := E)) ?_
  refine j_iconst 1 rfl dX1_openings_0 ?_
  refine j_istore_n 2 rfl st_4_2 (by decide) rfl dX1_openings_1 ?_
  refine j_iconst 3 rfl dX1_openings_2 ?_
  refine j_istore_n 4 rfl st_4_3 (by decide) rfl dX1_openings_3 ?_
  have loop := jUp 0 (l + 1) (fun i => jWP E mX1_openings (jQi fun r H' => H' = H ∧ r = sumI (fun t => oc (H 46 t)) (l + 1)) 4 [some (jRF E 37), some (.int (jI l)), some (.int (jI (sumI (fun t => oc (H 46 t)) i))), some (.int (jI i))] [] H) ?_ ?_ 0 (by omega) (by omega)
  · exact loop
  · refine j_iload_n 5 rfl rfl dX1_openings_4 ?_
    refine j_iload_n 6 rfl rfl dX1_openings_5 ?_
    refine j_icmp_gt 33 9 (by decide) rfl dX1_openings_6 (by intro hR; first | omega | exact hR _ _ | exact jb_r _ | exact hR0 _ _ | assumption) (by intro hR; first | omega | exact hR _ _ | exact jb_r _ | exact hR0 _ _ | assumption) (fun h => ?_) (fun h => ?_)
    · refine j_iload_n 34 rfl rfl dX1_openings_33 ?_
      refine j_ireti dX1_openings_34 rfl ?_
      exact ⟨rfl, rfl⟩
    · exfalso; omega
  · intro i h0 h1 ih
    refine j_iload_n 5 rfl rfl dX1_openings_4 ?_
    refine j_iload_n 6 rfl rfl dX1_openings_5 ?_
    refine j_icmp_gt 33 9 (by decide) rfl dX1_openings_6 (by intro hR; first | omega | exact hR _ _ | exact jb_r _ | exact hR0 _ _ | assumption) (by intro hR; first | omega | exact hR _ _ | exact jb_r _ | exact hR0 _ _ | assumption) (fun h => ?_) (fun h => ?_)
    · exfalso; omega
    · refine j_iload_n 10 rfl rfl dX1_openings_9 ?_
      refine j_bipush 12 rfl rfl dX1_openings_10 ?_
      refine j_icmp_ge 33 15 (by decide) rfl dX1_openings_12 (by intro hR; first | omega | exact hR _ _ | exact jb_r _ | exact hR0 _ _ | assumption) (by intro hR; first | omega | exact hR _ _ | exact jb_r _ | exact hR0 _ _ | assumption) (fun h => ?_) (fun h => ?_)
      · exfalso; omega
      · refine j_iload_n 16 rfl rfl dX1_openings_15 ?_
        refine j_aload_n 17 rfl rfl dX1_openings_16 ?_
        refine j_getr 20 rfl 7 fl_X1_36 dX1_openings_17 (by decide) ( rfl) ( rfl) ?_
        refine j_iload_n 21 rfl rfl dX1_openings_20 ?_
        refine j_iald 22 rfl dX1_openings_21 (by decide) rfl (by decide) rfl (by omega) ?_
        refine jS1i 25 rfl dX1_openings_22 lk_X1_106 rfl rfl (s_bitCount (hm i h0 (by omega))) (fun r H1 ⟨e, hr⟩ => ?_)
        subst e
        subst hr
        refine j_iadd 26 rfl dX1_openings_25 ?_
        rw [← sumI_s (fun t => oc (H1 46 t)) h0]
        refine j_istore_n 27 rfl st_4_2 (by decide) rfl dX1_openings_26 ?_
        refine j_iinc 30 rfl rfl st_4_3 (by decide) rfl dX1_openings_27 ?_
        refine j_goto 4 (by decide) dX1_openings_30 ?_
        exact ih
-- X1_putLooks
theorem s_putLooks_37 {b w l : Int} (hb : 0 ≤ b ∧ b < 9) (hl : -1 ≤ l ∧ l < 60) : jOk E mX1_putLooks [jRF E 37, .int (jI b), .int (jI w), .int (jI l)] H (jQv fun H' => H' = jMp H 44 (l + 1) (fun i => lk1 (H 44 i) b w i)) := by
  refine jOk.rng (fun hR1 => ?_)
  refine jOk.rng (fun hR0 => ?_)
  refine jOk.ofe rfl (Nat.le_of_ble_eq_true rfl) (en_aiii_6 (E := E)) ?_
  refine j_iconst 1 rfl dX1_putLooks_0 ?_
  refine j_istore 3 rfl st_6_4 (by decide) rfl dX1_putLooks_1 ?_
  have loop := jUp 0 (l + 1) (fun i => ∀ x5, jWP E mX1_putLooks (jQv fun H' => H' = jMp H 44 (l + 1) (fun i => lk1 (H 44 i) b w i)) 3 [some (jRF E 37), some (.int (jI b)), some (.int (jI w)), some (.int (jI l)), some (.int (jI i)), x5] [] (jMp H 44 i (fun i => lk1 (H 44 i) b w i))) ?_ ?_ 0 (by omega) (by omega)
  · have := loop none
    rw [jMp_0] at this
    exact this
  · intro x5
    refine j_iload 5 rfl rfl dX1_putLooks_3 ?_
    refine j_iload_n 6 rfl rfl dX1_putLooks_5 ?_
    refine j_icmp_gt 59 9 (by decide) rfl dX1_putLooks_6 (by intro hR; first | omega | exact hR _ _ | exact jb_r _ | exact hR0 _ _ | assumption) (by intro hR; first | omega | exact hR _ _ | exact jb_r _ | exact hR0 _ _ | assumption) (fun h => ?_) (fun h => ?_)
    · refine j_vretv dX1_putLooks_59 rfl ?_
      exact rfl
    · exfalso; omega
  · intro i h0 h1 ih x5
    refine j_iload 5 rfl rfl dX1_putLooks_3 ?_
    refine j_iload_n 6 rfl rfl dX1_putLooks_5 ?_
    refine j_icmp_gt 59 9 (by decide) rfl dX1_putLooks_6 (by intro hR; first | omega | exact hR _ _ | exact jb_r _ | exact hR0 _ _ | assumption) (by intro hR; first | omega | exact hR _ _ | exact jb_r _ | exact hR0 _ _ | assumption) (fun h => ?_) (fun h => ?_)
    · exfalso; omega
    · refine j_iload 11 rfl rfl dX1_putLooks_9 ?_
      refine j_bipush 13 rfl rfl dX1_putLooks_11 ?_
      refine j_icmp_ge 59 16 (by decide) rfl dX1_putLooks_13 (by intro hR; first | omega | exact hR _ _ | exact jb_r _ | exact hR0 _ _ | assumption) (by intro hR; first | omega | exact hR _ _ | exact jb_r _ | exact hR0 _ _ | assumption) (fun h => ?_) (fun h => ?_)
      · exfalso; omega
      · refine j_aload_n 17 rfl rfl dX1_putLooks_16 ?_
        refine j_getr 20 rfl 6 fl_X1_33 dX1_putLooks_17 (by decide) ( rfl) ( rfl) ?_
        refine j_iconst 21 rfl dX1_putLooks_20 ?_
        refine j_aald 22 rfl dX1_putLooks_21 (by decide) rfl (by decide) rfl (by omega) (rfl)  ?_
        refine j_iload 24 rfl rfl dX1_putLooks_22 ?_
        refine j_iald 25 rfl dX1_putLooks_24 (by decide) rfl (by decide) rfl (by omega) ?_
        rw [jMp_n (by omega)]
        refine j_iconst 26 rfl dX1_putLooks_25 ?_
        refine j_iload_n 27 rfl rfl dX1_putLooks_26 ?_
        refine k_ishl 28 rfl dX1_putLooks_27 ?_
        refine j_iconst 29 rfl dX1_putLooks_28 ?_
        refine k_ixor 30 rfl dX1_putLooks_29 ?_
        refine k_iand 31 rfl dX1_putLooks_30 ?_
        refine j_istore 33 rfl st_6_5 (by decide) rfl dX1_putLooks_31 ?_
        refine j_aload_n 34 rfl rfl dX1_putLooks_33 ?_
        refine j_getr 37 rfl 6 fl_X1_33 dX1_putLooks_34 (by decide) ( rfl) ( rfl) ?_
        refine j_iconst 38 rfl dX1_putLooks_37 ?_
        refine j_aald 39 rfl dX1_putLooks_38 (by decide) rfl (by decide) rfl (by omega) (rfl)  ?_
        refine j_iload 41 rfl rfl dX1_putLooks_39 ?_
        refine j_iload 43 rfl rfl dX1_putLooks_41 ?_
        refine j_iload_n 44 rfl rfl dX1_putLooks_43 ?_
        refine j_iload 46 rfl rfl dX1_putLooks_44 ?_
        refine k_ishr 47 rfl dX1_putLooks_46 ?_
        refine j_iconst 48 rfl dX1_putLooks_47 ?_
        refine k_iand 49 rfl dX1_putLooks_48 ?_
        refine j_iload_n 50 rfl rfl dX1_putLooks_49 ?_
        refine k_ishl 51 rfl dX1_putLooks_50 ?_
        refine k_ior 52 rfl dX1_putLooks_51 ?_
        refine j_iast 53 rfl dX1_putLooks_52 (by decide) rfl (by decide) rfl (by omega) (by intro hR; exact jb_r _) ?_
        have e := jMp_s H 44 (fun i => lk1 (H 44 i) b w i) h0
        unfold lk1 at e ih ⊢
        rw [e]
        refine j_iinc 56 rfl rfl st_6_4 (by decide) rfl dX1_putLooks_53 ?_
        refine j_goto 3 (by decide) dX1_putLooks_56 ?_
        exact ih _
-- X1_opensByLaw
theorem s_law0_37 {b t : Int} (hb : 0 ≤ b ∧ b < 9) (ht : 0 ≤ t ∧ t < 60) (hl : H 38 b = 0) (hu : 0 ≤ H 50 b ∧ H 50 b ≤ 100) : jOk E mX1_opensByLaw [jRF E 37, .int (jI b), .int (jI t)] H (jQi fun r H' => (bt (H 43 t) b = false ∧ r = 0 ∧ H' = H) ∨ (bt (H 43 t) b = true ∧ ((r = 1 ∧ H 50 b + 1 = H 39 b) ∨ (r = 0 ∧ H 50 b + 1 ≠ H 39 b)) ∧ H' = jU H 50 b (H 50 b + 1))) := by
  refine jOk.rng (fun hR0 => ?_)
  refine jOk.ofe rfl (Nat.le_of_ble_eq_true rfl) (en_aii_3 (E := E)) ?_
  refine j_aload_n 1 rfl rfl dX1_opensByLaw_0 ?_
  refine j_getr 4 rfl 1 fl_X1_15 dX1_opensByLaw_1 (by decide) ( rfl) ( rfl) ?_
  refine j_iload_n 5 rfl rfl dX1_opensByLaw_4 ?_
  refine j_iald 6 rfl dX1_opensByLaw_5 (by decide) rfl (by decide) rfl (by omega) ?_
  rw [hl]
  refine j_tabIn 36 dX1_opensByLaw_6 (by omega) (by omega) (by rfl) (by decide) ?_
  refine j_aload_n 37 rfl rfl dX1_opensByLaw_36 ?_
  refine j_getr 40 rfl 6 fl_X1_33 dX1_opensByLaw_37 (by decide) ( rfl) ( rfl) ?_
  refine j_iconst 41 rfl dX1_opensByLaw_40 ?_
  refine j_aald 42 rfl dX1_opensByLaw_41 (by decide) rfl (by decide) rfl (by omega) (rfl)  ?_
  refine j_iload_n 43 rfl rfl dX1_opensByLaw_42 ?_
  refine j_iald 44 rfl dX1_opensByLaw_43 (by decide) rfl (by decide) rfl (by omega) ?_
  refine j_iload_n 45 rfl rfl dX1_opensByLaw_44 ?_
  refine k_ishr 46 rfl dX1_opensByLaw_45 ?_
  refine j_iconst 47 rfl dX1_opensByLaw_46 ?_
  refine k_iand 48 rfl dX1_opensByLaw_47 ?_
  rw [bt_shr1 (by omega)]
  cases hx : bt (H 43 t) b with
  | true =>
    rw [if_pos rfl]
    refine j_if_ne 53 51 (by decide) rfl dX1_opensByLaw_48 (by intro hR; first | omega | exact hR _ _ | exact jb_r _ | exact hR0 _ _ | assumption) (fun h => ?_) (fun h => ?_)
    · refine j_aload_n 54 rfl rfl dX1_opensByLaw_53 ?_
      refine j_getr 57 rfl 11 fl_X1_48 dX1_opensByLaw_54 (by decide) ( rfl) ( rfl) ?_
      refine j_iload_n 58 rfl rfl dX1_opensByLaw_57 ?_
      refine j_dup2 59 rfl rfl rfl dX1_opensByLaw_58 ?_
      refine j_iald 60 rfl dX1_opensByLaw_59 (by decide) rfl (by decide) rfl (by omega) ?_
      refine j_iconst 61 rfl dX1_opensByLaw_60 ?_
      refine j_iadd 62 rfl dX1_opensByLaw_61 ?_
      refine j_iast 63 rfl dX1_opensByLaw_62 (by decide) rfl (by decide) rfl (by omega) (by intro hR; first | omega | exact hR _ _ | exact jb_r _ | exact hR0 _ _ | assumption) ?_
      refine j_aload_n 64 rfl rfl dX1_opensByLaw_63 ?_
      refine j_getr 67 rfl 11 fl_X1_48 dX1_opensByLaw_64 (by decide) ( rfl) ( rfl) ?_
      refine j_iload_n 68 rfl rfl dX1_opensByLaw_67 ?_
      refine j_iald 69 rfl dX1_opensByLaw_68 (by decide) rfl (by decide) rfl (by omega) ?_
      try simp (disch := omega) only [jU_s, jU_k, jU_i]
      refine j_aload_n 70 rfl rfl dX1_opensByLaw_69 ?_
      refine j_getr 73 rfl 2 fl_X1_19 dX1_opensByLaw_70 (by decide) ( rfl) ( rfl) ?_
      refine j_iload_n 74 rfl rfl dX1_opensByLaw_73 ?_
      refine j_iald 75 rfl dX1_opensByLaw_74 (by decide) rfl (by decide) rfl (by omega) ?_
      try simp (disch := omega) only [jU_s, jU_k, jU_i]
      refine j_icmp_ne 82 78 (by decide) rfl dX1_opensByLaw_75 (by intro hR; first | omega | exact hR _ _ | exact jb_r _ | exact hR0 _ _ | assumption) (by intro hR; first | omega | exact hR _ _ | exact jb_r _ | exact hR0 _ _ | assumption) (fun h75 => ?_) (fun h75 => ?_)
      · refine j_iconst 83 rfl dX1_opensByLaw_82 ?_
        refine j_zreti dX1_opensByLaw_83 rfl (by first | decide | omega) ?_
        exact Or.inr ⟨by simp, by omega, rfl⟩
      · refine j_iconst 79 rfl dX1_opensByLaw_78 ?_
        refine j_goto 83 (by decide) dX1_opensByLaw_79 ?_
        refine j_zreti dX1_opensByLaw_83 rfl (by first | decide | omega) ?_
        exact Or.inr ⟨by simp, by omega, rfl⟩
    · exfalso; omega
  | false =>
    rw [if_neg (by simp)]
    refine j_if_ne 53 51 (by decide) rfl dX1_opensByLaw_48 (by intro hR; first | omega | exact hR _ _ | exact jb_r _ | exact hR0 _ _ | assumption) (fun h => ?_) (fun h => ?_)
    · exfalso; omega
    · refine j_iconst 52 rfl dX1_opensByLaw_51 ?_
      refine j_zreti dX1_opensByLaw_52 rfl (by first | decide | omega) ?_
      exact Or.inl ⟨rfl, rfl, rfl⟩
theorem s_law1_37 {b t : Int} (hb : 0 ≤ b ∧ b < 9) (ht : 0 ≤ t ∧ t < 60) (hl : H 38 b = 1) : jOk E mX1_opensByLaw [jRF E 37, .int (jI b), .int (jI t)] H (jQi fun r H' => H' = H ∧ ((r = 1 ∧ bAnd (H 37 15) (H 48 b) ≠ 0) ∨ (r = 0 ∧ bAnd (H 37 15) (H 48 b) = 0))) := by
  refine jOk.rng (fun hR0 => ?_)
  refine jOk.ofe rfl (Nat.le_of_ble_eq_true rfl) (en_aii_3 (E := E)) ?_
  refine j_aload_n 1 rfl rfl dX1_opensByLaw_0 ?_
  refine j_getr 4 rfl 1 fl_X1_15 dX1_opensByLaw_1 (by decide) ( rfl) ( rfl) ?_
  refine j_iload_n 5 rfl rfl dX1_opensByLaw_4 ?_
  refine j_iald 6 rfl dX1_opensByLaw_5 (by decide) rfl (by decide) rfl (by omega) ?_
  rw [hl]
  refine j_tabIn 84 dX1_opensByLaw_6 (by omega) (by omega) (by rfl) (by decide) ?_
  refine j_aload_n 85 rfl rfl dX1_opensByLaw_84 ?_
  refine g_geti 88 rfl 15 15 rfl fl_X1_60 dX1_opensByLaw_85 (by decide) ( rfl) ( rfl) ?_
  refine j_aload_n 89 rfl rfl dX1_opensByLaw_88 ?_
  refine j_getr 92 rfl 9 fl_X1_42 dX1_opensByLaw_89 (by decide) ( rfl) ( rfl) ?_
  refine j_iload_n 93 rfl rfl dX1_opensByLaw_92 ?_
  refine j_iald 94 rfl dX1_opensByLaw_93 (by decide) rfl (by decide) rfl (by omega) ?_
  refine k_iand 95 rfl dX1_opensByLaw_94 ?_
  refine j_if_eq 102 98 (by decide) rfl dX1_opensByLaw_95 (by intro hR; first | omega | exact hR _ _ | exact jb_r _ | exact hR0 _ _ | assumption) (fun h95 => ?_) (fun h95 => ?_)
  · refine j_iconst 103 rfl dX1_opensByLaw_102 ?_
    refine j_zreti dX1_opensByLaw_103 rfl (by first | decide | omega) ?_
    exact ⟨rfl, by omega⟩
  · refine j_iconst 99 rfl dX1_opensByLaw_98 ?_
    refine j_goto 103 (by decide) dX1_opensByLaw_99 ?_
    refine j_zreti dX1_opensByLaw_103 rfl (by first | decide | omega) ?_
    exact ⟨rfl, by omega⟩
theorem s_law2_37 {b t : Int} (hb : 0 ≤ b ∧ b < 9) (ht : 0 ≤ t ∧ t < 60) (hl : H 38 b = 2) (hu : 0 ≤ H 51 b ∧ H 51 b ≤ 100) : jOk E mX1_opensByLaw [jRF E 37, .int (jI b), .int (jI t)] H (jQi fun r H' => (bt (H 44 t) b = true ∧ ((r = 1 ∧ H 39 b ≤ 0) ∨ (r = 0 ∧ 0 < H 39 b)) ∧ H' = jU H 51 b 0) ∨ (bt (H 44 t) b = false ∧ ((r = 1 ∧ H 39 b ≤ H 51 b + 1) ∨ (r = 0 ∧ H 51 b + 1 < H 39 b)) ∧ H' = jU H 51 b (H 51 b + 1))) := by
  refine jOk.rng (fun hR0 => ?_)
  refine jOk.ofe rfl (Nat.le_of_ble_eq_true rfl) (en_aii_3 (E := E)) ?_
  refine j_aload_n 1 rfl rfl dX1_opensByLaw_0 ?_
  refine j_getr 4 rfl 1 fl_X1_15 dX1_opensByLaw_1 (by decide) ( rfl) ( rfl) ?_
  refine j_iload_n 5 rfl rfl dX1_opensByLaw_4 ?_
  refine j_iald 6 rfl dX1_opensByLaw_5 (by decide) rfl (by decide) rfl (by omega) ?_
  rw [hl]
  refine j_tabIn 104 dX1_opensByLaw_6 (by omega) (by omega) (by rfl) (by decide) ?_
  refine j_aload_n 105 rfl rfl dX1_opensByLaw_104 ?_
  refine j_getr 108 rfl 12 fl_X1_51 dX1_opensByLaw_105 (by decide) ( rfl) ( rfl) ?_
  refine j_iload_n 109 rfl rfl dX1_opensByLaw_108 ?_
  refine j_aload_n 110 rfl rfl dX1_opensByLaw_109 ?_
  refine j_getr 113 rfl 6 fl_X1_33 dX1_opensByLaw_110 (by decide) ( rfl) ( rfl) ?_
  refine j_iconst 114 rfl dX1_opensByLaw_113 ?_
  refine j_aald 115 rfl dX1_opensByLaw_114 (by decide) rfl (by decide) rfl (by omega) (rfl)  ?_
  refine j_iload_n 116 rfl rfl dX1_opensByLaw_115 ?_
  refine j_iald 117 rfl dX1_opensByLaw_116 (by decide) rfl (by decide) rfl (by omega) ?_
  refine j_iload_n 118 rfl rfl dX1_opensByLaw_117 ?_
  refine k_ishr 119 rfl dX1_opensByLaw_118 ?_
  refine j_iconst 120 rfl dX1_opensByLaw_119 ?_
  refine k_iand 121 rfl dX1_opensByLaw_120 ?_
  rw [bt_shr1 (by omega)]
  cases hx : bt (H 44 t) b with
  | true =>
    rw [if_pos rfl]
    refine j_if_eq 128 124 (by decide) rfl dX1_opensByLaw_121 (by intro hR; first | omega | exact hR _ _ | exact jb_r _ | exact hR0 _ _ | assumption) (fun h => ?_) (fun h => ?_)
    · exfalso; omega
    · refine j_iconst 125 rfl dX1_opensByLaw_124 ?_
      refine j_goto 136 (by decide) dX1_opensByLaw_125 ?_
      refine j_iast 137 rfl dX1_opensByLaw_136 (by decide) rfl (by decide) rfl (by omega) (by intro hR; first | omega | exact hR _ _ | exact jb_r _ | exact hR0 _ _ | assumption) ?_
      refine j_aload_n 138 rfl rfl dX1_opensByLaw_137 ?_
      refine j_getr 141 rfl 12 fl_X1_51 dX1_opensByLaw_138 (by decide) ( rfl) ( rfl) ?_
      refine j_iload_n 142 rfl rfl dX1_opensByLaw_141 ?_
      refine j_iald 143 rfl dX1_opensByLaw_142 (by decide) rfl (by decide) rfl (by omega) ?_
      try simp (disch := omega) only [jU_s, jU_k, jU_i]
      refine j_aload_n 144 rfl rfl dX1_opensByLaw_143 ?_
      refine j_getr 147 rfl 2 fl_X1_19 dX1_opensByLaw_144 (by decide) ( rfl) ( rfl) ?_
      refine j_iload_n 148 rfl rfl dX1_opensByLaw_147 ?_
      refine j_iald 149 rfl dX1_opensByLaw_148 (by decide) rfl (by decide) rfl (by omega) ?_
      try simp (disch := omega) only [jU_s, jU_k, jU_i]
      refine j_icmp_lt 156 152 (by decide) rfl dX1_opensByLaw_149 (by intro hR; first | omega | exact hR _ _ | exact jb_r _ | exact hR0 _ _ | assumption) (by intro hR; first | omega | exact hR _ _ | exact jb_r _ | exact hR0 _ _ | assumption) (fun h149 => ?_) (fun h149 => ?_)
      · refine j_iconst 157 rfl dX1_opensByLaw_156 ?_
        refine j_zreti dX1_opensByLaw_157 rfl (by first | decide | omega) ?_
        exact Or.inl ⟨by simp, by omega, rfl⟩
      · refine j_iconst 153 rfl dX1_opensByLaw_152 ?_
        refine j_goto 157 (by decide) dX1_opensByLaw_153 ?_
        refine j_zreti dX1_opensByLaw_157 rfl (by first | decide | omega) ?_
        exact Or.inl ⟨by simp, by omega, rfl⟩
  | false =>
    rw [if_neg (by simp)]
    refine j_if_eq 128 124 (by decide) rfl dX1_opensByLaw_121 (by intro hR; first | omega | exact hR _ _ | exact jb_r _ | exact hR0 _ _ | assumption) (fun h => ?_) (fun h => ?_)
    · refine j_aload_n 129 rfl rfl dX1_opensByLaw_128 ?_
      refine j_getr 132 rfl 12 fl_X1_51 dX1_opensByLaw_129 (by decide) ( rfl) ( rfl) ?_
      refine j_iload_n 133 rfl rfl dX1_opensByLaw_132 ?_
      refine j_iald 134 rfl dX1_opensByLaw_133 (by decide) rfl (by decide) rfl (by omega) ?_
      refine j_iconst 135 rfl dX1_opensByLaw_134 ?_
      refine j_iadd 136 rfl dX1_opensByLaw_135 ?_
      refine j_iast 137 rfl dX1_opensByLaw_136 (by decide) rfl (by decide) rfl (by omega) (by intro hR; first | omega | exact hR _ _ | exact jb_r _ | exact hR0 _ _ | assumption) ?_
      refine j_aload_n 138 rfl rfl dX1_opensByLaw_137 ?_
      refine j_getr 141 rfl 12 fl_X1_51 dX1_opensByLaw_138 (by decide) ( rfl) ( rfl) ?_
      refine j_iload_n 142 rfl rfl dX1_opensByLaw_141 ?_
      refine j_iald 143 rfl dX1_opensByLaw_142 (by decide) rfl (by decide) rfl (by omega) ?_
      try simp (disch := omega) only [jU_s, jU_k, jU_i]
      refine j_aload_n 144 rfl rfl dX1_opensByLaw_143 ?_
      refine j_getr 147 rfl 2 fl_X1_19 dX1_opensByLaw_144 (by decide) ( rfl) ( rfl) ?_
      refine j_iload_n 148 rfl rfl dX1_opensByLaw_147 ?_
      refine j_iald 149 rfl dX1_opensByLaw_148 (by decide) rfl (by decide) rfl (by omega) ?_
      try simp (disch := omega) only [jU_s, jU_k, jU_i]
      refine j_icmp_lt 156 152 (by decide) rfl dX1_opensByLaw_149 (by intro hR; first | omega | exact hR _ _ | exact jb_r _ | exact hR0 _ _ | assumption) (by intro hR; first | omega | exact hR _ _ | exact jb_r _ | exact hR0 _ _ | assumption) (fun h149 => ?_) (fun h149 => ?_)
      · refine j_iconst 157 rfl dX1_opensByLaw_156 ?_
        refine j_zreti dX1_opensByLaw_157 rfl (by first | decide | omega) ?_
        exact Or.inr ⟨by simp, by omega, rfl⟩
      · refine j_iconst 153 rfl dX1_opensByLaw_152 ?_
        refine j_goto 157 (by decide) dX1_opensByLaw_153 ?_
        refine j_zreti dX1_opensByLaw_157 rfl (by first | decide | omega) ?_
        exact Or.inr ⟨by simp, by omega, rfl⟩
    · exfalso; omega
theorem s_law3_37 {b t : Int} (hb : 0 ≤ b ∧ b < 9) (ht : 0 ≤ t ∧ t < 60) (hl : H 38 b = 3) : jOk E mX1_opensByLaw [jRF E 37, .int (jI b), .int (jI t)] H (jQi fun r H' => H' = H ∧ ((r = 1 ∧ H 39 b ≤ H 37 14) ∨ (r = 0 ∧ H 37 14 < H 39 b))) := by
  refine jOk.rng (fun hR0 => ?_)
  refine jOk.ofe rfl (Nat.le_of_ble_eq_true rfl) (en_aii_3 (E := E)) ?_
  refine j_aload_n 1 rfl rfl dX1_opensByLaw_0 ?_
  refine j_getr 4 rfl 1 fl_X1_15 dX1_opensByLaw_1 (by decide) ( rfl) ( rfl) ?_
  refine j_iload_n 5 rfl rfl dX1_opensByLaw_4 ?_
  refine j_iald 6 rfl dX1_opensByLaw_5 (by decide) rfl (by decide) rfl (by omega) ?_
  rw [hl]
  refine j_tabIn 158 dX1_opensByLaw_6 (by omega) (by omega) (by rfl) (by decide) ?_
  refine j_aload_n 159 rfl rfl dX1_opensByLaw_158 ?_
  refine g_geti 162 rfl 14 14 rfl fl_X1_57 dX1_opensByLaw_159 (by decide) ( rfl) ( rfl) ?_
  refine j_aload_n 163 rfl rfl dX1_opensByLaw_162 ?_
  refine j_getr 166 rfl 2 fl_X1_19 dX1_opensByLaw_163 (by decide) ( rfl) ( rfl) ?_
  refine j_iload_n 167 rfl rfl dX1_opensByLaw_166 ?_
  refine j_iald 168 rfl dX1_opensByLaw_167 (by decide) rfl (by decide) rfl (by omega) ?_
  refine j_icmp_lt 175 171 (by decide) rfl dX1_opensByLaw_168 (by intro hR; first | omega | exact hR _ _ | exact jb_r _ | exact hR0 _ _ | assumption) (by intro hR; first | omega | exact hR _ _ | exact jb_r _ | exact hR0 _ _ | assumption) (fun h168 => ?_) (fun h168 => ?_)
  · refine j_iconst 176 rfl dX1_opensByLaw_175 ?_
    refine j_zreti dX1_opensByLaw_176 rfl (by first | decide | omega) ?_
    exact ⟨rfl, by omega⟩
  · refine j_iconst 172 rfl dX1_opensByLaw_171 ?_
    refine j_goto 176 (by decide) dX1_opensByLaw_172 ?_
    refine j_zreti dX1_opensByLaw_176 rfl (by first | decide | omega) ?_
    exact ⟨rfl, by omega⟩
theorem s_law4_37 {b t : Int} (hb : 0 ≤ b ∧ b < 9) (ht : 0 ≤ t ∧ t < 60) (hl : H 38 b = 4) : jOk E mX1_opensByLaw [jRF E 37, .int (jI b), .int (jI t)] H (jQi fun r H' => H' = H ∧ r = 0) := by
  refine jOk.rng (fun hR0 => ?_)
  refine jOk.ofe rfl (Nat.le_of_ble_eq_true rfl) (en_aii_3 (E := E)) ?_
  refine j_aload_n 1 rfl rfl dX1_opensByLaw_0 ?_
  refine j_getr 4 rfl 1 fl_X1_15 dX1_opensByLaw_1 (by decide) ( rfl) ( rfl) ?_
  refine j_iload_n 5 rfl rfl dX1_opensByLaw_4 ?_
  refine j_iald 6 rfl dX1_opensByLaw_5 (by decide) rfl (by decide) rfl (by omega) ?_
  rw [hl]
  refine j_tabOut 177 dX1_opensByLaw_6 (by intro _; omega) (by omega) (by decide) ?_
  refine j_iconst 178 rfl dX1_opensByLaw_177 ?_
  refine j_zreti dX1_opensByLaw_178 rfl (by first | decide | omega) ?_
  exact ⟨rfl, rfl⟩
end S14
