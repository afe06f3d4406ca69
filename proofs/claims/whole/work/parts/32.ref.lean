/-! ===== the reference: what is told it ===== -/
/-- a stretch of a row -/
def jMr (H : jH) (k : Nat) (lo n : Int) (g : Int → Int) : jH := fun a i => if a = k ∧ lo ≤ i ∧ i < lo + n then g (i - lo) else H a i
theorem jMr_0 (H : jH) (k : Nat) (lo : Int) (g : Int → Int) : jMr H k lo 0 g = H := by
  funext a b
  unfold jMr
  rw [if_neg (fun q => by omega)]
theorem jMr_s (H : jH) (k : Nat) (lo : Int) {n : Int} (g : Int → Int) (h : 0 ≤ n) : jU (jMr H k lo n g) k (lo + n) (g n) = jMr H k lo (n + 1) g := by
  funext a b
  unfold jMr jU
  dsimp only
  by_cases h1 : a = k ∧ b = lo + n
  · obtain ⟨rfl, rfl⟩ := h1
    rw [if_pos ⟨rfl, rfl⟩, if_pos ⟨rfl, by omega, by omega⟩, show lo + n - lo = n by omega]
  · rw [if_neg h1]
    by_cases h2 : a = k ∧ lo ≤ b ∧ b < lo + n
    · rw [if_pos h2, if_pos ⟨h2.1, h2.2.1, by omega⟩]
    · rw [if_neg h2, if_neg (fun q => by
        by_cases h3 : b = lo + n
        · exact h1 ⟨q.1, h3⟩
        · exact h2 ⟨q.1, q.2.1, by omega⟩)]
theorem jMr_k {H : jH} {k a : Nat} {lo n b : Int} {g : Int → Int} (h : a ≠ k) : jMr H k lo n g a b = H a b := by unfold jMr; rw [if_neg (fun q => h q.1)]
theorem jMr_o {H : jH} {k a : Nat} {lo n : Int} {g : Int → Int} (h : a ≠ k) : jMr H k lo n g a = H a := by funext b; exact jMr_k h
theorem jMr_i {H : jH} {k : Nat} {lo n b : Int} {g : Int → Int} (h : lo ≤ b) (h2 : b < lo + n) : jMr H k lo n g k b = g (b - lo) := by unfold jMr; rw [if_pos ⟨rfl, h, h2⟩]
theorem jMr_n {H : jH} {k : Nat} {lo n b : Int} {g : Int → Int} (h : b < lo ∨ lo + n ≤ b) : jMr H k lo n g k b = H k b := by unfold jMr; rw [if_neg (fun q => by omega)]
/-- the reference's sheets -/
def mSh (H : jH) : Prop := ∀ s, 0 ≤ s → s < 4 → (-1 ≤ H 57 s ∧ H 57 s ≤ 2) ∧ (0 ≤ H 58 s ∧ H 58 s ≤ 60)
section S32
variable {E : jE} {H K : jH}
-- X5_in
theorem m_in {v a b : Int} (hv : -9223372036854775808 ≤ v ∧ v ≤ 9223372036854775807) (ha : -9223372036854775808 ≤ a ∧ a ≤ 9223372036854775807) (hb : -9223372036854775808 ≤ b ∧ b ≤ 9223372036854775807) : jOk E mX5_in [.long (jL v), .long (jL a), .long (jL b)] H (jQi fun r H' => H' = H ∧ ((r = 1 ∧ a ≤ v ∧ v ≤ b) ∨ (r = 0 ∧ ¬ (a ≤ v ∧ v ≤ b)))) := by
  have c1 := jCmp_r v a
  have c2 := jCmp_r v b
  have c3 := jCmp_lt v a
  have c4 := jCmp_gt v b
  refine jOk.rng (fun hR0 => ?_)
  refine jOk.ofe rfl (Nat.le_of_ble_eq_true rfl) (en_lll_6 (E := E)) ?_
  refine j_lload_n 1 rfl rfl dX5_in_0 ?_
  refine j_lload_n 2 rfl rfl dX5_in_1 ?_
  refine j_lcmp 3 rfl dX5_in_2 (by intro hR; first | omega | exact jb_r64 _ | (have := hR; omega)) (by intro hR; first | omega | exact jb_r64 _ | (have := hR; omega)) ?_
  refine j_if_lt 17 6 (by decide) rfl dX5_in_3 (by intro hR; first | omega | exact hR _ _ | exact jb_r _ | exact hR0 _ _ | assumption) (fun h3 => ?_) (fun h3 => ?_)
  · refine j_iconst 18 rfl dX5_in_17 ?_
    refine j_zreti dX5_in_18 rfl (by first | decide | omega) ?_
    exact ⟨rfl, by omega⟩
  · refine j_lload_n 7 rfl rfl dX5_in_6 ?_
    refine j_lload 9 rfl rfl dX5_in_7 ?_
    refine j_lcmp 10 rfl dX5_in_9 (by intro hR; first | omega | exact jb_r64 _ | (have := hR; omega)) (by intro hR; first | omega | exact jb_r64 _ | (have := hR; omega)) ?_
    refine j_if_gt 17 13 (by decide) rfl dX5_in_10 (by intro hR; first | omega | exact hR _ _ | exact jb_r _ | exact hR0 _ _ | assumption) (fun h10 => ?_) (fun h10 => ?_)
    · refine j_iconst 18 rfl dX5_in_17 ?_
      refine j_zreti dX5_in_18 rfl (by first | decide | omega) ?_
      exact ⟨rfl, by omega⟩
    · refine j_iconst 14 rfl dX5_in_13 ?_
      refine j_goto 18 (by decide) dX5_in_14 ?_
      refine j_zreti dX5_in_18 rfl (by first | decide | omega) ?_
      exact ⟨rfl, by omega⟩
-- X5_isTwo
theorem m_isTwo {x : Int} (hx : -2147483648 ≤ x ∧ x ≤ 2147483647) : jOk E mX5_isTwo [.int (jI x)] H (jQi fun r H' => H' = H ∧ ((r = 1 ∧ (x = 0 ∨ x = 1)) ∨ (r = 0 ∧ ¬ (x = 0 ∨ x = 1)))) := by
  refine jOk.rng (fun hR0 => ?_)
  refine jOk.ofe rfl (Nat.le_of_ble_eq_true rfl) (en_i_1 (E := E)) ?_
  refine j_iload_n 1 rfl rfl dX5_isTwo_0 ?_
  refine j_i2l 2 rfl (by intro hR; first | omega | exact hR _ _ | exact jb_r _ | exact hR0 _ _ | assumption) dX5_isTwo_1 ?_
  refine j_lconst 3 rfl (x := 0) rfl dX5_isTwo_2 ?_
  refine j_lconst 4 rfl (x := 1) rfl dX5_isTwo_3 ?_
  refine jS3i 7 rfl dX5_isTwo_4 lk_X5_75 rfl rfl (m_in (by omega) (by omega) (by omega)) (fun r4 H1 ⟨eh_, hr4⟩ => ?_)
  obtain rfl := eh_.symm
  refine j_zreti dX5_isTwo_7 rfl (by first | decide | omega) ?_
  exact ⟨rfl, by omega⟩
-- X5_isSheet
theorem m_isSheet {x : Int} (hx : -2147483648 ≤ x ∧ x ≤ 2147483647) : jOk E mX5_isSheet [.int (jI x)] H (jQi fun r H' => H' = H ∧ ((r = 1 ∧ 0 ≤ x ∧ x < 4) ∨ (r = 0 ∧ ¬ (0 ≤ x ∧ x < 4)))) := by
  refine jOk.rng (fun hR0 => ?_)
  refine jOk.ofe rfl (Nat.le_of_ble_eq_true rfl) (en_i_1 (E := E)) ?_
  refine j_iload_n 1 rfl rfl dX5_isSheet_0 ?_
  refine j_i2l 2 rfl (by intro hR; first | omega | exact hR _ _ | exact jb_r _ | exact hR0 _ _ | assumption) dX5_isSheet_1 ?_
  refine j_lconst 3 rfl (x := 0) rfl dX5_isSheet_2 ?_
  refine j_ldc2 6 rfl kc_X5_83 dX5_isSheet_3 ?_
  refine jS3i 9 rfl dX5_isSheet_6 lk_X5_75 rfl rfl (m_in (by omega) (by omega) (by omega)) (fun r6 H1 ⟨eh_, hr6⟩ => ?_)
  obtain rfl := eh_.symm
  refine j_zreti dX5_isSheet_9 rfl (by first | decide | omega) ?_
  exact ⟨rfl, by omega⟩
-- X5_isAny
theorem m_isAny {x : Int} (hx : -2147483648 ≤ x ∧ x ≤ 2147483647) : jOk E mX5_isAny [.int (jI x)] H (jQi fun r H' => H' = H ∧ ((r = 1 ∧ 0 ≤ x ∧ x < 9) ∨ (r = 0 ∧ ¬ (0 ≤ x ∧ x < 9)))) := by
  refine jOk.rng (fun hR0 => ?_)
  refine jOk.ofe rfl (Nat.le_of_ble_eq_true rfl) (en_i_1 (E := E)) ?_
  refine j_iload_n 1 rfl rfl dX5_isAny_0 ?_
  refine j_i2l 2 rfl (by intro hR; first | omega | exact hR _ _ | exact jb_r _ | exact hR0 _ _ | assumption) dX5_isAny_1 ?_
  refine j_lconst 3 rfl (x := 0) rfl dX5_isAny_2 ?_
  refine j_ldc2 6 rfl kc_X5_130 dX5_isAny_3 ?_
  refine jS3i 9 rfl dX5_isAny_6 lk_X5_75 rfl rfl (m_in (by omega) (by omega) (by omega)) (fun r6 H1 ⟨eh_, hr6⟩ => ?_)
  obtain rfl := eh_.symm
  refine j_zreti dX5_isAny_9 rfl (by first | decide | omega) ?_
  exact ⟨rfl, by omega⟩
-- X5_isStep
theorem m_isStep {x : Int} (hx : -2147483648 ≤ x ∧ x ≤ 2147483647) : jOk E mX5_isStep [.int (jI x)] H (jQi fun r H' => H' = H ∧ ((r = 1 ∧ 0 ≤ x ∧ x < 60) ∨ (r = 0 ∧ ¬ (0 ≤ x ∧ x < 60)))) := by
  refine jOk.rng (fun hR0 => ?_)
  refine jOk.ofe rfl (Nat.le_of_ble_eq_true rfl) (en_i_1 (E := E)) ?_
  refine j_iload_n 1 rfl rfl dX5_isStep_0 ?_
  refine j_i2l 2 rfl (by intro hR; first | omega | exact hR _ _ | exact jb_r _ | exact hR0 _ _ | assumption) dX5_isStep_1 ?_
  refine j_lconst 3 rfl (x := 0) rfl dX5_isStep_2 ?_
  refine j_ldc2 6 rfl kc_X5_132 dX5_isStep_3 ?_
  refine jS3i 9 rfl dX5_isStep_6 lk_X5_75 rfl rfl (m_in (by omega) (by omega) (by omega)) (fun r6 H1 ⟨eh_, hr6⟩ => ?_)
  obtain rfl := eh_.symm
  refine j_zreti dX5_isStep_9 rfl (by first | decide | omega) ?_
  exact ⟨rfl, by omega⟩
-- X5_isBox
theorem m_isBox {x : Int} (hx : -2147483648 ≤ x ∧ x ≤ 2147483647) (hn : 0 ≤ H 56 8 ∧ H 56 8 ≤ 9) : jOk E mX5_isBox [jRF E 56, .int (jI x)] H (jQi fun r H' => H' = H ∧ ((r = 1 ∧ 0 ≤ x ∧ x < H 56 8) ∨ (r = 0 ∧ ¬ (0 ≤ x ∧ x < H 56 8)))) := by
  refine jOk.rng (fun hR0 => ?_)
  refine jOk.ofe rfl (Nat.le_of_ble_eq_true rfl) (en_ai_2 (E := E)) ?_
  refine j_iload_n 1 rfl rfl dX5_isBox_0 ?_
  refine j_i2l 2 rfl (by intro hR; first | omega | exact hR _ _ | exact jb_r _ | exact hR0 _ _ | assumption) dX5_isBox_1 ?_
  refine j_lconst 3 rfl (x := 0) rfl dX5_isBox_2 ?_
  refine j_aload_n 4 rfl rfl dX5_isBox_3 ?_
  refine g_geti 7 rfl 8 8 rfl fl_X5_109 dX5_isBox_4 (by decide) ( rfl) ( rfl) ?_
  refine j_iconst 8 rfl dX5_isBox_7 ?_
  refine j_isub 9 rfl dX5_isBox_8 ?_
  refine j_i2l 10 rfl (by intro hR; first | omega | exact hR _ _ | exact jb_r _ | exact hR0 _ _ | assumption) dX5_isBox_9 ?_
  refine jS3i 13 rfl dX5_isBox_10 lk_X5_75 rfl rfl (m_in (by omega) (by omega) (by omega)) (fun r10 H1 ⟨eh_, hr10⟩ => ?_)
  obtain rfl := eh_.symm
  refine j_zreti dX5_isBox_13 rfl (by first | decide | omega) ?_
  exact ⟨rfl, by omega⟩
-- X5_areTwo
theorem m_areTwo {x y : Int} (hx : -2147483648 ≤ x ∧ x ≤ 2147483647) (hy : -2147483648 ≤ y ∧ y ≤ 2147483647) (hn : 0 ≤ H 56 8 ∧ H 56 8 ≤ 9) : jOk E mX5_areTwo [jRF E 56, .int (jI x), .int (jI y)] H (jQi fun r H' => H' = H ∧ ((r = 1 ∧ (0 ≤ x ∧ x < H 56 8 ∧ 0 ≤ y ∧ y < H 56 8 ∧ x ≠ y)) ∨ (r = 0 ∧ ¬ (0 ≤ x ∧ x < H 56 8 ∧ 0 ≤ y ∧ y < H 56 8 ∧ x ≠ y)))) := by
  refine jOk.rng (fun hR0 => ?_)
  refine jOk.ofe rfl (Nat.le_of_ble_eq_true rfl) (en_aii_3 (E := E)) ?_
  refine j_aload_n 1 rfl rfl dX5_areTwo_0 ?_
  refine j_iload_n 2 rfl rfl dX5_areTwo_1 ?_
  refine jV1i 5 rfl dX5_areTwo_2 lk_X5_134 rfl rfl (by decide) ( rfl) ( rfl) (m_isBox (by omega) hn) (fun r2 H1 ⟨eh_, hr2⟩ => ?_)
  obtain rfl := eh_.symm
  refine j_if_eq 25 8 (by decide) rfl dX5_areTwo_5 (by intro hR; first | omega | exact hR _ _ | exact jb_r _ | exact hR0 _ _ | assumption) (fun h5 => ?_) (fun h5 => ?_)
  · refine j_iconst 26 rfl dX5_areTwo_25 ?_
    refine j_zreti dX5_areTwo_26 rfl (by first | decide | omega) ?_
    exact ⟨rfl, by omega⟩
  · refine j_aload_n 9 rfl rfl dX5_areTwo_8 ?_
    refine j_iload_n 10 rfl rfl dX5_areTwo_9 ?_
    refine jV1i 13 rfl dX5_areTwo_10 lk_X5_134 rfl rfl (by decide) ( rfl) ( rfl) (m_isBox (by omega) hn) (fun r10 H1 ⟨eh_, hr10⟩ => ?_)
    obtain rfl := eh_.symm
    refine j_if_eq 25 16 (by decide) rfl dX5_areTwo_13 (by intro hR; first | omega | exact hR _ _ | exact jb_r _ | exact hR0 _ _ | assumption) (fun h13 => ?_) (fun h13 => ?_)
    · refine j_iconst 26 rfl dX5_areTwo_25 ?_
      refine j_zreti dX5_areTwo_26 rfl (by first | decide | omega) ?_
      exact ⟨rfl, by omega⟩
    · refine j_iload_n 17 rfl rfl dX5_areTwo_16 ?_
      refine j_iload_n 18 rfl rfl dX5_areTwo_17 ?_
      refine j_icmp_eq 25 21 (by decide) rfl dX5_areTwo_18 (by intro hR; first | omega | exact hR _ _ | exact jb_r _ | exact hR0 _ _ | assumption) (by intro hR; first | omega | exact hR _ _ | exact jb_r _ | exact hR0 _ _ | assumption) (fun h18 => ?_) (fun h18 => ?_)
      · refine j_iconst 26 rfl dX5_areTwo_25 ?_
        refine j_zreti dX5_areTwo_26 rfl (by first | decide | omega) ?_
        exact ⟨rfl, by omega⟩
      · refine j_iconst 22 rfl dX5_areTwo_21 ?_
        refine j_goto 26 (by decide) dX5_areTwo_22 ?_
        refine j_zreti dX5_areTwo_26 rfl (by first | decide | omega) ?_
        exact ⟨rfl, by omega⟩
-- X5_isIn
theorem m_isIn {x b : Int} (hb : 0 ≤ b ∧ b < 32) : jOk E mX5_isIn [.int (jI x), .int (jI b)] H (jQi fun r H' => H' = H ∧ ((r = 1 ∧ bt x b = true) ∨ (r = 0 ∧ bt x b = false))) := by
  refine jOk.rng (fun hR0 => ?_)
  refine jOk.ofe rfl (Nat.le_of_ble_eq_true rfl) (en_ii_2 (E := E)) ?_
  refine j_iload_n 1 rfl rfl dX5_isIn_0 ?_
  refine j_iload_n 2 rfl rfl dX5_isIn_1 ?_
  refine k_ishr 3 rfl dX5_isIn_2 ?_
  refine j_iconst 4 rfl dX5_isIn_3 ?_
  refine k_iand 5 rfl dX5_isIn_4 ?_
  rw [bt_shr1 hb]
  cases hx : bt x b with
  | true =>
    rw [if_pos rfl]
    refine j_iconst 6 rfl dX5_isIn_5 ?_
    refine j_icmp_ne 13 9 (by decide) rfl dX5_isIn_6 (by intro hR; first | omega | exact hR _ _ | exact jb_r _ | exact hR0 _ _ | assumption) (by intro hR; first | omega | exact hR _ _ | exact jb_r _ | exact hR0 _ _ | assumption) (fun h6 => ?_) (fun h6 => ?_)
    · refine j_iconst 14 rfl dX5_isIn_13 ?_
      refine j_zreti dX5_isIn_14 rfl (by first | decide | omega) ?_
      first | exact ⟨rfl, Or.inl ⟨rfl, rfl⟩⟩ | (exfalso; omega)
    · refine j_iconst 10 rfl dX5_isIn_9 ?_
      refine j_goto 14 (by decide) dX5_isIn_10 ?_
      refine j_zreti dX5_isIn_14 rfl (by first | decide | omega) ?_
      first | exact ⟨rfl, Or.inl ⟨rfl, rfl⟩⟩ | (exfalso; omega)
  | false =>
    rw [if_neg (by simp)]
    refine j_iconst 6 rfl dX5_isIn_5 ?_
    refine j_icmp_ne 13 9 (by decide) rfl dX5_isIn_6 (by intro hR; first | omega | exact hR _ _ | exact jb_r _ | exact hR0 _ _ | assumption) (by intro hR; first | omega | exact hR _ _ | exact jb_r _ | exact hR0 _ _ | assumption) (fun h6 => ?_) (fun h6 => ?_)
    · refine j_iconst 14 rfl dX5_isIn_13 ?_
      refine j_zreti dX5_isIn_14 rfl (by first | decide | omega) ?_
      first | exact ⟨rfl, Or.inr ⟨rfl, rfl⟩⟩ | (exfalso; omega)
    · refine j_iconst 10 rfl dX5_isIn_9 ?_
      refine j_goto 14 (by decide) dX5_isIn_10 ?_
      refine j_zreti dX5_isIn_14 rfl (by first | decide | omega) ?_
      first | exact ⟨rfl, Or.inr ⟨rfl, rfl⟩⟩ | (exfalso; omega)
-- X5_no
theorem m_no {x : Int} (hx : -2147483648 ≤ x ∧ x ≤ 2147483647) : jOk E mX5_no [.int (jI x)] H (jQl fun r H' => H' = H ∧ r = -9223372036854775808 - x) := by
  refine jOk.rng (fun hR0 => ?_)
  refine jOk.ofe rfl (Nat.le_of_ble_eq_true rfl) (en_i_1 (E := E)) ?_
  refine j_ldc2 3 rfl kc_X5_73 dX5_no_0 ?_
  refine j_iload_n 4 rfl rfl dX5_no_3 ?_
  refine j_i2l 5 rfl (by intro hR; first | omega | exact hR _ _ | exact jb_r _ | exact hR0 _ _ | assumption) dX5_no_4 ?_
  refine j_lsub 6 rfl dX5_no_5 ?_
  refine j_lretl dX5_no_6 rfl ?_
  exact ⟨rfl, rfl⟩
-- X5_ones
theorem m_ones {x : Int} (hx : 0 ≤ x ∧ x < 512) : jOk E mX5_ones [.int (jI x)] H (jQi fun r H' => H' = H ∧ r = oc x) := by
  refine jOk.rng (fun hR0 => ?_)
  refine jOk.ofe rfl (Nat.le_of_ble_eq_true rfl) (en_i_3 (E := E)) ?_
  refine j_iconst 1 rfl dX5_ones_0 ?_
  refine j_istore_n 2 rfl st_3_1 (by decide) rfl dX5_ones_1 ?_
  refine j_iload_n 3 rfl rfl dX5_ones_2 ?_
  refine j_istore_n 4 rfl st_3_2 (by decide) rfl dX5_ones_3 ?_
  have key : ∀ m : Nat, ∀ y n : Int, y.toNat ≤ m → (0 ≤ y ∧ y < 512) → n + oc y = oc x → jWP E mX5_ones (jQi fun r H' => H' = H ∧ r = oc x) 4 [some (.int (jI x)), some (.int (jI n)), some (.int (jI y))] [] H := by
    intro m
    induction m with
    | zero =>
      intro y n hm hy he
      have : y = 0 := by omega
      subst this
      rw [oc_zero] at he
      refine j_iload_n 5 rfl rfl dX5_ones_4 ?_
      refine j_if_eq 20 8 (by decide) rfl dX5_ones_5 (by intro hR; first | omega | exact hR _ _ | exact jb_r _ | exact hR0 _ _ | assumption) (fun h1 => ?_) (fun h1 => ?_)
      · refine j_iload_n 21 rfl rfl dX5_ones_20 ?_
        refine j_ireti dX5_ones_21 rfl ?_
        exact ⟨rfl, by omega⟩
      · exfalso; omega
    | succ m ih =>
      intro y n hm hy he
      refine j_iload_n 5 rfl rfl dX5_ones_4 ?_
      refine j_if_eq 20 8 (by decide) rfl dX5_ones_5 (by intro hR; first | omega | exact hR _ _ | exact jb_r _ | exact hR0 _ _ | assumption) (fun h1 => ?_) (fun h1 => ?_)
      · rw [h1, oc_zero] at he
        refine j_iload_n 21 rfl rfl dX5_ones_20 ?_
        refine j_ireti dX5_ones_21 rfl ?_
        exact ⟨rfl, by omega⟩
      · have ho := oc_all ⟨y.toNat, by omega⟩
        simp only [Int.toNat_of_nonneg hy.1] at ho
        have ho := ho h1
        refine j_iinc 11 rfl rfl st_3_1 (by decide) rfl dX5_ones_8 ?_
        refine j_iload_n 12 rfl rfl dX5_ones_11 ?_
        refine j_iload_n 13 rfl rfl dX5_ones_12 ?_
        refine j_iconst 14 rfl dX5_ones_13 ?_
        refine j_isub 15 rfl dX5_ones_14 ?_
        refine k_iand 16 rfl dX5_ones_15 ?_
        refine j_istore_n 17 rfl st_3_2 (by decide) rfl dX5_ones_16 ?_
        refine j_goto 4 (by decide) dX5_ones_17 ?_
        exact ih _ _ (by omega) (by omega) (by omega)
  exact key x.toNat x 0 (Nat.le_refl _) hx (by omega)
-- X5_amount
theorem m_amount {x : Int} (hx : -1000 ≤ x ∧ x ≤ 1000) : jOk E mX5_amount [.int (jI x)] H (jQi fun r H' => H' = H ∧ ((0 ≤ x ∧ r = x) ∨ (x < 0 ∧ r = -x))) := by
  refine jOk.rng (fun hR0 => ?_)
  refine jOk.ofe rfl (Nat.le_of_ble_eq_true rfl) (en_i_1 (E := E)) ?_
  refine j_iload_n 1 rfl rfl dX5_amount_0 ?_
  refine j_if_ge 9 4 (by decide) rfl dX5_amount_1 (by intro hR; first | omega | exact hR _ _ | exact jb_r _ | exact hR0 _ _ | assumption) (fun h1 => ?_) (fun h1 => ?_)
  · refine j_iload_n 10 rfl rfl dX5_amount_9 ?_
    refine j_ireti dX5_amount_10 rfl ?_
    exact ⟨rfl, by omega⟩
  · refine j_iload_n 5 rfl rfl dX5_amount_4 ?_
    refine j_ineg 6 rfl dX5_amount_5 ?_
    refine j_goto 10 (by decide) dX5_amount_6 ?_
    refine j_ireti dX5_amount_10 rfl ?_
    exact ⟨rfl, by omega⟩
-- X5_lawOf
theorem m_lawOf {x : Int} (hx : -2147483648 ≤ x ∧ x ≤ 2147483647) : jOk E mX5_lawOf [.int (jI x)] H (jQi fun r H' => H' = H ∧ r = jIdx x) := by
  refine jOk.rng (fun hR0 => ?_)
  refine jOk.ofe rfl (Nat.le_of_ble_eq_true rfl) (en_i_1 (E := E)) ?_
  refine j_iload_n 1 rfl rfl dX5_lawOf_0 ?_
  refine j_bipush 3 rfl rfl dX5_lawOf_1 ?_
  refine j_icmp_ne 10 6 (by decide) rfl dX5_lawOf_3 (by intro hR; first | omega | exact hR _ _ | exact jb_r _ | exact hR0 _ _ | assumption) (by intro hR; first | omega | exact hR _ _ | exact jb_r _ | exact hR0 _ _ | assumption) (fun h3 => ?_) (fun h3 => ?_)
  · refine j_iload_n 11 rfl rfl dX5_lawOf_10 ?_
    refine j_bipush 13 rfl rfl dX5_lawOf_11 ?_
    refine j_icmp_ne 20 16 (by decide) rfl dX5_lawOf_13 (by intro hR; first | omega | exact hR _ _ | exact jb_r _ | exact hR0 _ _ | assumption) (by intro hR; first | omega | exact hR _ _ | exact jb_r _ | exact hR0 _ _ | assumption) (fun h13 => ?_) (fun h13 => ?_)
    · refine j_iload_n 21 rfl rfl dX5_lawOf_20 ?_
      refine j_bipush 23 rfl rfl dX5_lawOf_21 ?_
      refine j_icmp_ne 30 26 (by decide) rfl dX5_lawOf_23 (by intro hR; first | omega | exact hR _ _ | exact jb_r _ | exact hR0 _ _ | assumption) (by intro hR; first | omega | exact hR _ _ | exact jb_r _ | exact hR0 _ _ | assumption) (fun h23 => ?_) (fun h23 => ?_)
      · refine j_iload_n 31 rfl rfl dX5_lawOf_30 ?_
        refine j_bipush 33 rfl rfl dX5_lawOf_31 ?_
        refine j_icmp_ne 40 36 (by decide) rfl dX5_lawOf_33 (by intro hR; first | omega | exact hR _ _ | exact jb_r _ | exact hR0 _ _ | assumption) (by intro hR; first | omega | exact hR _ _ | exact jb_r _ | exact hR0 _ _ | assumption) (fun h33 => ?_) (fun h33 => ?_)
        · refine j_iload_n 41 rfl rfl dX5_lawOf_40 ?_
          refine j_bipush 43 rfl rfl dX5_lawOf_41 ?_
          refine j_icmp_ne 50 46 (by decide) rfl dX5_lawOf_43 (by intro hR; first | omega | exact hR _ _ | exact jb_r _ | exact hR0 _ _ | assumption) (by intro hR; first | omega | exact hR _ _ | exact jb_r _ | exact hR0 _ _ | assumption) (fun h43 => ?_) (fun h43 => ?_)
          · refine j_iconst 51 rfl dX5_lawOf_50 ?_
            refine j_ireti dX5_lawOf_51 rfl ?_
            refine ⟨rfl, ?_⟩
            unfold jIdx
            repeat' split
            all_goals omega
          · refine j_iconst 47 rfl dX5_lawOf_46 ?_
            refine j_goto 51 (by decide) dX5_lawOf_47 ?_
            refine j_ireti dX5_lawOf_51 rfl ?_
            refine ⟨rfl, ?_⟩
            unfold jIdx
            repeat' split
            all_goals omega
        · refine j_iconst 37 rfl dX5_lawOf_36 ?_
          refine j_goto 51 (by decide) dX5_lawOf_37 ?_
          refine j_ireti dX5_lawOf_51 rfl ?_
          refine ⟨rfl, ?_⟩
          unfold jIdx
          repeat' split
          all_goals omega
      · refine j_iconst 27 rfl dX5_lawOf_26 ?_
        refine j_goto 51 (by decide) dX5_lawOf_27 ?_
        refine j_ireti dX5_lawOf_51 rfl ?_
        refine ⟨rfl, ?_⟩
        unfold jIdx
        repeat' split
        all_goals omega
    · refine j_iconst 17 rfl dX5_lawOf_16 ?_
      refine j_goto 51 (by decide) dX5_lawOf_17 ?_
      refine j_ireti dX5_lawOf_51 rfl ?_
      refine ⟨rfl, ?_⟩
      unfold jIdx
      repeat' split
      all_goals omega
  · refine j_iconst 7 rfl dX5_lawOf_6 ?_
    refine j_goto 51 (by decide) dX5_lawOf_7 ?_
    refine j_ireti dX5_lawOf_51 rfl ?_
    refine ⟨rfl, ?_⟩
    unfold jIdx
    repeat' split
    all_goals omega
-- X5_lesserOf
theorem m_lesserOf {x : Int} (hx : -2147483648 ≤ x ∧ x ≤ 2147483647) : jOk E mX5_lesserOf [.int (jI x)] H (jQi fun r H' => H' = H ∧ ((x < 6 ∧ r = x) ∨ (6 ≤ x ∧ r = 6))) := by
  refine jOk.rng (fun hR0 => ?_)
  refine jOk.ofe rfl (Nat.le_of_ble_eq_true rfl) (en_i_1 (E := E)) ?_
  refine j_iload_n 1 rfl rfl dX5_lesserOf_0 ?_
  refine j_bipush 3 rfl rfl dX5_lesserOf_1 ?_
  refine j_icmp_ge 10 6 (by decide) rfl dX5_lesserOf_3 (by intro hR; first | omega | exact hR _ _ | exact jb_r _ | exact hR0 _ _ | assumption) (by intro hR; first | omega | exact hR _ _ | exact jb_r _ | exact hR0 _ _ | assumption) (fun h3 => ?_) (fun h3 => ?_)
  · refine j_bipush 12 rfl rfl dX5_lesserOf_10 ?_
    refine j_ireti dX5_lesserOf_12 rfl ?_
    exact ⟨rfl, by omega⟩
  · refine j_iload_n 7 rfl rfl dX5_lesserOf_6 ?_
    refine j_goto 12 (by decide) dX5_lesserOf_7 ?_
    refine j_ireti dX5_lesserOf_12 rfl ?_
    exact ⟨rfl, by omega⟩
-- X5_tells
theorem m_tells {x w : Int} (hx : -1 ≤ x ∧ x < 512) (hw : w = 0 ∨ w = 1) : jOk E mX5_tells [.int (jI x), .int (jI w)] H (jQi fun r H' => H' = H ∧ (((x = -1 ∨ w = 1) ∧ r = x) ∨ ((x ≠ -1 ∧ w = 0) ∧ r = oc x))) := by
  refine jOk.rng (fun hR0 => ?_)
  refine jOk.ofe rfl (Nat.le_of_ble_eq_true rfl) (en_ii_2 (E := E)) ?_
  refine j_iload_n 1 rfl rfl dX5_tells_0 ?_
  refine j_iconst 2 rfl dX5_tells_1 ?_
  refine j_icmp_eq 10 5 (by decide) rfl dX5_tells_2 (by intro hR; first | omega | exact hR _ _ | exact jb_r _ | exact hR0 _ _ | assumption) (by intro hR; first | omega | exact hR _ _ | exact jb_r _ | exact hR0 _ _ | assumption) (fun h2 => ?_) (fun h2 => ?_)
  · refine j_iload_n 11 rfl rfl dX5_tells_10 ?_
    refine j_goto 18 (by decide) dX5_tells_11 ?_
    refine j_ireti dX5_tells_18 rfl ?_
    exact ⟨rfl, by omega⟩
  · refine j_iload_n 6 rfl rfl dX5_tells_5 ?_
    refine j_iconst 7 rfl dX5_tells_6 ?_
    refine j_icmp_ne 14 10 (by decide) rfl dX5_tells_7 (by intro hR; first | omega | exact hR _ _ | exact jb_r _ | exact hR0 _ _ | assumption) (by intro hR; first | omega | exact hR _ _ | exact jb_r _ | exact hR0 _ _ | assumption) (fun h7 => ?_) (fun h7 => ?_)
    · refine j_iload_n 15 rfl rfl dX5_tells_14 ?_
      refine jS1i 18 rfl dX5_tells_15 lk_X5_167 rfl rfl (m_ones (by omega)) (fun r15 H1 ⟨eh_, hr15⟩ => ?_)
      obtain rfl := eh_.symm
      refine j_ireti dX5_tells_18 rfl ?_
      exact ⟨rfl, by omega⟩
    · refine j_iload_n 11 rfl rfl dX5_tells_10 ?_
      refine j_goto 18 (by decide) dX5_tells_11 ?_
      refine j_ireti dX5_tells_18 rfl ?_
      exact ⟨rfl, by omega⟩
-- X5_cut
theorem m_cut {f x : Int} (hf : -2147483648 ≤ f ∧ f ≤ 2147483647) : jOk E mX5_cut [.int (jI f), .int (jI x)] H (jQi fun r H' => H' = H ∧ r = jCut f x) := by
  refine jOk.rng (fun hR0 => ?_)
  refine jOk.ofe rfl (Nat.le_of_ble_eq_true rfl) (en_ii_2 (E := E)) ?_
  refine j_iload_n 1 rfl rfl dX5_cut_0 ?_
  refine j_if_ne 9 4 (by decide) rfl dX5_cut_1 (by intro hR; first | omega | exact hR _ _ | exact jb_r _ | exact hR0 _ _ | assumption) (fun h1 => ?_) (fun h1 => ?_)
  · refine j_iload_n 10 rfl rfl dX5_cut_9 ?_
    refine j_iconst 11 rfl dX5_cut_10 ?_
    refine j_icmp_ne 19 14 (by decide) rfl dX5_cut_11 (by intro hR; first | omega | exact hR _ _ | exact jb_r _ | exact hR0 _ _ | assumption) (by intro hR; first | omega | exact hR _ _ | exact jb_r _ | exact hR0 _ _ | assumption) (fun h11 => ?_) (fun h11 => ?_)
    · refine j_iload_n 20 rfl rfl dX5_cut_19 ?_
      refine j_ireti dX5_cut_20 rfl ?_
      refine ⟨rfl, ?_⟩
      unfold jCut
      repeat' split
      all_goals first | rfl | omega
    · refine j_iload_n 15 rfl rfl dX5_cut_14 ?_
      refine k_i2s 16 rfl dX5_cut_15 ?_
      refine j_goto 20 (by decide) dX5_cut_16 ?_
      refine j_ireti dX5_cut_20 rfl ?_
      refine ⟨rfl, ?_⟩
      unfold jCut
      repeat' split
      all_goals first | rfl | omega
  · refine j_iload_n 5 rfl rfl dX5_cut_4 ?_
    refine k_i2b 6 rfl dX5_cut_5 ?_
    refine j_goto 20 (by decide) dX5_cut_6 ?_
    refine j_ireti dX5_cut_20 rfl ?_
    refine ⟨rfl, ?_⟩
    unfold jCut
    repeat' split
    all_goals first | rfl | omega
-- X5_finds
theorem m_finds {x : Int} (hx : -2147483648 ≤ x ∧ x ≤ 2147483647) : jOk E mX5_finds [jRF E 56, .int (jI x)] H (jQi fun r H' => H' = jU H 56 4 x ∧ r = -10 - x) := by
  refine jOk.rng (fun hR0 => ?_)
  refine jOk.ofe rfl (Nat.le_of_ble_eq_true rfl) (en_ai_2 (E := E)) ?_
  refine j_aload_n 1 rfl rfl dX5_finds_0 ?_
  refine j_iload_n 2 rfl rfl dX5_finds_1 ?_
  refine g_puti 5 rfl 4 4 rfl fl_X5_79 ft_5_4 dX5_finds_2 (by decide) ( rfl) ( rfl) (by intro hR; first | omega | exact hR _ _ | exact jb_r _ | exact hR0 _ _ | assumption) ?_
  refine j_bipush 7 rfl rfl dX5_finds_5 ?_
  refine j_iload_n 8 rfl rfl dX5_finds_7 ?_
  refine j_isub 9 rfl dX5_finds_8 ?_
  refine j_ireti dX5_finds_9 rfl ?_
  exact ⟨rfl, rfl⟩
-- X5_part
theorem m_part {a b w : Int} (ha : 0 ≤ a ∧ a ≤ b) (hb : 0 < b ∧ b ≤ 1099511627776) (hw : w = 0 ∨ w = 1) : jOk E mX5_part [.long (jL a), .long (jL b), .int (jI w)] H (jQl fun r H' => H' = H ∧ r = if w = 0 then a / (Int.gcd b a : Int) else b / (Int.gcd b a : Int)) := by
  obtain ⟨g, hg⟩ : ∃ g : Int, g = (Int.gcd b a : Int) := ⟨_, rfl⟩
  have hgp : 1 ≤ g ∧ g ≤ b := by
    have h1 : 0 < Int.gcd b a := Int.gcd_pos_of_ne_zero_left _ (by omega)
    have h2 : (Int.gcd b a : Int) ≤ b := Int.le_of_dvd (by omega) (Int.gcd_dvd_left ..)
    omega
  rw [← hg]
  refine jOk.rng (fun hR0 => ?_)
  refine jOk.ofe rfl (Nat.le_of_ble_eq_true rfl) (en_lli_11 (E := E)) ?_
  refine j_lload_n 1 rfl rfl dX5_part_0 ?_
  refine j_lstore 3 rfl su_11_5 (by decide) (Nat.le_of_ble_eq_true rfl) rfl dX5_part_1 ?_
  refine j_lload_n 4 rfl rfl dX5_part_3 ?_
  refine j_lstore 6 rfl su_11_7 (by decide) (Nat.le_of_ble_eq_true rfl) rfl dX5_part_4 ?_
  have key : ∀ m : Nat, ∀ x y x9, (0 ≤ x ∧ x ≤ 1099511627776) → (0 ≤ y ∧ y ≤ 1099511627776) → y.toNat ≤ m → (Int.gcd x y : Int) = g → jWP E mX5_part (jQl fun r H' => H' = H ∧ r = if w = 0 then a / g else b / g) 6 [some (.long (jL a)), none, some (.long (jL b)), none, some (.int (jI w)), some (.long (jL x)), none, some (.long (jL y)), none, x9, none] [] H := by
    have fin : ∀ x y x9, (0 ≤ x ∧ x ≤ 1099511627776) → y = 0 → (Int.gcd x y : Int) = g → jWP E mX5_part (jQl fun r H' => H' = H ∧ r = if w = 0 then a / g else b / g) 31 [some (.long (jL a)), none, some (.long (jL b)), none, some (.int (jI w)), some (.long (jL x)), none, some (.long (jL y)), none, x9, none] [] H := by
      intro x y x9 hx hy hq
      subst hy
      rw [Int.gcd_zero_right] at hq
      have ex : x = g := by omega
      subst ex
      refine j_iload 33 rfl rfl dX5_part_31 ?_
      refine j_if_ne 40 36 (by decide) rfl dX5_part_33 (by intro hR; first | omega | exact hR _ _ | exact jb_r _ | exact hR0 _ _ | assumption) (fun h1 => ?_) (fun h1 => ?_)
      · refine j_lload_n 41 rfl rfl dX5_part_40 ?_
        refine j_lload 43 rfl rfl dX5_part_41 ?_
        refine k_ldiv 44 rfl (by omega) (by intro hR; first | omega | exact jb_r64 _ | (have := hR; omega)) dX5_part_43 ?_
        rw [lDiv_n (by omega) (by omega)]
        refine j_lretl dX5_part_44 rfl ?_
        exact ⟨rfl, by rw [if_neg (by omega)]⟩
      · refine j_lload_n 37 rfl rfl dX5_part_36 ?_
        refine j_goto 41 (by decide) dX5_part_37 ?_
        refine j_lload 43 rfl rfl dX5_part_41 ?_
        refine k_ldiv 44 rfl (by omega) (by intro hR; first | omega | exact jb_r64 _ | (have := hR; omega)) dX5_part_43 ?_
        rw [lDiv_n (by omega) (by omega)]
        refine j_lretl dX5_part_44 rfl ?_
        exact ⟨rfl, by rw [if_pos (by omega)]⟩
    intro m
    induction m with
    | zero =>
      intro x y x9 hx hy hm hq
      have hcr := jCmp_r y 0
      refine j_lload 8 rfl rfl dX5_part_6 ?_
      refine j_lconst 9 rfl (x := 0) rfl dX5_part_8 ?_
      refine j_lcmp 10 rfl dX5_part_9 (by intro hR; first | omega | exact jb_r64 _ | (have := hR; omega)) (by intro hR; first | omega | exact jb_r64 _ | (have := hR; omega)) ?_
      refine j_if_eq 31 13 (by decide) rfl dX5_part_10 (by intro hR; first | omega | exact hR _ _ | exact jb_r _ | exact hR0 _ _ | assumption) (fun h1 => ?_) (fun h1 => ?_)
      · exact fin x y x9 hx ((jCmp_eq y 0).mp h1) hq
      · have := mt (jCmp_eq y 0).mpr h1
        exfalso; omega
    | succ m ih =>
      intro x y x9 hx hy hm hq
      have hcr := jCmp_r y 0
      refine j_lload 8 rfl rfl dX5_part_6 ?_
      refine j_lconst 9 rfl (x := 0) rfl dX5_part_8 ?_
      refine j_lcmp 10 rfl dX5_part_9 (by intro hR; first | omega | exact jb_r64 _ | (have := hR; omega)) (by intro hR; first | omega | exact jb_r64 _ | (have := hR; omega)) ?_
      refine j_if_eq 31 13 (by decide) rfl dX5_part_10 (by intro hR; first | omega | exact hR _ _ | exact jb_r _ | exact hR0 _ _ | assumption) (fun h1 => ?_) (fun h1 => ?_)
      · exact fin x y x9 hx ((jCmp_eq y 0).mp h1) hq
      · have hy0 := mt (jCmp_eq y 0).mpr h1
        have r1 := Int.emod_nonneg x (show y ≠ 0 by omega)
        have r2 := Int.emod_lt_of_pos x (show 0 < y by omega)
        refine j_lload 15 rfl rfl dX5_part_13 ?_
        refine j_lload 17 rfl rfl dX5_part_15 ?_
        refine k_lrem 18 rfl (by omega) (by intro hR; first | omega | exact jb_r64 _ | (have := hR; omega)) dX5_part_17 ?_
        rw [lRem_n (by omega) (by omega)]
        refine j_lstore 20 rfl su_11_9 (by decide) (Nat.le_of_ble_eq_true rfl) rfl dX5_part_18 ?_
        refine j_lload 22 rfl rfl dX5_part_20 ?_
        refine j_lstore 24 rfl su_11_5 (by decide) (Nat.le_of_ble_eq_true rfl) rfl dX5_part_22 ?_
        refine j_lload 26 rfl rfl dX5_part_24 ?_
        refine j_lstore 28 rfl su_11_7 (by decide) (Nat.le_of_ble_eq_true rfl) rfl dX5_part_26 ?_
        refine j_goto 6 (by decide) dX5_part_28 ?_
        refine ih y (x % y) _ hy (by omega) (by omega) ?_
        rw [gcd_step hx.1 (by omega)]
        exact hq
  exact key b.toNat a b none (by omega) (by omega) (Nat.le_refl _) (by rw [Int.gcd_comm, ← hg])
-- X5_sheet
theorem m_sheet {s f n : Int} (hs : -2147483648 ≤ s ∧ s ≤ 2147483647) (hf : -2147483648 ≤ f ∧ f ≤ 2147483647) (hn : -2147483648 ≤ n ∧ n ≤ 2147483647) : jOk E mX5_sheet [jRF E 56, .int (jI s), .int (jI f), .int (jI n)] H (jQi fun r H' =>
    (¬ (0 ≤ s ∧ s < 4 ∧ 0 ≤ f ∧ f < 3 ∧ n ≤ 60) ∧ r = -2 ∧ H' = H) ∨ ((0 ≤ s ∧ s < 4 ∧ 0 ≤ f ∧ f < 3 ∧ n ≤ 60) ∧ n < 0 ∧ r = -15 ∧ H' = jU H 56 4 5) ∨
    ((0 ≤ s ∧ s < 4 ∧ 0 ≤ f ∧ f < 3 ∧ n ≤ 60) ∧ 0 ≤ n ∧ r = n ∧ H' = jMr (jU (jU H 57 s f) 58 s n) 59 (60 * s) n (fun _ => 0))) := by
  have key : (0 ≤ s ∧ s < 4 ∧ 0 ≤ f ∧ f < 3 ∧ n ≤ 60) → 0 ≤ n → jWP E mX5_sheet (jQi fun r H' =>
    (¬ (0 ≤ s ∧ s < 4 ∧ 0 ≤ f ∧ f < 3 ∧ n ≤ 60) ∧ r = -2 ∧ H' = H) ∨ ((0 ≤ s ∧ s < 4 ∧ 0 ≤ f ∧ f < 3 ∧ n ≤ 60) ∧ n < 0 ∧ r = -15 ∧ H' = jU H 56 4 5) ∨
    ((0 ≤ s ∧ s < 4 ∧ 0 ≤ f ∧ f < 3 ∧ n ≤ 60) ∧ 0 ≤ n ∧ r = n ∧ H' = jMr (jU (jU H 57 s f) 58 s n) 59 (60 * s) n (fun _ => 0))) 55 [some (jRF E 56), some (.int (jI s)), some (.int (jI f)), some (.int (jI n)), some (.int (jI 0))] [] (jU (jU H 57 s f) 58 s n) := by
    intro hok h0
    have loop := jUp 0 n (fun i => jWP E mX5_sheet (jQi fun r H' =>
    (¬ (0 ≤ s ∧ s < 4 ∧ 0 ≤ f ∧ f < 3 ∧ n ≤ 60) ∧ r = -2 ∧ H' = H) ∨ ((0 ≤ s ∧ s < 4 ∧ 0 ≤ f ∧ f < 3 ∧ n ≤ 60) ∧ n < 0 ∧ r = -15 ∧ H' = jU H 56 4 5) ∨
    ((0 ≤ s ∧ s < 4 ∧ 0 ≤ f ∧ f < 3 ∧ n ≤ 60) ∧ 0 ≤ n ∧ r = n ∧ H' = jMr (jU (jU H 57 s f) 58 s n) 59 (60 * s) n (fun _ => 0))) 55 [some (jRF E 56), some (.int (jI s)), some (.int (jI f)), some (.int (jI n)), some (.int (jI i))] [] (jMr (jU (jU H 57 s f) 58 s n) 59 (60 * s) i (fun _ => 0))) ?_ ?_ 0 (by omega) (by omega)
    · rw [jMr_0] at loop
      exact loop
    · refine j_iload 57 rfl rfl dX5_sheet_55 ?_
      refine j_iload_n 58 rfl rfl dX5_sheet_57 ?_
      refine j_icmp_ge 80 61 (by decide) rfl dX5_sheet_58 (by intro hR; first | omega | exact hR _ _ | exact jb_r _ | exact hR0 _ _ | assumption) (by intro hR; first | omega | exact hR _ _ | exact jb_r _ | exact hR0 _ _ | assumption) (fun h1 => ?_) (fun h1 => ?_)
      · refine j_iload_n 81 rfl rfl dX5_sheet_80 ?_
        refine j_ireti dX5_sheet_81 rfl ?_
        exact Or.inr (Or.inr ⟨hok, h0, rfl, rfl⟩)
      · exfalso; omega
    · intro i i0 i1 ih
      rw [← jMr_s _ _ _ _ i0] at ih
      refine j_iload 57 rfl rfl dX5_sheet_55 ?_
      refine j_iload_n 58 rfl rfl dX5_sheet_57 ?_
      refine j_icmp_ge 80 61 (by decide) rfl dX5_sheet_58 (by intro hR; first | omega | exact hR _ _ | exact jb_r _ | exact hR0 _ _ | assumption) (by intro hR; first | omega | exact hR _ _ | exact jb_r _ | exact hR0 _ _ | assumption) (fun h1 => ?_) (fun h1 => ?_)
      · exfalso; omega
      · refine j_aload_n 62 rfl rfl dX5_sheet_61 ?_
        refine j_getr 65 rfl 2 fl_X5_16 dX5_sheet_62 (by decide) ( rfl) ( rfl) ?_
        refine j_bipush 67 rfl rfl dX5_sheet_65 ?_
        refine j_iload_n 68 rfl rfl dX5_sheet_67 ?_
        refine j_imul 69 rfl dX5_sheet_68 ?_
        refine j_iload 71 rfl rfl dX5_sheet_69 ?_
        refine j_iadd 72 rfl dX5_sheet_71 ?_
        refine j_iconst 73 rfl dX5_sheet_72 ?_
        refine j_iast 74 rfl dX5_sheet_73 (by decide) rfl (by decide) rfl (by omega) (by intro hR; first | omega | exact hR _ _ | exact jb_r _ | exact hR0 _ _ | assumption) ?_
        refine j_iinc 77 rfl rfl st_5_4 (by decide) rfl dX5_sheet_74 ?_
        refine j_goto 55 (by decide) dX5_sheet_77 ?_
        exact ih
  refine jOk.rng (fun hR0 => ?_)
  refine jOk.ofe rfl (Nat.le_of_ble_eq_true rfl) (en_aiii_5 (E := E)) ?_
  refine j_iload_n 1 rfl rfl dX5_sheet_0 ?_
  refine jS1i 4 rfl dX5_sheet_1 lk_X5_85 rfl rfl (m_isSheet (by omega)) (fun r1 H1 ⟨eh_, hr1⟩ => ?_)
  obtain rfl := eh_.symm
  refine j_if_eq 25 7 (by decide) rfl dX5_sheet_4 (by intro hR; first | omega | exact hR _ _ | exact jb_r _ | exact hR0 _ _ | assumption) (fun h4 => ?_) (fun h4 => ?_)
  · refine j_bipush 27 rfl rfl dX5_sheet_25 ?_
    refine j_ireti dX5_sheet_27 rfl ?_
    first | exact Or.inl ⟨by omega, by omega, rfl⟩ | exact Or.inr (Or.inl ⟨by omega, by omega, by omega, rfl⟩) | exact Or.inr (Or.inr ⟨by omega, by omega, by omega, rfl⟩)
  · refine j_iload_n 8 rfl rfl dX5_sheet_7 ?_
    refine j_i2l 9 rfl (by intro hR; first | omega | exact hR _ _ | exact jb_r _ | exact hR0 _ _ | assumption) dX5_sheet_8 ?_
    refine j_lconst 10 rfl (x := 0) rfl dX5_sheet_9 ?_
    refine j_ldc2 13 rfl kc_X5_89 dX5_sheet_10 ?_
    refine jS3i 16 rfl dX5_sheet_13 lk_X5_75 rfl rfl (m_in (by omega) (by omega) (by omega)) (fun r13 H1 ⟨eh_, hr13⟩ => ?_)
    obtain rfl := eh_.symm
    refine j_if_eq 25 19 (by decide) rfl dX5_sheet_16 (by intro hR; first | omega | exact hR _ _ | exact jb_r _ | exact hR0 _ _ | assumption) (fun h16 => ?_) (fun h16 => ?_)
    · refine j_bipush 27 rfl rfl dX5_sheet_25 ?_
      refine j_ireti dX5_sheet_27 rfl ?_
      first | exact Or.inl ⟨by omega, by omega, rfl⟩ | exact Or.inr (Or.inl ⟨by omega, by omega, by omega, rfl⟩) | exact Or.inr (Or.inr ⟨by omega, by omega, by omega, rfl⟩)
    · refine j_iload_n 20 rfl rfl dX5_sheet_19 ?_
      refine j_bipush 22 rfl rfl dX5_sheet_20 ?_
      refine j_icmp_le 28 25 (by decide) rfl dX5_sheet_22 (by intro hR; first | omega | exact hR _ _ | exact jb_r _ | exact hR0 _ _ | assumption) (by intro hR; first | omega | exact hR _ _ | exact jb_r _ | exact hR0 _ _ | assumption) (fun h22 => ?_) (fun h22 => ?_)
      · refine j_iload_n 29 rfl rfl dX5_sheet_28 ?_
        refine j_if_ge 38 32 (by decide) rfl dX5_sheet_29 (by intro hR; first | omega | exact hR _ _ | exact jb_r _ | exact hR0 _ _ | assumption) (fun h29 => ?_) (fun h29 => ?_)
        · refine j_aload_n 39 rfl rfl dX5_sheet_38 ?_
          refine j_getr 42 rfl 0 fl_X5_7 dX5_sheet_39 (by decide) ( rfl) ( rfl) ?_
          refine j_iload_n 43 rfl rfl dX5_sheet_42 ?_
          refine j_iload_n 44 rfl rfl dX5_sheet_43 ?_
          refine j_iast 45 rfl dX5_sheet_44 (by decide) rfl (by decide) rfl (by omega) (by intro hR; first | omega | exact hR _ _ | exact jb_r _ | exact hR0 _ _ | assumption) ?_
          refine j_aload_n 46 rfl rfl dX5_sheet_45 ?_
          refine j_getr 49 rfl 1 fl_X5_13 dX5_sheet_46 (by decide) ( rfl) ( rfl) ?_
          refine j_iload_n 50 rfl rfl dX5_sheet_49 ?_
          refine j_iload_n 51 rfl rfl dX5_sheet_50 ?_
          refine j_iast 52 rfl dX5_sheet_51 (by decide) rfl (by decide) rfl (by omega) (by intro hR; first | omega | exact hR _ _ | exact jb_r _ | exact hR0 _ _ | assumption) ?_
          refine j_iconst 53 rfl dX5_sheet_52 ?_
          refine j_istore 55 rfl st_5_4 (by decide) rfl dX5_sheet_53 ?_
          exact key (by omega) (by omega)
        · refine j_aload_n 33 rfl rfl dX5_sheet_32 ?_
          refine j_iconst 34 rfl dX5_sheet_33 ?_
          refine jV1i 37 rfl dX5_sheet_34 lk_X5_91 rfl rfl (by decide) ( rfl) ( rfl) (m_finds (by omega)) (fun r34 H1 ⟨e, hr34⟩ => ?_)
          subst e
          refine j_ireti dX5_sheet_37 rfl ?_
          first | exact Or.inl ⟨by omega, by omega, rfl⟩ | exact Or.inr (Or.inl ⟨by omega, by omega, by omega, rfl⟩) | exact Or.inr (Or.inr ⟨by omega, by omega, by omega, rfl⟩)
      · refine j_bipush 27 rfl rfl dX5_sheet_25 ?_
        refine j_ireti dX5_sheet_27 rfl ?_
        first | exact Or.inl ⟨by omega, by omega, rfl⟩ | exact Or.inr (Or.inl ⟨by omega, by omega, by omega, rfl⟩) | exact Or.inr (Or.inr ⟨by omega, by omega, by omega, rfl⟩)
-- X5_lose
theorem m_lose {s : Int} (hs : -2147483648 ≤ s ∧ s ≤ 2147483647) : jOk E mX5_lose [jRF E 56, .int (jI s)] H (jQi fun r H' =>
    (¬ (0 ≤ s ∧ s < 4) ∧ r = -2 ∧ H' = H) ∨ ((0 ≤ s ∧ s < 4) ∧ H 57 s < 0 ∧ r = -11 ∧ H' = jU H 56 4 1) ∨ ((0 ≤ s ∧ s < 4) ∧ 0 ≤ H 57 s ∧ r = H 58 s ∧ H' = jU H 57 s (-1))) := by
  refine jOk.rng (fun hR0 => ?_)
  refine jOk.ofe rfl (Nat.le_of_ble_eq_true rfl) (en_ai_2 (E := E)) ?_
  refine j_iload_n 1 rfl rfl dX5_lose_0 ?_
  refine jS1i 4 rfl dX5_lose_1 lk_X5_85 rfl rfl (m_isSheet (by omega)) (fun r1 H1 ⟨eh_, hr1⟩ => ?_)
  obtain rfl := eh_.symm
  refine j_if_ne 10 7 (by decide) rfl dX5_lose_4 (by intro hR; first | omega | exact hR _ _ | exact jb_r _ | exact hR0 _ _ | assumption) (fun h4 => ?_) (fun h4 => ?_)
  · refine j_aload_n 11 rfl rfl dX5_lose_10 ?_
    refine j_getr 14 rfl 0 fl_X5_7 dX5_lose_11 (by decide) ( rfl) ( rfl) ?_
    refine j_iload_n 15 rfl rfl dX5_lose_14 ?_
    refine j_iald 16 rfl dX5_lose_15 (by decide) rfl (by decide) rfl (by omega) ?_
    refine j_if_ge 25 19 (by decide) rfl dX5_lose_16 (by intro hR; first | omega | exact hR _ _ | exact jb_r _ | exact hR0 _ _ | assumption) (fun h16 => ?_) (fun h16 => ?_)
    · refine j_aload_n 26 rfl rfl dX5_lose_25 ?_
      refine j_getr 29 rfl 0 fl_X5_7 dX5_lose_26 (by decide) ( rfl) ( rfl) ?_
      refine j_iload_n 30 rfl rfl dX5_lose_29 ?_
      refine j_iconst 31 rfl dX5_lose_30 ?_
      refine j_iast 32 rfl dX5_lose_31 (by decide) rfl (by decide) rfl (by omega) (by intro hR; first | omega | exact hR _ _ | exact jb_r _ | exact hR0 _ _ | assumption) ?_
      refine j_aload_n 33 rfl rfl dX5_lose_32 ?_
      refine j_getr 36 rfl 1 fl_X5_13 dX5_lose_33 (by decide) ( rfl) ( rfl) ?_
      refine j_iload_n 37 rfl rfl dX5_lose_36 ?_
      refine j_iald 38 rfl dX5_lose_37 (by decide) rfl (by decide) rfl (by omega) ?_
      try simp (disch := omega) only [jU_s, jU_k, jU_i]
      refine j_ireti dX5_lose_38 rfl ?_
      first | exact Or.inl ⟨by omega, by omega, rfl⟩ | exact Or.inr (Or.inl ⟨by omega, by omega, by omega, rfl⟩) | exact Or.inr (Or.inr ⟨by omega, by omega, by omega, rfl⟩)
    · refine j_aload_n 20 rfl rfl dX5_lose_19 ?_
      refine j_iconst 21 rfl dX5_lose_20 ?_
      refine jV1i 24 rfl dX5_lose_21 lk_X5_91 rfl rfl (by decide) ( rfl) ( rfl) (m_finds (by omega)) (fun r21 H1 ⟨e, hr21⟩ => ?_)
      subst e
      refine j_ireti dX5_lose_24 rfl ?_
      first | exact Or.inl ⟨by omega, by omega, rfl⟩ | exact Or.inr (Or.inl ⟨by omega, by omega, by omega, rfl⟩) | exact Or.inr (Or.inr ⟨by omega, by omega, by omega, rfl⟩)
  · refine j_bipush 9 rfl rfl dX5_lose_7 ?_
    refine j_ireti dX5_lose_9 rfl ?_
    first | exact Or.inl ⟨by omega, by omega, rfl⟩ | exact Or.inr (Or.inl ⟨by omega, by omega, by omega, rfl⟩) | exact Or.inr (Or.inr ⟨by omega, by omega, by omega, rfl⟩)
-- X5_lacks
theorem m_lacks {s f i : Int} (hs : 0 ≤ s ∧ s < 4) (hf : -2147483648 ≤ f ∧ f ≤ 2147483647) (hi : -2147483648 ≤ i ∧ i ≤ 2147483647) (hz : 0 ≤ H 58 s ∧ H 58 s ≤ 60) : jOk E mX5_lacks [jRF E 56, .int (jI s), .int (jI f), .int (jI i)] H (jQi fun r H' => (H 57 s < 0 ∧ r = -11 ∧ H' = jU H 56 4 1) ∨ (0 ≤ H 57 s ∧ H 57 s ≠ f ∧ r = -13 ∧ H' = jU H 56 4 3) ∨ (0 ≤ H 57 s ∧ H 57 s = f ∧ ¬ (0 ≤ i ∧ i < H 58 s) ∧ r = -12 ∧ H' = jU H 56 4 2) ∨ (0 ≤ H 57 s ∧ H 57 s = f ∧ (0 ≤ i ∧ i < H 58 s) ∧ r = 0 ∧ H' = H)) := by
  refine jOk.rng (fun hR0 => ?_)
  refine jOk.ofe rfl (Nat.le_of_ble_eq_true rfl) (en_aiii_4 (E := E)) ?_
  refine j_aload_n 1 rfl rfl dX5_lacks_0 ?_
  refine j_getr 4 rfl 0 fl_X5_7 dX5_lacks_1 (by decide) ( rfl) ( rfl) ?_
  refine j_iload_n 5 rfl rfl dX5_lacks_4 ?_
  refine j_iald 6 rfl dX5_lacks_5 (by decide) rfl (by decide) rfl (by omega) ?_
  refine j_if_ge 15 9 (by decide) rfl dX5_lacks_6 (by intro hR; first | omega | exact hR _ _ | exact jb_r _ | exact hR0 _ _ | assumption) (fun h6 => ?_) (fun h6 => ?_)
  · refine j_aload_n 16 rfl rfl dX5_lacks_15 ?_
    refine j_getr 19 rfl 0 fl_X5_7 dX5_lacks_16 (by decide) ( rfl) ( rfl) ?_
    refine j_iload_n 20 rfl rfl dX5_lacks_19 ?_
    refine j_iald 21 rfl dX5_lacks_20 (by decide) rfl (by decide) rfl (by omega) ?_
    refine j_iload_n 22 rfl rfl dX5_lacks_21 ?_
    refine j_icmp_eq 31 25 (by decide) rfl dX5_lacks_22 (by intro hR; first | omega | exact hR _ _ | exact jb_r _ | exact hR0 _ _ | assumption) (by intro hR; first | omega | exact hR _ _ | exact jb_r _ | exact hR0 _ _ | assumption) (fun h22 => ?_) (fun h22 => ?_)
    · refine j_iload_n 32 rfl rfl dX5_lacks_31 ?_
      refine j_i2l 33 rfl (by intro hR; first | omega | exact hR _ _ | exact jb_r _ | exact hR0 _ _ | assumption) dX5_lacks_32 ?_
      refine j_lconst 34 rfl (x := 0) rfl dX5_lacks_33 ?_
      refine j_aload_n 35 rfl rfl dX5_lacks_34 ?_
      refine j_getr 38 rfl 1 fl_X5_13 dX5_lacks_35 (by decide) ( rfl) ( rfl) ?_
      refine j_iload_n 39 rfl rfl dX5_lacks_38 ?_
      refine j_iald 40 rfl dX5_lacks_39 (by decide) rfl (by decide) rfl (by omega) ?_
      refine j_iconst 41 rfl dX5_lacks_40 ?_
      refine j_isub 42 rfl dX5_lacks_41 ?_
      refine j_i2l 43 rfl (by intro hR; first | omega | exact hR _ _ | exact jb_r _ | exact hR0 _ _ | assumption) dX5_lacks_42 ?_
      refine jS3i 46 rfl dX5_lacks_43 lk_X5_75 rfl rfl (m_in (by omega) (by omega) (by omega)) (fun r43 H1 ⟨eh_, hr43⟩ => ?_)
      obtain rfl := eh_.symm
      refine j_if_eq 53 49 (by decide) rfl dX5_lacks_46 (by intro hR; first | omega | exact hR _ _ | exact jb_r _ | exact hR0 _ _ | assumption) (fun h46 => ?_) (fun h46 => ?_)
      · refine j_aload_n 54 rfl rfl dX5_lacks_53 ?_
        refine j_iconst 55 rfl dX5_lacks_54 ?_
        refine jV1i 58 rfl dX5_lacks_55 lk_X5_91 rfl rfl (by decide) ( rfl) ( rfl) (m_finds (by omega)) (fun r55 H1 ⟨e, hr55⟩ => ?_)
        subst e
        refine j_ireti dX5_lacks_58 rfl ?_
        first | exact Or.inl ⟨by omega, by omega, rfl⟩ | exact Or.inr (Or.inl ⟨by omega, by omega, by omega, rfl⟩) | exact Or.inr (Or.inr (Or.inl ⟨by omega, by omega, by omega, by omega, rfl⟩)) | exact Or.inr (Or.inr (Or.inr ⟨by omega, by omega, by omega, by omega, rfl⟩))
      · refine j_iconst 50 rfl dX5_lacks_49 ?_
        refine j_goto 58 (by decide) dX5_lacks_50 ?_
        refine j_ireti dX5_lacks_58 rfl ?_
        first | exact Or.inl ⟨by omega, by omega, rfl⟩ | exact Or.inr (Or.inl ⟨by omega, by omega, by omega, rfl⟩) | exact Or.inr (Or.inr (Or.inl ⟨by omega, by omega, by omega, by omega, rfl⟩)) | exact Or.inr (Or.inr (Or.inr ⟨by omega, by omega, by omega, by omega, rfl⟩))
    · refine j_aload_n 26 rfl rfl dX5_lacks_25 ?_
      refine j_iconst 27 rfl dX5_lacks_26 ?_
      refine jV1i 30 rfl dX5_lacks_27 lk_X5_91 rfl rfl (by decide) ( rfl) ( rfl) (m_finds (by omega)) (fun r27 H1 ⟨e, hr27⟩ => ?_)
      subst e
      refine j_ireti dX5_lacks_30 rfl ?_
      first | exact Or.inl ⟨by omega, by omega, rfl⟩ | exact Or.inr (Or.inl ⟨by omega, by omega, by omega, rfl⟩) | exact Or.inr (Or.inr (Or.inl ⟨by omega, by omega, by omega, by omega, rfl⟩)) | exact Or.inr (Or.inr (Or.inr ⟨by omega, by omega, by omega, by omega, rfl⟩))
  · refine j_aload_n 10 rfl rfl dX5_lacks_9 ?_
    refine j_iconst 11 rfl dX5_lacks_10 ?_
    refine jV1i 14 rfl dX5_lacks_11 lk_X5_91 rfl rfl (by decide) ( rfl) ( rfl) (m_finds (by omega)) (fun r11 H1 ⟨e, hr11⟩ => ?_)
    subst e
    refine j_ireti dX5_lacks_14 rfl ?_
    first | exact Or.inl ⟨by omega, by omega, rfl⟩ | exact Or.inr (Or.inl ⟨by omega, by omega, by omega, rfl⟩) | exact Or.inr (Or.inr (Or.inl ⟨by omega, by omega, by omega, by omega, rfl⟩)) | exact Or.inr (Or.inr (Or.inr ⟨by omega, by omega, by omega, by omega, rfl⟩))
-- X5_lay
theorem m_lay {s f i v : Int} (hs : -2147483648 ≤ s ∧ s ≤ 2147483647) (hf : -2147483648 ≤ f ∧ f ≤ 2147483647) (hi : -2147483648 ≤ i ∧ i ≤ 2147483647) (hv : -2147483648 ≤ v ∧ v ≤ 2147483647) (hz : mSh H) : jOk E mX5_lay [jRF E 56, .int (jI s), .int (jI f), .int (jI i), .int (jI v)] H (jQi fun r H' =>
    (¬ (0 ≤ s ∧ s < 4 ∧ 0 ≤ f ∧ f < 3) ∧ r = -2 ∧ H' = H) ∨ ((0 ≤ s ∧ s < 4 ∧ 0 ≤ f ∧ f < 3) ∧ H 57 s < 0 ∧ r = -11 ∧ H' = jU H 56 4 1) ∨ ((0 ≤ s ∧ s < 4 ∧ 0 ≤ f ∧ f < 3) ∧ 0 ≤ H 57 s ∧ H 57 s ≠ f ∧ r = -13 ∧ H' = jU H 56 4 3) ∨
    ((0 ≤ s ∧ s < 4 ∧ 0 ≤ f ∧ f < 3) ∧ 0 ≤ H 57 s ∧ H 57 s = f ∧ ¬ (0 ≤ i ∧ i < H 58 s) ∧ r = -12 ∧ H' = jU H 56 4 2) ∨ ((0 ≤ s ∧ s < 4 ∧ 0 ≤ f ∧ f < 3) ∧ (0 ≤ H 57 s ∧ H 57 s = f) ∧ (0 ≤ i ∧ i < H 58 s) ∧ r = 1 ∧ H' = jU H 59 (60 * s + i) (jCut f v))) := by
  by_cases hok : 0 ≤ s ∧ s < 4 ∧ 0 ≤ f ∧ f < 3
  · have hzs := (hz s hok.1 hok.2.1).2
    refine jOk.rng (fun hR0 => ?_)
    refine jOk.ofe rfl (Nat.le_of_ble_eq_true rfl) (en_aiiii_6 (E := E)) ?_
    refine j_iload_n 1 rfl rfl dX5_lay_0 ?_
    refine jS1i 4 rfl dX5_lay_1 lk_X5_85 rfl rfl (m_isSheet (by omega)) (fun r1 H1 ⟨eh_, hr1⟩ => ?_)
    obtain rfl := eh_.symm
    refine j_if_eq 19 7 (by decide) rfl dX5_lay_4 (by intro hR; first | omega | exact hR _ _ | exact jb_r _ | exact hR0 _ _ | assumption) (fun h4 => ?_) (fun h4 => ?_)
    · exfalso; omega
    refine j_iload_n 8 rfl rfl dX5_lay_7 ?_
    refine j_i2l 9 rfl (by intro hR; first | omega | exact hR _ _ | exact jb_r _ | exact hR0 _ _ | assumption) dX5_lay_8 ?_
    refine j_lconst 10 rfl (x := 0) rfl dX5_lay_9 ?_
    refine j_ldc2 13 rfl kc_X5_89 dX5_lay_10 ?_
    refine jS3i 16 rfl dX5_lay_13 lk_X5_75 rfl rfl (m_in (by omega) (by omega) (by omega)) (fun r13 H1 ⟨eh_, hr13⟩ => ?_)
    obtain rfl := eh_.symm
    refine j_if_ne 22 19 (by decide) rfl dX5_lay_16 (by intro hR; first | omega | exact hR _ _ | exact jb_r _ | exact hR0 _ _ | assumption) (fun h16 => ?_) (fun h16 => ?_)
    rotate_left
    · exfalso; omega
    refine j_aload_n 23 rfl rfl dX5_lay_22 ?_
    refine j_iload_n 24 rfl rfl dX5_lay_23 ?_
    refine j_iload_n 25 rfl rfl dX5_lay_24 ?_
    refine j_iload_n 26 rfl rfl dX5_lay_25 ?_
    refine jV3i 29 rfl dX5_lay_26 lk_X5_95 rfl rfl (by decide) ( rfl) ( rfl) (m_lacks (by omega) hf hi hzs) (fun r1 H1 hq => ?_)
    rcases hq with ⟨q1, q2, q3⟩ | ⟨q1, q2, q3, q4⟩ | ⟨q1, q2, q3, q4, q5⟩ | ⟨q1, q2, q3, q4, q5⟩
    · subst q2 q3
      refine j_istore 31 rfl st_6_5 (by decide) rfl dX5_lay_29 ?_
      refine j_iload 33 rfl rfl dX5_lay_31 ?_
      refine j_if_eq 39 36 (by decide) rfl dX5_lay_33 (by intro hR; first | omega | exact hR _ _ | exact jb_r _ | exact hR0 _ _ | assumption) (fun h33 => ?_) (fun h33 => ?_)
      · exfalso; omega
      · refine j_iload 38 rfl rfl dX5_lay_36 ?_
        refine j_ireti dX5_lay_38 rfl ?_
        first | exact Or.inr (Or.inl ⟨hok, q1, rfl, rfl⟩)
    · subst q3 q4
      refine j_istore 31 rfl st_6_5 (by decide) rfl dX5_lay_29 ?_
      refine j_iload 33 rfl rfl dX5_lay_31 ?_
      refine j_if_eq 39 36 (by decide) rfl dX5_lay_33 (by intro hR; first | omega | exact hR _ _ | exact jb_r _ | exact hR0 _ _ | assumption) (fun h33 => ?_) (fun h33 => ?_)
      · exfalso; omega
      · refine j_iload 38 rfl rfl dX5_lay_36 ?_
        refine j_ireti dX5_lay_38 rfl ?_
        first | exact Or.inr (Or.inr (Or.inl ⟨hok, q1, q2, rfl, rfl⟩))
    · subst q4 q5
      refine j_istore 31 rfl st_6_5 (by decide) rfl dX5_lay_29 ?_
      refine j_iload 33 rfl rfl dX5_lay_31 ?_
      refine j_if_eq 39 36 (by decide) rfl dX5_lay_33 (by intro hR; first | omega | exact hR _ _ | exact jb_r _ | exact hR0 _ _ | assumption) (fun h33 => ?_) (fun h33 => ?_)
      · exfalso; omega
      · refine j_iload 38 rfl rfl dX5_lay_36 ?_
        refine j_ireti dX5_lay_38 rfl ?_
        first | exact Or.inr (Or.inr (Or.inr (Or.inl ⟨hok, q1, q2, q3, rfl, rfl⟩)))
    · subst q4
      obtain rfl := q5.symm
      refine j_istore 31 rfl st_6_5 (by decide) rfl dX5_lay_29 ?_
      refine j_iload 33 rfl rfl dX5_lay_31 ?_
      refine j_if_eq 39 36 (by decide) rfl dX5_lay_33 (by intro hR; first | omega | exact hR _ _ | exact jb_r _ | exact hR0 _ _ | assumption) (fun h1 => ?_) (fun h1 => ?_)
      · refine j_aload_n 40 rfl rfl dX5_lay_39 ?_
        refine j_getr 43 rfl 2 fl_X5_16 dX5_lay_40 (by decide) ( rfl) ( rfl) ?_
        refine j_bipush 45 rfl rfl dX5_lay_43 ?_
        refine j_iload_n 46 rfl rfl dX5_lay_45 ?_
        refine j_imul 47 rfl dX5_lay_46 ?_
        refine j_iload_n 48 rfl rfl dX5_lay_47 ?_
        refine j_iadd 49 rfl dX5_lay_48 ?_
        refine j_iload_n 50 rfl rfl dX5_lay_49 ?_
        refine j_iload 52 rfl rfl dX5_lay_50 ?_
        refine jS2i 55 rfl dX5_lay_52 lk_X5_99 rfl rfl (m_cut hf) (fun r2 H2 ⟨eh_, hr2⟩ => ?_)
        obtain rfl := eh_.symm
        subst hr2
        refine j_iast 56 rfl dX5_lay_55 (by decide) rfl (by decide) rfl (by omega) (by intro hR; exact jCut_r hv) ?_
        refine j_iconst 57 rfl dX5_lay_56 ?_
        refine j_ireti dX5_lay_57 rfl ?_
        exact Or.inr (Or.inr (Or.inr (Or.inr ⟨hok, ⟨q1, q2⟩, q3, rfl, rfl⟩)))
      · exfalso; omega
  · refine jOk.rng (fun hR0 => ?_)
    refine jOk.ofe rfl (Nat.le_of_ble_eq_true rfl) (en_aiiii_6 (E := E)) ?_
    refine j_iload_n 1 rfl rfl dX5_lay_0 ?_
    refine jS1i 4 rfl dX5_lay_1 lk_X5_85 rfl rfl (m_isSheet (by omega)) (fun r1 H1 ⟨eh_, hr1⟩ => ?_)
    obtain rfl := eh_.symm
    refine j_if_eq 19 7 (by decide) rfl dX5_lay_4 (by intro hR; first | omega | exact hR _ _ | exact jb_r _ | exact hR0 _ _ | assumption) (fun h4 => ?_) (fun h4 => ?_)
    · refine j_bipush 21 rfl rfl dX5_lay_19 ?_
      refine j_ireti dX5_lay_21 rfl ?_
      exact Or.inl ⟨hok, rfl, rfl⟩
    · refine j_iload_n 8 rfl rfl dX5_lay_7 ?_
      refine j_i2l 9 rfl (by intro hR; first | omega | exact hR _ _ | exact jb_r _ | exact hR0 _ _ | assumption) dX5_lay_8 ?_
      refine j_lconst 10 rfl (x := 0) rfl dX5_lay_9 ?_
      refine j_ldc2 13 rfl kc_X5_89 dX5_lay_10 ?_
      refine jS3i 16 rfl dX5_lay_13 lk_X5_75 rfl rfl (m_in (by omega) (by omega) (by omega)) (fun r13 H1 ⟨eh_, hr13⟩ => ?_)
      obtain rfl := eh_.symm
      refine j_if_ne 22 19 (by decide) rfl dX5_lay_16 (by intro hR; first | omega | exact hR _ _ | exact jb_r _ | exact hR0 _ _ | assumption) (fun h16 => ?_) (fun h16 => ?_)
      · exfalso; omega
      · refine j_bipush 21 rfl rfl dX5_lay_19 ?_
        refine j_ireti dX5_lay_21 rfl ?_
        exact Or.inl ⟨hok, rfl, rfl⟩
end S32
