/-! ===== the reference: get, copy; text, row, lids, told, heard ===== -/
section S33
variable {E : jE} {H K : jH}
-- X5_get
theorem m_get {s f i : Int} (hs : -2147483648 ≤ s ∧ s ≤ 2147483647) (hf : -2147483648 ≤ f ∧ f ≤ 2147483647) (hi : -2147483648 ≤ i ∧ i ≤ 2147483647) (hz : mSh H) : jOk E mX5_get [jRF E 56, .int (jI s), .int (jI f), .int (jI i)] H (jQi fun r H' =>
    (¬ (0 ≤ s ∧ s < 4 ∧ 0 ≤ f ∧ f < 3) ∧ r = -2147483648 ∧ H' = H) ∨ ((0 ≤ s ∧ s < 4 ∧ 0 ≤ f ∧ f < 3) ∧ H 57 s < 0 ∧ r = -2147483648 ∧ H' = jU H 56 4 1) ∨ ((0 ≤ s ∧ s < 4 ∧ 0 ≤ f ∧ f < 3) ∧ 0 ≤ H 57 s ∧ H 57 s ≠ f ∧ r = -2147483648 ∧ H' = jU H 56 4 3) ∨
    ((0 ≤ s ∧ s < 4 ∧ 0 ≤ f ∧ f < 3) ∧ 0 ≤ H 57 s ∧ H 57 s = f ∧ ¬ (0 ≤ i ∧ i < H 58 s) ∧ r = -2147483648 ∧ H' = jU H 56 4 2) ∨ ((0 ≤ s ∧ s < 4 ∧ 0 ≤ f ∧ f < 3) ∧ (0 ≤ H 57 s ∧ H 57 s = f) ∧ (0 ≤ i ∧ i < H 58 s) ∧ r = H 59 (60 * s + i) ∧ H' = H)) := by
  by_cases hok : 0 ≤ s ∧ s < 4 ∧ 0 ≤ f ∧ f < 3
  · have hzs := (hz s hok.1 hok.2.1).2
    refine jOk.rng (fun hR0 => ?_)
    refine jOk.ofe rfl (Nat.le_of_ble_eq_true rfl) (en_aiii_4 (E := E)) ?_
    refine j_iload_n 1 rfl rfl dX5_get_0 ?_
    refine jS1i 4 rfl dX5_get_1 lk_X5_85 rfl rfl (m_isSheet (by omega)) (fun r1 H1 ⟨eh_, hr1⟩ => ?_)
    obtain rfl := eh_.symm
    refine j_if_eq 29 7 (by decide) rfl dX5_get_4 (by intro hR; first | omega | exact hR _ _ | exact jb_r _ | exact hR0 _ _ | assumption) (fun h4 => ?_) (fun h4 => ?_)
    · exfalso; omega
    refine j_iload_n 8 rfl rfl dX5_get_7 ?_
    refine j_i2l 9 rfl (by intro hR; first | omega | exact hR _ _ | exact jb_r _ | exact hR0 _ _ | assumption) dX5_get_8 ?_
    refine j_lconst 10 rfl (x := 0) rfl dX5_get_9 ?_
    refine j_ldc2 13 rfl kc_X5_89 dX5_get_10 ?_
    refine jS3i 16 rfl dX5_get_13 lk_X5_75 rfl rfl (m_in (by omega) (by omega) (by omega)) (fun r13 H1 ⟨eh_, hr13⟩ => ?_)
    obtain rfl := eh_.symm
    refine j_if_eq 29 19 (by decide) rfl dX5_get_16 (by intro hR; first | omega | exact hR _ _ | exact jb_r _ | exact hR0 _ _ | assumption) (fun h16 => ?_) (fun h16 => ?_)
    · exfalso; omega
    refine j_aload_n 20 rfl rfl dX5_get_19 ?_
    refine j_iload_n 21 rfl rfl dX5_get_20 ?_
    refine j_iload_n 22 rfl rfl dX5_get_21 ?_
    refine j_iload_n 23 rfl rfl dX5_get_22 ?_
    refine jV3i 26 rfl dX5_get_23 lk_X5_95 rfl rfl (by decide) ( rfl) ( rfl) (m_lacks (by omega) hf hi hzs) (fun r1 H1 hq => ?_)
    rcases hq with ⟨q1, q2, q3⟩ | ⟨q1, q2, q3, q4⟩ | ⟨q1, q2, q3, q4, q5⟩ | ⟨q1, q2, q3, q4, q5⟩
    · subst q2 q3
      refine j_if_eq 32 29 (by decide) rfl dX5_get_26 (by intro hR; first | omega | exact hR _ _ | exact jb_r _ | exact hR0 _ _ | assumption) (fun h26 => ?_) (fun h26 => ?_)
      · exfalso; omega
      · refine j_ldc 31 rfl kc_X5_103 dX5_get_29 ?_
        refine j_ireti dX5_get_31 rfl ?_
        first | exact Or.inr (Or.inl ⟨hok, q1, rfl, rfl⟩)
    · subst q3 q4
      refine j_if_eq 32 29 (by decide) rfl dX5_get_26 (by intro hR; first | omega | exact hR _ _ | exact jb_r _ | exact hR0 _ _ | assumption) (fun h26 => ?_) (fun h26 => ?_)
      · exfalso; omega
      · refine j_ldc 31 rfl kc_X5_103 dX5_get_29 ?_
        refine j_ireti dX5_get_31 rfl ?_
        first | exact Or.inr (Or.inr (Or.inl ⟨hok, q1, q2, rfl, rfl⟩))
    · subst q4 q5
      refine j_if_eq 32 29 (by decide) rfl dX5_get_26 (by intro hR; first | omega | exact hR _ _ | exact jb_r _ | exact hR0 _ _ | assumption) (fun h26 => ?_) (fun h26 => ?_)
      · exfalso; omega
      · refine j_ldc 31 rfl kc_X5_103 dX5_get_29 ?_
        refine j_ireti dX5_get_31 rfl ?_
        first | exact Or.inr (Or.inr (Or.inr (Or.inl ⟨hok, q1, q2, q3, rfl, rfl⟩)))
    · subst q4
      obtain rfl := q5.symm
      refine j_if_eq 32 29 (by decide) rfl dX5_get_26 (by intro hR; first | omega | exact hR _ _ | exact jb_r _ | exact hR0 _ _ | assumption) (fun h1 => ?_) (fun h1 => ?_)
      · refine j_aload_n 33 rfl rfl dX5_get_32 ?_
        refine j_getr 36 rfl 2 fl_X5_16 dX5_get_33 (by decide) ( rfl) ( rfl) ?_
        refine j_bipush 38 rfl rfl dX5_get_36 ?_
        refine j_iload_n 39 rfl rfl dX5_get_38 ?_
        refine j_imul 40 rfl dX5_get_39 ?_
        refine j_iload_n 41 rfl rfl dX5_get_40 ?_
        refine j_iadd 42 rfl dX5_get_41 ?_
        refine j_iald 43 rfl dX5_get_42 (by decide) rfl (by decide) rfl (by omega) ?_
        refine j_ireti dX5_get_43 rfl ?_
        exact Or.inr (Or.inr (Or.inr (Or.inr ⟨hok, ⟨q1, q2⟩, q3, rfl, rfl⟩)))
      · exfalso; omega
  · refine jOk.rng (fun hR0 => ?_)
    refine jOk.ofe rfl (Nat.le_of_ble_eq_true rfl) (en_aiii_4 (E := E)) ?_
    refine j_iload_n 1 rfl rfl dX5_get_0 ?_
    refine jS1i 4 rfl dX5_get_1 lk_X5_85 rfl rfl (m_isSheet (by omega)) (fun r1 H1 ⟨eh_, hr1⟩ => ?_)
    obtain rfl := eh_.symm
    refine j_if_eq 29 7 (by decide) rfl dX5_get_4 (by intro hR; first | omega | exact hR _ _ | exact jb_r _ | exact hR0 _ _ | assumption) (fun h4 => ?_) (fun h4 => ?_)
    · refine j_ldc 31 rfl kc_X5_103 dX5_get_29 ?_
      refine j_ireti dX5_get_31 rfl ?_
      exact Or.inl ⟨hok, rfl, rfl⟩
    · refine j_iload_n 8 rfl rfl dX5_get_7 ?_
      refine j_i2l 9 rfl (by intro hR; first | omega | exact hR _ _ | exact jb_r _ | exact hR0 _ _ | assumption) dX5_get_8 ?_
      refine j_lconst 10 rfl (x := 0) rfl dX5_get_9 ?_
      refine j_ldc2 13 rfl kc_X5_89 dX5_get_10 ?_
      refine jS3i 16 rfl dX5_get_13 lk_X5_75 rfl rfl (m_in (by omega) (by omega) (by omega)) (fun r13 H1 ⟨eh_, hr13⟩ => ?_)
      obtain rfl := eh_.symm
      refine j_if_eq 29 19 (by decide) rfl dX5_get_16 (by intro hR; first | omega | exact hR _ _ | exact jb_r _ | exact hR0 _ _ | assumption) (fun h16 => ?_) (fun h16 => ?_)
      · refine j_ldc 31 rfl kc_X5_103 dX5_get_29 ?_
        refine j_ireti dX5_get_31 rfl ?_
        exact Or.inl ⟨hok, rfl, rfl⟩
      · exfalso; omega
-- X5_copy
set_option maxHeartbeats 1000000 in
theorem m_copy {s i t j n : Int} (hs : -2147483648 ≤ s ∧ s ≤ 2147483647) (ht : -2147483648 ≤ t ∧ t ≤ 2147483647) (hi : -2147483648 ≤ i ∧ i ≤ 2147483647) (hj : -2147483648 ≤ j ∧ j ≤ 2147483647) (hn : -2147483648 ≤ n ∧ n ≤ 2147483647) (hz : mSh H) : jOk E mX5_copy [jRF E 56, .int (jI s), .int (jI i), .int (jI t), .int (jI j), .int (jI n)] H (jQi fun r H' => (¬ (0 ≤ s ∧ s < 4 ∧ 0 ≤ t ∧ t < 4) ∧ r = -2 ∧ H' = H) ∨ ((0 ≤ s ∧ s < 4 ∧ 0 ≤ t ∧ t < 4) ∧ (H 57 s < 0 ∨ H 57 t < 0) ∧ r = -11 ∧ H' = jU H 56 4 1) ∨ ((0 ≤ s ∧ s < 4 ∧ 0 ≤ t ∧ t < 4) ∧ (0 ≤ H 57 s ∧ 0 ≤ H 57 t) ∧ H 57 s ≠ H 57 t ∧ r = -14 ∧ H' = jU H 56 4 4) ∨ ((0 ≤ s ∧ s < 4 ∧ 0 ≤ t ∧ t < 4) ∧ (0 ≤ H 57 s ∧ 0 ≤ H 57 t ∧ H 57 s = H 57 t) ∧ ¬ (0 ≤ i ∧ 0 ≤ j ∧ 0 ≤ n ∧ i + n ≤ H 58 s ∧ j + n ≤ H 58 t) ∧ r = -12 ∧ H' = jU H 56 4 2) ∨ ((0 ≤ s ∧ s < 4 ∧ 0 ≤ t ∧ t < 4) ∧ (0 ≤ H 57 s ∧ 0 ≤ H 57 t ∧ H 57 s = H 57 t) ∧ (0 ≤ i ∧ 0 ≤ j ∧ 0 ≤ n ∧ i + n ≤ H 58 s ∧ j + n ≤ H 58 t) ∧ r = 1 ∧ (∀ k, k ≠ 59 → k ≠ 60 → H' k = H k) ∧ ∀ q, H' 59 q = if 60 * t + j ≤ q ∧ q < 60 * t + j + n then H 59 (60 * s + i + (q - (60 * t + j))) else H 59 q)) := by
  by_cases hok : 0 ≤ s ∧ s < 4 ∧ 0 ≤ t ∧ t < 4
  rotate_left
  · refine jOk.rng (fun hR0 => ?_)
    refine jOk.ofe rfl (Nat.le_of_ble_eq_true rfl) (en_aiiiii_7 (E := E)) ?_
    refine j_iload_n 1 rfl rfl dX5_copy_0 ?_
    refine jS1i 4 rfl dX5_copy_1 lk_X5_85 rfl rfl (m_isSheet (by omega)) (fun r1 H1 ⟨eh_, hr1⟩ => ?_)
    obtain rfl := eh_.symm
    refine j_if_eq 14 7 (by decide) rfl dX5_copy_4 (by intro hR; first | omega | exact hR _ _ | exact jb_r _ | exact hR0 _ _ | assumption) (fun h4 => ?_) (fun h4 => ?_)
    · refine j_bipush 16 rfl rfl dX5_copy_14 ?_
      refine j_ireti dX5_copy_16 rfl ?_
      exact Or.inl ⟨hok, rfl, rfl⟩
    · refine j_iload_n 8 rfl rfl dX5_copy_7 ?_
      refine jS1i 11 rfl dX5_copy_8 lk_X5_85 rfl rfl (m_isSheet (by omega)) (fun r8 H1 ⟨eh_, hr8⟩ => ?_)
      obtain rfl := eh_.symm
      refine j_if_ne 17 14 (by decide) rfl dX5_copy_11 (by intro hR; first | omega | exact hR _ _ | exact jb_r _ | exact hR0 _ _ | assumption) (fun h11 => ?_) (fun h11 => ?_)
      · exfalso; omega
      · refine j_bipush 16 rfl rfl dX5_copy_14 ?_
        refine j_ireti dX5_copy_16 rfl ?_
        exact Or.inl ⟨hok, rfl, rfl⟩
  have hzs := hz s hok.1 hok.2.1
  have hzt := hz t hok.2.2.1 hok.2.2.2
  have c1 := jCmp_r (i + n) (H 58 s)
  have c2 := jCmp_r (j + n) (H 58 t)
  have c3 := jCmp_gt (i + n) (H 58 s)
  have c4 := jCmp_gt (j + n) (H 58 t)
  refine jOk.rng (fun hR0 => ?_)
  refine jOk.ofe rfl (Nat.le_of_ble_eq_true rfl) (en_aiiiii_7 (E := E)) ?_
  have main : (0 ≤ H 57 s ∧ 0 ≤ H 57 t ∧ H 57 s = H 57 t) → (0 ≤ i ∧ 0 ≤ j ∧ 0 ≤ n ∧ i + n ≤ H 58 s ∧ j + n ≤ H 58 t) → jWP E mX5_copy (jQi fun r H' => (¬ (0 ≤ s ∧ s < 4 ∧ 0 ≤ t ∧ t < 4) ∧ r = -2 ∧ H' = H) ∨ ((0 ≤ s ∧ s < 4 ∧ 0 ≤ t ∧ t < 4) ∧ (H 57 s < 0 ∨ H 57 t < 0) ∧ r = -11 ∧ H' = jU H 56 4 1) ∨ ((0 ≤ s ∧ s < 4 ∧ 0 ≤ t ∧ t < 4) ∧ (0 ≤ H 57 s ∧ 0 ≤ H 57 t) ∧ H 57 s ≠ H 57 t ∧ r = -14 ∧ H' = jU H 56 4 4) ∨ ((0 ≤ s ∧ s < 4 ∧ 0 ≤ t ∧ t < 4) ∧ (0 ≤ H 57 s ∧ 0 ≤ H 57 t ∧ H 57 s = H 57 t) ∧ ¬ (0 ≤ i ∧ 0 ≤ j ∧ 0 ≤ n ∧ i + n ≤ H 58 s ∧ j + n ≤ H 58 t) ∧ r = -12 ∧ H' = jU H 56 4 2) ∨ ((0 ≤ s ∧ s < 4 ∧ 0 ≤ t ∧ t < 4) ∧ (0 ≤ H 57 s ∧ 0 ≤ H 57 t ∧ H 57 s = H 57 t) ∧ (0 ≤ i ∧ 0 ≤ j ∧ 0 ≤ n ∧ i + n ≤ H 58 s ∧ j + n ≤ H 58 t) ∧ r = 1 ∧ (∀ k, k ≠ 59 → k ≠ 60 → H' k = H k) ∧ ∀ q, H' 59 q = if 60 * t + j ≤ q ∧ q < 60 * t + j + n then H 59 (60 * s + i + (q - (60 * t + j))) else H 59 q)) 117 [some (jRF E 56), some (.int (jI s)), some (.int (jI i)), some (.int (jI t)), some (.int (jI j)), some (.int (jI n)), none] [] H := by
    intro g1 g2
    have l2 := jUp 0 n (fun a => jWP E mX5_copy (jQi fun r H' => (¬ (0 ≤ s ∧ s < 4 ∧ 0 ≤ t ∧ t < 4) ∧ r = -2 ∧ H' = H) ∨ ((0 ≤ s ∧ s < 4 ∧ 0 ≤ t ∧ t < 4) ∧ (H 57 s < 0 ∨ H 57 t < 0) ∧ r = -11 ∧ H' = jU H 56 4 1) ∨ ((0 ≤ s ∧ s < 4 ∧ 0 ≤ t ∧ t < 4) ∧ (0 ≤ H 57 s ∧ 0 ≤ H 57 t) ∧ H 57 s ≠ H 57 t ∧ r = -14 ∧ H' = jU H 56 4 4) ∨ ((0 ≤ s ∧ s < 4 ∧ 0 ≤ t ∧ t < 4) ∧ (0 ≤ H 57 s ∧ 0 ≤ H 57 t ∧ H 57 s = H 57 t) ∧ ¬ (0 ≤ i ∧ 0 ≤ j ∧ 0 ≤ n ∧ i + n ≤ H 58 s ∧ j + n ≤ H 58 t) ∧ r = -12 ∧ H' = jU H 56 4 2) ∨ ((0 ≤ s ∧ s < 4 ∧ 0 ≤ t ∧ t < 4) ∧ (0 ≤ H 57 s ∧ 0 ≤ H 57 t ∧ H 57 s = H 57 t) ∧ (0 ≤ i ∧ 0 ≤ j ∧ 0 ≤ n ∧ i + n ≤ H 58 s ∧ j + n ≤ H 58 t) ∧ r = 1 ∧ (∀ k, k ≠ 59 → k ≠ 60 → H' k = H k) ∧ ∀ q, H' 59 q = if 60 * t + j ≤ q ∧ q < 60 * t + j + n then H 59 (60 * s + i + (q - (60 * t + j))) else H 59 q)) 157 [some (jRF E 56), some (.int (jI s)), some (.int (jI i)), some (.int (jI t)), some (.int (jI j)), some (.int (jI n)), some (.int (jI a))] [] (jMr (jMr H 60 0 n (fun a => H 59 (60 * s + i + a))) 59 (60 * t + j) a (fun a => H 59 (60 * s + i + a)))) ?_ ?_ 0 (by omega) (by omega)
    · have l1 := jUp 0 n (fun a => jWP E mX5_copy (jQi fun r H' => (¬ (0 ≤ s ∧ s < 4 ∧ 0 ≤ t ∧ t < 4) ∧ r = -2 ∧ H' = H) ∨ ((0 ≤ s ∧ s < 4 ∧ 0 ≤ t ∧ t < 4) ∧ (H 57 s < 0 ∨ H 57 t < 0) ∧ r = -11 ∧ H' = jU H 56 4 1) ∨ ((0 ≤ s ∧ s < 4 ∧ 0 ≤ t ∧ t < 4) ∧ (0 ≤ H 57 s ∧ 0 ≤ H 57 t) ∧ H 57 s ≠ H 57 t ∧ r = -14 ∧ H' = jU H 56 4 4) ∨ ((0 ≤ s ∧ s < 4 ∧ 0 ≤ t ∧ t < 4) ∧ (0 ≤ H 57 s ∧ 0 ≤ H 57 t ∧ H 57 s = H 57 t) ∧ ¬ (0 ≤ i ∧ 0 ≤ j ∧ 0 ≤ n ∧ i + n ≤ H 58 s ∧ j + n ≤ H 58 t) ∧ r = -12 ∧ H' = jU H 56 4 2) ∨ ((0 ≤ s ∧ s < 4 ∧ 0 ≤ t ∧ t < 4) ∧ (0 ≤ H 57 s ∧ 0 ≤ H 57 t ∧ H 57 s = H 57 t) ∧ (0 ≤ i ∧ 0 ≤ j ∧ 0 ≤ n ∧ i + n ≤ H 58 s ∧ j + n ≤ H 58 t) ∧ r = 1 ∧ (∀ k, k ≠ 59 → k ≠ 60 → H' k = H k) ∧ ∀ q, H' 59 q = if 60 * t + j ≤ q ∧ q < 60 * t + j + n then H 59 (60 * s + i + (q - (60 * t + j))) else H 59 q)) 120 [some (jRF E 56), some (.int (jI s)), some (.int (jI i)), some (.int (jI t)), some (.int (jI j)), some (.int (jI n)), some (.int (jI a))] [] (jMr H 60 0 a (fun a => H 59 (60 * s + i + a)))) ?_ ?_ 0 (by omega) (by omega)
      · rw [jMr_0] at l1
        refine j_iconst 118 rfl dX5_copy_117 ?_
        refine j_istore 120 rfl st_7_6 (by decide) rfl dX5_copy_118 ?_
        exact l1
      · refine j_iload 122 rfl rfl dX5_copy_120 ?_
        refine j_iload 124 rfl rfl dX5_copy_122 ?_
        refine j_icmp_ge 154 127 (by decide) rfl dX5_copy_124 (by intro hR; first | omega | exact hR _ _ | exact jb_r _ | exact hR0 _ _ | assumption) (by intro hR; first | omega | exact hR _ _ | exact jb_r _ | exact hR0 _ _ | assumption) (fun h1 => ?_) (fun h1 => ?_)
        · refine j_iconst 155 rfl dX5_copy_154 ?_
          refine j_istore 157 rfl st_7_6 (by decide) rfl dX5_copy_155 ?_
          rw [jMr_0] at l2
          exact l2
        · exfalso; omega
      · intro a a0 a1 ih
        rw [← jMr_s _ _ _ _ a0, Int.zero_add] at ih
        refine j_iload 122 rfl rfl dX5_copy_120 ?_
        refine j_iload 124 rfl rfl dX5_copy_122 ?_
        refine j_icmp_ge 154 127 (by decide) rfl dX5_copy_124 (by intro hR; first | omega | exact hR _ _ | exact jb_r _ | exact hR0 _ _ | assumption) (by intro hR; first | omega | exact hR _ _ | exact jb_r _ | exact hR0 _ _ | assumption) (fun h1 => ?_) (fun h1 => ?_)
        · exfalso; omega
        · refine j_aload_n 128 rfl rfl dX5_copy_127 ?_
          refine j_getr 131 rfl 3 fl_X5_19 dX5_copy_128 (by decide) ( rfl) ( rfl) ?_
          refine j_iload 133 rfl rfl dX5_copy_131 ?_
          refine j_aload_n 134 rfl rfl dX5_copy_133 ?_
          refine j_getr 137 rfl 2 fl_X5_16 dX5_copy_134 (by decide) ( rfl) ( rfl) ?_
          refine j_bipush 139 rfl rfl dX5_copy_137 ?_
          refine j_iload_n 140 rfl rfl dX5_copy_139 ?_
          refine j_imul 141 rfl dX5_copy_140 ?_
          refine j_iload_n 142 rfl rfl dX5_copy_141 ?_
          refine j_iadd 143 rfl dX5_copy_142 ?_
          refine j_iload 145 rfl rfl dX5_copy_143 ?_
          refine j_iadd 146 rfl dX5_copy_145 ?_
          refine j_iald 147 rfl dX5_copy_146 (by decide) rfl (by decide) rfl (by omega) ?_
          rw [jMr_k (by decide)]
          refine j_iast 148 rfl dX5_copy_147 (by decide) rfl (by decide) rfl (by omega) (by intro hR; first | omega | exact hR _ _ | exact jb_r _ | exact hR0 _ _ | assumption) ?_
          refine j_iinc 151 rfl rfl st_7_6 (by decide) rfl dX5_copy_148 ?_
          refine j_goto 120 (by decide) dX5_copy_151 ?_
          exact ih
    · refine j_iload 159 rfl rfl dX5_copy_157 ?_
      refine j_iload 161 rfl rfl dX5_copy_159 ?_
      refine j_icmp_ge 192 164 (by decide) rfl dX5_copy_161 (by intro hR; first | omega | exact hR _ _ | exact jb_r _ | exact hR0 _ _ | assumption) (by intro hR; first | omega | exact hR _ _ | exact jb_r _ | exact hR0 _ _ | assumption) (fun h1 => ?_) (fun h1 => ?_)
      · refine j_iconst 193 rfl dX5_copy_192 ?_
        refine j_ireti dX5_copy_193 rfl ?_
        refine Or.inr (Or.inr (Or.inr (Or.inr ⟨hok, g1, g2, rfl, fun k a b => by rw [jMr_o a, jMr_o b], fun q => ?_⟩)))
        by_cases e : 60 * t + j ≤ q ∧ q < 60 * t + j + n
        · rw [if_pos e, jMr_i e.1 e.2]
        · rw [if_neg e, jMr_n (by omega), jMr_k (by decide)]
      · exfalso; omega
    · intro a a0 a1 ih
      rw [← jMr_s _ _ _ _ a0] at ih
      refine j_iload 159 rfl rfl dX5_copy_157 ?_
      refine j_iload 161 rfl rfl dX5_copy_159 ?_
      refine j_icmp_ge 192 164 (by decide) rfl dX5_copy_161 (by intro hR; first | omega | exact hR _ _ | exact jb_r _ | exact hR0 _ _ | assumption) (by intro hR; first | omega | exact hR _ _ | exact jb_r _ | exact hR0 _ _ | assumption) (fun h1 => ?_) (fun h1 => ?_)
      · exfalso; omega
      · refine j_aload_n 165 rfl rfl dX5_copy_164 ?_
        refine j_getr 168 rfl 2 fl_X5_16 dX5_copy_165 (by decide) ( rfl) ( rfl) ?_
        refine j_bipush 170 rfl rfl dX5_copy_168 ?_
        refine j_iload_n 171 rfl rfl dX5_copy_170 ?_
        refine j_imul 172 rfl dX5_copy_171 ?_
        refine j_iload 174 rfl rfl dX5_copy_172 ?_
        refine j_iadd 175 rfl dX5_copy_174 ?_
        refine j_iload 177 rfl rfl dX5_copy_175 ?_
        refine j_iadd 178 rfl dX5_copy_177 ?_
        refine j_aload_n 179 rfl rfl dX5_copy_178 ?_
        refine j_getr 182 rfl 3 fl_X5_19 dX5_copy_179 (by decide) ( rfl) ( rfl) ?_
        refine j_iload 184 rfl rfl dX5_copy_182 ?_
        refine j_iald 185 rfl dX5_copy_184 (by decide) rfl (by decide) rfl (by omega) ?_
        rw [jMr_k (by decide), jMr_i a0 (by omega), show a - 0 = a by omega]
        refine j_iast 186 rfl dX5_copy_185 (by decide) rfl (by decide) rfl (by omega) (by intro hR; first | omega | exact hR _ _ | exact jb_r _ | exact hR0 _ _ | assumption) ?_
        refine j_iinc 189 rfl rfl st_7_6 (by decide) rfl dX5_copy_186 ?_
        refine j_goto 157 (by decide) dX5_copy_189 ?_
        exact ih
  refine j_iload_n 1 rfl rfl dX5_copy_0 ?_
  refine jS1i 4 rfl dX5_copy_1 lk_X5_85 rfl rfl (m_isSheet (by omega)) (fun r1 H1 ⟨eh_, hr1⟩ => ?_)
  obtain rfl := eh_.symm
  refine j_if_eq 14 7 (by decide) rfl dX5_copy_4 (by intro hR; first | omega | exact hR _ _ | exact jb_r _ | exact hR0 _ _ | assumption) (fun h4 => ?_) (fun h4 => ?_)
  · exfalso; omega
  refine j_iload_n 8 rfl rfl dX5_copy_7 ?_
  refine jS1i 11 rfl dX5_copy_8 lk_X5_85 rfl rfl (m_isSheet (by omega)) (fun r8 H1 ⟨eh_, hr8⟩ => ?_)
  obtain rfl := eh_.symm
  refine j_if_ne 17 14 (by decide) rfl dX5_copy_11 (by intro hR; first | omega | exact hR _ _ | exact jb_r _ | exact hR0 _ _ | assumption) (fun h11 => ?_) (fun h11 => ?_)
  rotate_left
  · exfalso; omega
  refine j_aload_n 18 rfl rfl dX5_copy_17 ?_
  refine j_getr 21 rfl 0 fl_X5_7 dX5_copy_18 (by decide) ( rfl) ( rfl) ?_
  refine j_iload_n 22 rfl rfl dX5_copy_21 ?_
  refine j_iald 23 rfl dX5_copy_22 (by decide) rfl (by decide) rfl (by omega) ?_
  refine j_if_lt 35 26 (by decide) rfl dX5_copy_23 (by intro hR; first | omega | exact hR _ _ | exact jb_r _ | exact hR0 _ _ | assumption) (fun h23 => ?_) (fun h23 => ?_)
  · refine j_aload_n 36 rfl rfl dX5_copy_35 ?_
    refine j_iconst 37 rfl dX5_copy_36 ?_
    refine jV1i 40 rfl dX5_copy_37 lk_X5_91 rfl rfl (by decide) ( rfl) ( rfl) (m_finds (by omega)) (fun r37 H1 ⟨e, hr37⟩ => ?_)
    subst e
    refine j_ireti dX5_copy_40 rfl ?_
    first | exact Or.inr (Or.inl ⟨hok, by omega, by omega, rfl⟩) | exact Or.inr (Or.inr (Or.inl ⟨hok, by omega, by omega, by omega, rfl⟩)) | exact Or.inr (Or.inr (Or.inr (Or.inl ⟨hok, by omega, by omega, by omega, rfl⟩)))
  · refine j_aload_n 27 rfl rfl dX5_copy_26 ?_
    refine j_getr 30 rfl 0 fl_X5_7 dX5_copy_27 (by decide) ( rfl) ( rfl) ?_
    refine j_iload_n 31 rfl rfl dX5_copy_30 ?_
    refine j_iald 32 rfl dX5_copy_31 (by decide) rfl (by decide) rfl (by omega) ?_
    refine j_if_ge 41 35 (by decide) rfl dX5_copy_32 (by intro hR; first | omega | exact hR _ _ | exact jb_r _ | exact hR0 _ _ | assumption) (fun h32 => ?_) (fun h32 => ?_)
    · refine j_aload_n 42 rfl rfl dX5_copy_41 ?_
      refine j_getr 45 rfl 0 fl_X5_7 dX5_copy_42 (by decide) ( rfl) ( rfl) ?_
      refine j_iload_n 46 rfl rfl dX5_copy_45 ?_
      refine j_iald 47 rfl dX5_copy_46 (by decide) rfl (by decide) rfl (by omega) ?_
      refine j_aload_n 48 rfl rfl dX5_copy_47 ?_
      refine j_getr 51 rfl 0 fl_X5_7 dX5_copy_48 (by decide) ( rfl) ( rfl) ?_
      refine j_iload_n 52 rfl rfl dX5_copy_51 ?_
      refine j_iald 53 rfl dX5_copy_52 (by decide) rfl (by decide) rfl (by omega) ?_
      refine j_icmp_eq 62 56 (by decide) rfl dX5_copy_53 (by intro hR; first | omega | exact hR _ _ | exact jb_r _ | exact hR0 _ _ | assumption) (by intro hR; first | omega | exact hR _ _ | exact jb_r _ | exact hR0 _ _ | assumption) (fun h53 => ?_) (fun h53 => ?_)
      · refine j_iload_n 63 rfl rfl dX5_copy_62 ?_
        refine j_if_lt 111 66 (by decide) rfl dX5_copy_63 (by intro hR; first | omega | exact hR _ _ | exact jb_r _ | exact hR0 _ _ | assumption) (fun h63 => ?_) (fun h63 => ?_)
        · refine j_aload_n 112 rfl rfl dX5_copy_111 ?_
          refine j_iconst 113 rfl dX5_copy_112 ?_
          refine jV1i 116 rfl dX5_copy_113 lk_X5_91 rfl rfl (by decide) ( rfl) ( rfl) (m_finds (by omega)) (fun r113 H1 ⟨e, hr113⟩ => ?_)
          subst e
          refine j_ireti dX5_copy_116 rfl ?_
          first | exact Or.inr (Or.inl ⟨hok, by omega, by omega, rfl⟩) | exact Or.inr (Or.inr (Or.inl ⟨hok, by omega, by omega, by omega, rfl⟩)) | exact Or.inr (Or.inr (Or.inr (Or.inl ⟨hok, by omega, by omega, by omega, rfl⟩)))
        · refine j_iload 68 rfl rfl dX5_copy_66 ?_
          refine j_if_lt 111 71 (by decide) rfl dX5_copy_68 (by intro hR; first | omega | exact hR _ _ | exact jb_r _ | exact hR0 _ _ | assumption) (fun h68 => ?_) (fun h68 => ?_)
          · refine j_aload_n 112 rfl rfl dX5_copy_111 ?_
            refine j_iconst 113 rfl dX5_copy_112 ?_
            refine jV1i 116 rfl dX5_copy_113 lk_X5_91 rfl rfl (by decide) ( rfl) ( rfl) (m_finds (by omega)) (fun r113 H1 ⟨e, hr113⟩ => ?_)
            subst e
            refine j_ireti dX5_copy_116 rfl ?_
            first | exact Or.inr (Or.inl ⟨hok, by omega, by omega, rfl⟩) | exact Or.inr (Or.inr (Or.inl ⟨hok, by omega, by omega, by omega, rfl⟩)) | exact Or.inr (Or.inr (Or.inr (Or.inl ⟨hok, by omega, by omega, by omega, rfl⟩)))
          · refine j_iload 73 rfl rfl dX5_copy_71 ?_
            refine j_if_lt 111 76 (by decide) rfl dX5_copy_73 (by intro hR; first | omega | exact hR _ _ | exact jb_r _ | exact hR0 _ _ | assumption) (fun h73 => ?_) (fun h73 => ?_)
            · refine j_aload_n 112 rfl rfl dX5_copy_111 ?_
              refine j_iconst 113 rfl dX5_copy_112 ?_
              refine jV1i 116 rfl dX5_copy_113 lk_X5_91 rfl rfl (by decide) ( rfl) ( rfl) (m_finds (by omega)) (fun r113 H1 ⟨e, hr113⟩ => ?_)
              subst e
              refine j_ireti dX5_copy_116 rfl ?_
              first | exact Or.inr (Or.inl ⟨hok, by omega, by omega, rfl⟩) | exact Or.inr (Or.inr (Or.inl ⟨hok, by omega, by omega, by omega, rfl⟩)) | exact Or.inr (Or.inr (Or.inr (Or.inl ⟨hok, by omega, by omega, by omega, rfl⟩)))
            · refine j_iload_n 77 rfl rfl dX5_copy_76 ?_
              refine j_i2l 78 rfl (by intro hR; first | omega | exact hR _ _ | exact jb_r _ | exact hR0 _ _ | assumption) dX5_copy_77 ?_
              refine j_iload 80 rfl rfl dX5_copy_78 ?_
              refine j_i2l 81 rfl (by intro hR; first | omega | exact hR _ _ | exact jb_r _ | exact hR0 _ _ | assumption) dX5_copy_80 ?_
              refine j_ladd 82 rfl dX5_copy_81 ?_
              refine j_aload_n 83 rfl rfl dX5_copy_82 ?_
              refine j_getr 86 rfl 1 fl_X5_13 dX5_copy_83 (by decide) ( rfl) ( rfl) ?_
              refine j_iload_n 87 rfl rfl dX5_copy_86 ?_
              refine j_iald 88 rfl dX5_copy_87 (by decide) rfl (by decide) rfl (by omega) ?_
              refine j_i2l 89 rfl (by intro hR; first | omega | exact hR _ _ | exact jb_r _ | exact hR0 _ _ | assumption) dX5_copy_88 ?_
              refine j_lcmp 90 rfl dX5_copy_89 (by intro hR; first | omega | exact jb_r64 _ | (have := hR; omega)) (by intro hR; first | omega | exact jb_r64 _ | (have := hR; omega)) ?_
              refine j_if_gt 111 93 (by decide) rfl dX5_copy_90 (by intro hR; first | omega | exact hR _ _ | exact jb_r _ | exact hR0 _ _ | assumption) (fun h90 => ?_) (fun h90 => ?_)
              · refine j_aload_n 112 rfl rfl dX5_copy_111 ?_
                refine j_iconst 113 rfl dX5_copy_112 ?_
                refine jV1i 116 rfl dX5_copy_113 lk_X5_91 rfl rfl (by decide) ( rfl) ( rfl) (m_finds (by omega)) (fun r113 H1 ⟨e, hr113⟩ => ?_)
                subst e
                refine j_ireti dX5_copy_116 rfl ?_
                first | exact Or.inr (Or.inl ⟨hok, by omega, by omega, rfl⟩) | exact Or.inr (Or.inr (Or.inl ⟨hok, by omega, by omega, by omega, rfl⟩)) | exact Or.inr (Or.inr (Or.inr (Or.inl ⟨hok, by omega, by omega, by omega, rfl⟩)))
              · refine j_iload 95 rfl rfl dX5_copy_93 ?_
                refine j_i2l 96 rfl (by intro hR; first | omega | exact hR _ _ | exact jb_r _ | exact hR0 _ _ | assumption) dX5_copy_95 ?_
                refine j_iload 98 rfl rfl dX5_copy_96 ?_
                refine j_i2l 99 rfl (by intro hR; first | omega | exact hR _ _ | exact jb_r _ | exact hR0 _ _ | assumption) dX5_copy_98 ?_
                refine j_ladd 100 rfl dX5_copy_99 ?_
                refine j_aload_n 101 rfl rfl dX5_copy_100 ?_
                refine j_getr 104 rfl 1 fl_X5_13 dX5_copy_101 (by decide) ( rfl) ( rfl) ?_
                refine j_iload_n 105 rfl rfl dX5_copy_104 ?_
                refine j_iald 106 rfl dX5_copy_105 (by decide) rfl (by decide) rfl (by omega) ?_
                refine j_i2l 107 rfl (by intro hR; first | omega | exact hR _ _ | exact jb_r _ | exact hR0 _ _ | assumption) dX5_copy_106 ?_
                refine j_lcmp 108 rfl dX5_copy_107 (by intro hR; first | omega | exact jb_r64 _ | (have := hR; omega)) (by intro hR; first | omega | exact jb_r64 _ | (have := hR; omega)) ?_
                refine j_if_le 117 111 (by decide) rfl dX5_copy_108 (by intro hR; first | omega | exact hR _ _ | exact jb_r _ | exact hR0 _ _ | assumption) (fun h108 => ?_) (fun h108 => ?_)
                · exact main (by omega) (by omega)
                · refine j_aload_n 112 rfl rfl dX5_copy_111 ?_
                  refine j_iconst 113 rfl dX5_copy_112 ?_
                  refine jV1i 116 rfl dX5_copy_113 lk_X5_91 rfl rfl (by decide) ( rfl) ( rfl) (m_finds (by omega)) (fun r113 H1 ⟨e, hr113⟩ => ?_)
                  subst e
                  refine j_ireti dX5_copy_116 rfl ?_
                  first | exact Or.inr (Or.inl ⟨hok, by omega, by omega, rfl⟩) | exact Or.inr (Or.inr (Or.inl ⟨hok, by omega, by omega, by omega, rfl⟩)) | exact Or.inr (Or.inr (Or.inr (Or.inl ⟨hok, by omega, by omega, by omega, rfl⟩)))
      · refine j_aload_n 57 rfl rfl dX5_copy_56 ?_
        refine j_iconst 58 rfl dX5_copy_57 ?_
        refine jV1i 61 rfl dX5_copy_58 lk_X5_91 rfl rfl (by decide) ( rfl) ( rfl) (m_finds (by omega)) (fun r58 H1 ⟨e, hr58⟩ => ?_)
        subst e
        refine j_ireti dX5_copy_61 rfl ?_
        first | exact Or.inr (Or.inl ⟨hok, by omega, by omega, rfl⟩) | exact Or.inr (Or.inr (Or.inl ⟨hok, by omega, by omega, by omega, rfl⟩)) | exact Or.inr (Or.inr (Or.inr (Or.inl ⟨hok, by omega, by omega, by omega, rfl⟩)))
    · refine j_aload_n 36 rfl rfl dX5_copy_35 ?_
      refine j_iconst 37 rfl dX5_copy_36 ?_
      refine jV1i 40 rfl dX5_copy_37 lk_X5_91 rfl rfl (by decide) ( rfl) ( rfl) (m_finds (by omega)) (fun r37 H1 ⟨e, hr37⟩ => ?_)
      subst e
      refine j_ireti dX5_copy_40 rfl ?_
      first | exact Or.inr (Or.inl ⟨hok, by omega, by omega, rfl⟩) | exact Or.inr (Or.inr (Or.inl ⟨hok, by omega, by omega, by omega, rfl⟩)) | exact Or.inr (Or.inr (Or.inr (Or.inl ⟨hok, by omega, by omega, by omega, rfl⟩)))
-- X5_type
theorem m_type {b : Int} (hb : -2147483648 ≤ b ∧ b ≤ 2147483647) (hn : 0 ≤ H 56 6 ∧ H 56 6 ≤ 35) : jOk E mX5_type [jRF E 56, .int (jI b)] H (jQi fun r H' => (¬ (0 ≤ b ∧ b < 256) ∧ r = -2 ∧ H' = H) ∨ ((0 ≤ b ∧ b < 256) ∧ H 56 6 = 35 ∧ r = -4 ∧ H' = H) ∨ ((0 ≤ b ∧ b < 256) ∧ H 56 6 < 35 ∧ r = H 56 6 + 1 ∧ H' = jU (jU H 61 (H 56 6) b) 56 6 (H 56 6 + 1))) := by
  refine jOk.rng (fun hR0 => ?_)
  refine jOk.ofe rfl (Nat.le_of_ble_eq_true rfl) (en_ai_2 (E := E)) ?_
  refine j_iload_n 1 rfl rfl dX5_type_0 ?_
  refine j_i2l 2 rfl (by intro hR; first | omega | exact hR _ _ | exact jb_r _ | exact hR0 _ _ | assumption) dX5_type_1 ?_
  refine j_lconst 3 rfl (x := 0) rfl dX5_type_2 ?_
  refine j_ldc2 6 rfl kc_X5_104 dX5_type_3 ?_
  refine jS3i 9 rfl dX5_type_6 lk_X5_75 rfl rfl (m_in (by omega) (by omega) (by omega)) (fun r6 H1 ⟨eh_, hr6⟩ => ?_)
  obtain rfl := eh_.symm
  refine j_if_ne 15 12 (by decide) rfl dX5_type_9 (by intro hR; first | omega | exact hR _ _ | exact jb_r _ | exact hR0 _ _ | assumption) (fun h9 => ?_) (fun h9 => ?_)
  · refine j_aload_n 16 rfl rfl dX5_type_15 ?_
    refine g_geti 19 rfl 6 6 rfl fl_X5_106 dX5_type_16 (by decide) ( rfl) ( rfl) ?_
    refine j_bipush 21 rfl rfl dX5_type_19 ?_
    refine j_icmp_ne 27 24 (by decide) rfl dX5_type_21 (by intro hR; first | omega | exact hR _ _ | exact jb_r _ | exact hR0 _ _ | assumption) (by intro hR; first | omega | exact hR _ _ | exact jb_r _ | exact hR0 _ _ | assumption) (fun h21 => ?_) (fun h21 => ?_)
    · refine j_aload_n 28 rfl rfl dX5_type_27 ?_
      refine j_getr 31 rfl 5 fl_X5_22 dX5_type_28 (by decide) ( rfl) ( rfl) ?_
      refine j_aload_n 32 rfl rfl dX5_type_31 ?_
      refine g_geti 35 rfl 6 6 rfl fl_X5_106 dX5_type_32 (by decide) ( rfl) ( rfl) ?_
      refine j_iload_n 36 rfl rfl dX5_type_35 ?_
      refine j_iast 37 rfl dX5_type_36 (by decide) rfl (by decide) rfl (by omega) (by intro hR; first | omega | exact hR _ _ | exact jb_r _ | exact hR0 _ _ | assumption) ?_
      refine j_aload_n 38 rfl rfl dX5_type_37 ?_
      refine j_dup 39 rfl rfl dX5_type_38 ?_
      refine g_geti 42 rfl 6 6 rfl fl_X5_106 dX5_type_39 (by decide) ( rfl) ( rfl) ?_
      try simp (disch := omega) only [jU_s, jU_k, jU_i]
      refine j_iconst 43 rfl dX5_type_42 ?_
      refine j_iadd 44 rfl dX5_type_43 ?_
      refine g_puti 47 rfl 6 6 rfl fl_X5_106 ft_5_6 dX5_type_44 (by decide) ( rfl) ( rfl) (by intro hR; first | omega | exact hR _ _ | exact jb_r _ | exact hR0 _ _ | assumption) ?_
      refine j_aload_n 48 rfl rfl dX5_type_47 ?_
      refine g_geti 51 rfl 6 6 rfl fl_X5_106 dX5_type_48 (by decide) ( rfl) ( rfl) ?_
      try simp (disch := omega) only [jU_s, jU_k, jU_i]
      refine j_ireti dX5_type_51 rfl ?_
      first | exact Or.inl ⟨by omega, by omega, rfl⟩ | exact Or.inr (Or.inl ⟨by omega, by omega, by omega, rfl⟩) | exact Or.inr (Or.inr ⟨by omega, by omega, by omega, rfl⟩)
    · refine j_bipush 26 rfl rfl dX5_type_24 ?_
      refine j_ireti dX5_type_26 rfl ?_
      first | exact Or.inl ⟨by omega, by omega, rfl⟩ | exact Or.inr (Or.inl ⟨by omega, by omega, by omega, rfl⟩) | exact Or.inr (Or.inr ⟨by omega, by omega, by omega, rfl⟩)
  · refine j_bipush 14 rfl rfl dX5_type_12 ?_
    refine j_ireti dX5_type_14 rfl ?_
    first | exact Or.inl ⟨by omega, by omega, rfl⟩ | exact Or.inr (Or.inl ⟨by omega, by omega, by omega, rfl⟩) | exact Or.inr (Or.inr ⟨by omega, by omega, by omega, rfl⟩)
-- X5_wipe
theorem m_wipe : jOk E mX5_wipe [jRF E 56] H (jQi fun r H' => r = H 56 6 ∧ H' = jU H 56 6 0) := by
  refine jOk.rng (fun hR0 => ?_)
  refine jOk.ofe rfl (Nat.le_of_ble_eq_true rfl) (en_a_2 (E := E)) ?_
  refine j_aload_n 1 rfl rfl dX5_wipe_0 ?_
  refine g_geti 4 rfl 6 6 rfl fl_X5_106 dX5_wipe_1 (by decide) ( rfl) ( rfl) ?_
  refine j_istore_n 5 rfl st_2_1 (by decide) rfl dX5_wipe_4 ?_
  refine j_aload_n 6 rfl rfl dX5_wipe_5 ?_
  refine j_iconst 7 rfl dX5_wipe_6 ?_
  refine g_puti 10 rfl 6 6 rfl fl_X5_106 ft_5_6 dX5_wipe_7 (by decide) ( rfl) ( rfl) (by intro hR; first | omega | exact hR _ _ | exact jb_r _ | exact hR0 _ _ | assumption) ?_
  refine j_iload_n 11 rfl rfl dX5_wipe_10 ?_
  refine j_ireti dX5_wipe_11 rfl ?_
  exact ⟨rfl, rfl⟩
-- X5_undo
theorem m_undo (hn : 0 ≤ H 56 6 ∧ H 56 6 ≤ 35) : jOk E mX5_undo [jRF E 56] H (jQi fun r H' => (H 56 6 = 0 ∧ r = -3 ∧ H' = H) ∨ (0 < H 56 6 ∧ r = H 56 6 - 1 ∧ H' = jU H 56 6 (H 56 6 - 1))) := by
  refine jOk.rng (fun hR0 => ?_)
  refine jOk.ofe rfl (Nat.le_of_ble_eq_true rfl) (en_a_1 (E := E)) ?_
  refine j_aload_n 1 rfl rfl dX5_undo_0 ?_
  refine g_geti 4 rfl 6 6 rfl fl_X5_106 dX5_undo_1 (by decide) ( rfl) ( rfl) ?_
  refine j_if_ne 10 7 (by decide) rfl dX5_undo_4 (by intro hR; first | omega | exact hR _ _ | exact jb_r _ | exact hR0 _ _ | assumption) (fun h4 => ?_) (fun h4 => ?_)
  · refine j_aload_n 11 rfl rfl dX5_undo_10 ?_
    refine j_dup 12 rfl rfl dX5_undo_11 ?_
    refine g_geti 15 rfl 6 6 rfl fl_X5_106 dX5_undo_12 (by decide) ( rfl) ( rfl) ?_
    refine j_iconst 16 rfl dX5_undo_15 ?_
    refine j_isub 17 rfl dX5_undo_16 ?_
    refine g_puti 20 rfl 6 6 rfl fl_X5_106 ft_5_6 dX5_undo_17 (by decide) ( rfl) ( rfl) (by intro hR; first | omega | exact hR _ _ | exact jb_r _ | exact hR0 _ _ | assumption) ?_
    refine j_aload_n 21 rfl rfl dX5_undo_20 ?_
    refine g_geti 24 rfl 6 6 rfl fl_X5_106 dX5_undo_21 (by decide) ( rfl) ( rfl) ?_
    try simp (disch := omega) only [jU_s, jU_k, jU_i]
    refine j_ireti dX5_undo_24 rfl ?_
    first | exact Or.inl ⟨by omega, by omega, rfl⟩ | exact Or.inr ⟨by omega, by omega, rfl⟩
  · refine j_bipush 9 rfl rfl dX5_undo_7 ?_
    refine j_ireti dX5_undo_9 rfl ?_
    first | exact Or.inl ⟨by omega, by omega, rfl⟩ | exact Or.inr ⟨by omega, by omega, rfl⟩
-- X5_place
theorem m_place {x : Int} (hx : -2147483648 ≤ x ∧ x ≤ 2147483647) : jOk E mX5_place [jRF E 56, .int (jI x)] H (jQi fun r H' => H' = H ∧ ((0 ≤ x ∧ x < 9 ∧ r = H 63 x) ∨ (¬ (0 ≤ x ∧ x < 9) ∧ r = -2))) := by
  refine jOk.rng (fun hR0 => ?_)
  refine jOk.ofe rfl (Nat.le_of_ble_eq_true rfl) (en_ai_2 (E := E)) ?_
  refine j_iload_n 1 rfl rfl dX5_place_0 ?_
  refine jS1i 4 rfl dX5_place_1 lk_X5_137 rfl rfl (m_isAny (by omega)) (fun r1 H1 ⟨eh_, hr1⟩ => ?_)
  obtain rfl := eh_.symm
  refine j_if_eq 16 7 (by decide) rfl dX5_place_4 (by intro hR; first | omega | exact hR _ _ | exact jb_r _ | exact hR0 _ _ | assumption) (fun h4 => ?_) (fun h4 => ?_)
  · refine j_bipush 18 rfl rfl dX5_place_16 ?_
    refine j_ireti dX5_place_18 rfl ?_
    exact ⟨rfl, by omega⟩
  · refine j_aload_n 8 rfl rfl dX5_place_7 ?_
    refine j_getr 11 rfl 10 fl_X5_28 dX5_place_8 (by decide) ( rfl) ( rfl) ?_
    refine j_iload_n 12 rfl rfl dX5_place_11 ?_
    refine j_iald 13 rfl dX5_place_12 (by decide) rfl (by decide) rfl (by omega) ?_
    refine j_goto 18 (by decide) dX5_place_13 ?_
    refine j_ireti dX5_place_18 rfl ?_
    exact ⟨rfl, by omega⟩
-- X5_swap
theorem m_swap {a b : Int} (ha : -2147483648 ≤ a ∧ a ≤ 2147483647) (hb : -2147483648 ≤ b ∧ b ≤ 2147483647) : jOk E mX5_swap [jRF E 56, .int (jI a), .int (jI b)] H (jQi fun r H' => (¬ (0 ≤ a ∧ a < 9 ∧ 0 ≤ b ∧ b < 9) ∧ r = -2 ∧ H' = H) ∨ ((0 ≤ a ∧ a < 9 ∧ 0 ≤ b ∧ b < 9) ∧ ((a = b ∧ r = 0) ∨ (a ≠ b ∧ r = 1)) ∧ H' = jU (jU H 63 a (H 63 b)) 63 b (H 63 a))) := by
  refine jOk.rng (fun hR0 => ?_)
  refine jOk.ofe rfl (Nat.le_of_ble_eq_true rfl) (en_aii_4 (E := E)) ?_
  refine j_iload_n 1 rfl rfl dX5_swap_0 ?_
  refine jS1i 4 rfl dX5_swap_1 lk_X5_137 rfl rfl (m_isAny (by omega)) (fun r1 H1 ⟨eh_, hr1⟩ => ?_)
  obtain rfl := eh_.symm
  refine j_if_eq 14 7 (by decide) rfl dX5_swap_4 (by intro hR; first | omega | exact hR _ _ | exact jb_r _ | exact hR0 _ _ | assumption) (fun h4 => ?_) (fun h4 => ?_)
  · refine j_bipush 16 rfl rfl dX5_swap_14 ?_
    refine j_ireti dX5_swap_16 rfl ?_
    first | exact Or.inl ⟨by omega, rfl, rfl⟩ | exact Or.inr ⟨by omega, by omega, rfl⟩
  · refine j_iload_n 8 rfl rfl dX5_swap_7 ?_
    refine jS1i 11 rfl dX5_swap_8 lk_X5_137 rfl rfl (m_isAny (by omega)) (fun r8 H1 ⟨eh_, hr8⟩ => ?_)
    obtain rfl := eh_.symm
    refine j_if_ne 17 14 (by decide) rfl dX5_swap_11 (by intro hR; first | omega | exact hR _ _ | exact jb_r _ | exact hR0 _ _ | assumption) (fun h11 => ?_) (fun h11 => ?_)
    · refine j_aload_n 18 rfl rfl dX5_swap_17 ?_
      refine j_getr 21 rfl 10 fl_X5_28 dX5_swap_18 (by decide) ( rfl) ( rfl) ?_
      refine j_iload_n 22 rfl rfl dX5_swap_21 ?_
      refine j_iald 23 rfl dX5_swap_22 (by decide) rfl (by decide) rfl (by omega) ?_
      refine j_istore_n 24 rfl st_4_3 (by decide) rfl dX5_swap_23 ?_
      refine j_aload_n 25 rfl rfl dX5_swap_24 ?_
      refine j_getr 28 rfl 10 fl_X5_28 dX5_swap_25 (by decide) ( rfl) ( rfl) ?_
      refine j_iload_n 29 rfl rfl dX5_swap_28 ?_
      refine j_aload_n 30 rfl rfl dX5_swap_29 ?_
      refine j_getr 33 rfl 10 fl_X5_28 dX5_swap_30 (by decide) ( rfl) ( rfl) ?_
      refine j_iload_n 34 rfl rfl dX5_swap_33 ?_
      refine j_iald 35 rfl dX5_swap_34 (by decide) rfl (by decide) rfl (by omega) ?_
      refine j_iast 36 rfl dX5_swap_35 (by decide) rfl (by decide) rfl (by omega) (by intro hR; first | omega | exact hR _ _ | exact jb_r _ | exact hR0 _ _ | assumption) ?_
      refine j_aload_n 37 rfl rfl dX5_swap_36 ?_
      refine j_getr 40 rfl 10 fl_X5_28 dX5_swap_37 (by decide) ( rfl) ( rfl) ?_
      refine j_iload_n 41 rfl rfl dX5_swap_40 ?_
      refine j_iload_n 42 rfl rfl dX5_swap_41 ?_
      refine j_iast 43 rfl dX5_swap_42 (by decide) rfl (by decide) rfl (by omega) (by intro hR; first | omega | exact hR _ _ | exact jb_r _ | exact hR0 _ _ | assumption) ?_
      refine j_iload_n 44 rfl rfl dX5_swap_43 ?_
      refine j_iload_n 45 rfl rfl dX5_swap_44 ?_
      refine j_icmp_ne 52 48 (by decide) rfl dX5_swap_45 (by intro hR; first | omega | exact hR _ _ | exact jb_r _ | exact hR0 _ _ | assumption) (by intro hR; first | omega | exact hR _ _ | exact jb_r _ | exact hR0 _ _ | assumption) (fun h45 => ?_) (fun h45 => ?_)
      · refine j_iconst 53 rfl dX5_swap_52 ?_
        refine j_ireti dX5_swap_53 rfl ?_
        first | exact Or.inl ⟨by omega, rfl, rfl⟩ | exact Or.inr ⟨by omega, by omega, rfl⟩
      · refine j_iconst 49 rfl dX5_swap_48 ?_
        refine j_goto 53 (by decide) dX5_swap_49 ?_
        refine j_ireti dX5_swap_53 rfl ?_
        first | exact Or.inl ⟨by omega, rfl, rfl⟩ | exact Or.inr ⟨by omega, by omega, rfl⟩
    · refine j_bipush 16 rfl rfl dX5_swap_14 ?_
      refine j_ireti dX5_swap_16 rfl ?_
      first | exact Or.inl ⟨by omega, rfl, rfl⟩ | exact Or.inr ⟨by omega, by omega, rfl⟩
-- X5_lids
theorem m_lids {a : Int} (ha : -2147483648 ≤ a ∧ a ≤ 2147483647) : jOk E mX5_lids [jRF E 56, .int (jI a)] H (jQi fun r H' => (¬ (0 ≤ a ∧ a < 512) ∧ r = -2 ∧ H' = H) ∨ ((0 ≤ a ∧ a < 512) ∧ r = H 56 11 ∧ H' = jU H 56 11 a)) := by
  refine jOk.rng (fun hR0 => ?_)
  refine jOk.ofe rfl (Nat.le_of_ble_eq_true rfl) (en_ai_3 (E := E)) ?_
  refine j_iload_n 1 rfl rfl dX5_lids_0 ?_
  refine j_i2l 2 rfl (by intro hR; first | omega | exact hR _ _ | exact jb_r _ | exact hR0 _ _ | assumption) dX5_lids_1 ?_
  refine j_lconst 3 rfl (x := 0) rfl dX5_lids_2 ?_
  refine j_ldc2 6 rfl kc_X5_140 dX5_lids_3 ?_
  refine jS3i 9 rfl dX5_lids_6 lk_X5_75 rfl rfl (m_in (by omega) (by omega) (by omega)) (fun r6 H1 ⟨eh_, hr6⟩ => ?_)
  obtain rfl := eh_.symm
  refine j_if_ne 15 12 (by decide) rfl dX5_lids_9 (by intro hR; first | omega | exact hR _ _ | exact jb_r _ | exact hR0 _ _ | assumption) (fun h9 => ?_) (fun h9 => ?_)
  · refine j_aload_n 16 rfl rfl dX5_lids_15 ?_
    refine g_geti 19 rfl 11 11 rfl fl_X5_142 dX5_lids_16 (by decide) ( rfl) ( rfl) ?_
    refine j_istore_n 20 rfl st_3_2 (by decide) rfl dX5_lids_19 ?_
    refine j_aload_n 21 rfl rfl dX5_lids_20 ?_
    refine j_iload_n 22 rfl rfl dX5_lids_21 ?_
    refine g_puti 25 rfl 11 11 rfl fl_X5_142 ft_5_11 dX5_lids_22 (by decide) ( rfl) ( rfl) (by intro hR; first | omega | exact hR _ _ | exact jb_r _ | exact hR0 _ _ | assumption) ?_
    refine j_iload_n 26 rfl rfl dX5_lids_25 ?_
    refine j_ireti dX5_lids_26 rfl ?_
    first | exact Or.inl ⟨by omega, by omega, rfl⟩ | exact Or.inr ⟨by omega, by omega, rfl⟩
  · refine j_bipush 14 rfl rfl dX5_lids_12 ?_
    refine j_ireti dX5_lids_14 rfl ?_
    first | exact Or.inl ⟨by omega, by omega, rfl⟩ | exact Or.inr ⟨by omega, by omega, rfl⟩
-- X5_tell
theorem m_tell {a b c : Int} (ha : -2147483648 ≤ a ∧ a ≤ 2147483647) (hb : -2147483648 ≤ b ∧ b ≤ 2147483647) (hc : -2147483648 ≤ c ∧ c ≤ 2147483647) (hn : 0 ≤ H 56 12 ∧ H 56 12 ≤ 24) : jOk E mX5_tell [jRF E 56, .int (jI a), .int (jI b), .int (jI c)] H (jQi fun r H' => (¬ may3 a b c ∧ r = -2 ∧ H' = H) ∨ (may3 a b c ∧ H 56 12 = 24 ∧ r = -4 ∧ H' = H) ∨ (may3 a b c ∧ H 56 12 < 24 ∧ r = H 56 12 + 1 ∧ H' = jU (jU (jU (jU H 64 (3 * H 56 12) a) 64 (3 * H 56 12 + 1) b) 64 (3 * H 56 12 + 2) c) 56 12 (H 56 12 + 1))) := by
  unfold may3
  refine jOk.rng (fun hR0 => ?_)
  refine jOk.ofe rfl (Nat.le_of_ble_eq_true rfl) (en_aiii_4 (E := E)) ?_
  refine j_iload_n 1 rfl rfl dX5_tell_0 ?_
  refine jS1i 4 rfl dX5_tell_1 lk_X5_145 rfl rfl (m_isStep (by omega)) (fun r1 H1 ⟨eh_, hr1⟩ => ?_)
  obtain rfl := eh_.symm
  refine j_if_eq 26 7 (by decide) rfl dX5_tell_4 (by intro hR; first | omega | exact hR _ _ | exact jb_r _ | exact hR0 _ _ | assumption) (fun h4 => ?_) (fun h4 => ?_)
  · refine j_bipush 28 rfl rfl dX5_tell_26 ?_
    refine j_ireti dX5_tell_28 rfl ?_
    first | exact Or.inl ⟨by omega, by omega, rfl⟩ | exact Or.inr (Or.inl ⟨by omega, by omega, by omega, rfl⟩) | exact Or.inr (Or.inr ⟨by omega, by omega, by omega, rfl⟩)
  · refine j_iload_n 8 rfl rfl dX5_tell_7 ?_
    refine jS1i 11 rfl dX5_tell_8 lk_X5_137 rfl rfl (m_isAny (by omega)) (fun r8 H1 ⟨eh_, hr8⟩ => ?_)
    obtain rfl := eh_.symm
    refine j_if_eq 26 14 (by decide) rfl dX5_tell_11 (by intro hR; first | omega | exact hR _ _ | exact jb_r _ | exact hR0 _ _ | assumption) (fun h11 => ?_) (fun h11 => ?_)
    · refine j_bipush 28 rfl rfl dX5_tell_26 ?_
      refine j_ireti dX5_tell_28 rfl ?_
      first | exact Or.inl ⟨by omega, by omega, rfl⟩ | exact Or.inr (Or.inl ⟨by omega, by omega, by omega, rfl⟩) | exact Or.inr (Or.inr ⟨by omega, by omega, by omega, rfl⟩)
    · refine j_iload_n 15 rfl rfl dX5_tell_14 ?_
      refine j_i2l 16 rfl (by intro hR; first | omega | exact hR _ _ | exact jb_r _ | exact hR0 _ _ | assumption) dX5_tell_15 ?_
      refine j_lconst 17 rfl (x := 0) rfl dX5_tell_16 ?_
      refine j_ldc2 20 rfl kc_X5_89 dX5_tell_17 ?_
      refine jS3i 23 rfl dX5_tell_20 lk_X5_75 rfl rfl (m_in (by omega) (by omega) (by omega)) (fun r20 H1 ⟨eh_, hr20⟩ => ?_)
      obtain rfl := eh_.symm
      refine j_if_ne 29 26 (by decide) rfl dX5_tell_23 (by intro hR; first | omega | exact hR _ _ | exact jb_r _ | exact hR0 _ _ | assumption) (fun h23 => ?_) (fun h23 => ?_)
      · refine j_aload_n 30 rfl rfl dX5_tell_29 ?_
        refine g_geti 33 rfl 12 12 rfl fl_X5_148 dX5_tell_30 (by decide) ( rfl) ( rfl) ?_
        refine j_bipush 35 rfl rfl dX5_tell_33 ?_
        refine j_icmp_ne 41 38 (by decide) rfl dX5_tell_35 (by intro hR; first | omega | exact hR _ _ | exact jb_r _ | exact hR0 _ _ | assumption) (by intro hR; first | omega | exact hR _ _ | exact jb_r _ | exact hR0 _ _ | assumption) (fun h35 => ?_) (fun h35 => ?_)
        · refine j_aload_n 42 rfl rfl dX5_tell_41 ?_
          refine j_getr 45 rfl 13 fl_X5_31 dX5_tell_42 (by decide) ( rfl) ( rfl) ?_
          refine j_iconst 46 rfl dX5_tell_45 ?_
          refine j_aload_n 47 rfl rfl dX5_tell_46 ?_
          refine g_geti 50 rfl 12 12 rfl fl_X5_148 dX5_tell_47 (by decide) ( rfl) ( rfl) ?_
          refine j_imul 51 rfl dX5_tell_50 ?_
          refine j_iload_n 52 rfl rfl dX5_tell_51 ?_
          refine j_iast 53 rfl dX5_tell_52 (by decide) rfl (by decide) rfl (by omega) (by intro hR; first | omega | exact hR _ _ | exact jb_r _ | exact hR0 _ _ | assumption) ?_
          refine j_aload_n 54 rfl rfl dX5_tell_53 ?_
          refine j_getr 57 rfl 13 fl_X5_31 dX5_tell_54 (by decide) ( rfl) ( rfl) ?_
          refine j_iconst 58 rfl dX5_tell_57 ?_
          refine j_aload_n 59 rfl rfl dX5_tell_58 ?_
          refine g_geti 62 rfl 12 12 rfl fl_X5_148 dX5_tell_59 (by decide) ( rfl) ( rfl) ?_
          try simp (disch := omega) only [jU_s, jU_k, jU_i]
          refine j_imul 63 rfl dX5_tell_62 ?_
          refine j_iconst 64 rfl dX5_tell_63 ?_
          refine j_iadd 65 rfl dX5_tell_64 ?_
          refine j_iload_n 66 rfl rfl dX5_tell_65 ?_
          refine j_iast 67 rfl dX5_tell_66 (by decide) rfl (by decide) rfl (by omega) (by intro hR; first | omega | exact hR _ _ | exact jb_r _ | exact hR0 _ _ | assumption) ?_
          refine j_aload_n 68 rfl rfl dX5_tell_67 ?_
          refine j_getr 71 rfl 13 fl_X5_31 dX5_tell_68 (by decide) ( rfl) ( rfl) ?_
          refine j_iconst 72 rfl dX5_tell_71 ?_
          refine j_aload_n 73 rfl rfl dX5_tell_72 ?_
          refine g_geti 76 rfl 12 12 rfl fl_X5_148 dX5_tell_73 (by decide) ( rfl) ( rfl) ?_
          try simp (disch := omega) only [jU_s, jU_k, jU_i]
          refine j_imul 77 rfl dX5_tell_76 ?_
          refine j_iconst 78 rfl dX5_tell_77 ?_
          refine j_iadd 79 rfl dX5_tell_78 ?_
          refine j_iload_n 80 rfl rfl dX5_tell_79 ?_
          refine j_iast 81 rfl dX5_tell_80 (by decide) rfl (by decide) rfl (by omega) (by intro hR; first | omega | exact hR _ _ | exact jb_r _ | exact hR0 _ _ | assumption) ?_
          refine j_aload_n 82 rfl rfl dX5_tell_81 ?_
          refine j_dup 83 rfl rfl dX5_tell_82 ?_
          refine g_geti 86 rfl 12 12 rfl fl_X5_148 dX5_tell_83 (by decide) ( rfl) ( rfl) ?_
          try simp (disch := omega) only [jU_s, jU_k, jU_i]
          refine j_iconst 87 rfl dX5_tell_86 ?_
          refine j_iadd 88 rfl dX5_tell_87 ?_
          refine g_puti 91 rfl 12 12 rfl fl_X5_148 ft_5_12 dX5_tell_88 (by decide) ( rfl) ( rfl) (by intro hR; first | omega | exact hR _ _ | exact jb_r _ | exact hR0 _ _ | assumption) ?_
          refine j_aload_n 92 rfl rfl dX5_tell_91 ?_
          refine g_geti 95 rfl 12 12 rfl fl_X5_148 dX5_tell_92 (by decide) ( rfl) ( rfl) ?_
          try simp (disch := omega) only [jU_s, jU_k, jU_i]
          refine j_ireti dX5_tell_95 rfl ?_
          first | exact Or.inl ⟨by omega, by omega, rfl⟩ | exact Or.inr (Or.inl ⟨by omega, by omega, by omega, rfl⟩) | exact Or.inr (Or.inr ⟨by omega, by omega, by omega, rfl⟩)
        · refine j_bipush 40 rfl rfl dX5_tell_38 ?_
          refine j_ireti dX5_tell_40 rfl ?_
          first | exact Or.inl ⟨by omega, by omega, rfl⟩ | exact Or.inr (Or.inl ⟨by omega, by omega, by omega, rfl⟩) | exact Or.inr (Or.inr ⟨by omega, by omega, by omega, rfl⟩)
      · refine j_bipush 28 rfl rfl dX5_tell_26 ?_
        refine j_ireti dX5_tell_28 rfl ?_
        first | exact Or.inl ⟨by omega, by omega, rfl⟩ | exact Or.inr (Or.inl ⟨by omega, by omega, by omega, rfl⟩) | exact Or.inr (Or.inr ⟨by omega, by omega, by omega, rfl⟩)
-- X5_back
theorem m_back (hn : 0 ≤ H 56 12 ∧ H 56 12 ≤ 24) : jOk E mX5_back [jRF E 56] H (jQi fun r H' => (H 56 12 = 0 ∧ r = -3 ∧ H' = H) ∨ (0 < H 56 12 ∧ r = H 56 12 - 1 ∧ H' = jU H 56 12 (H 56 12 - 1))) := by
  refine jOk.rng (fun hR0 => ?_)
  refine jOk.ofe rfl (Nat.le_of_ble_eq_true rfl) (en_a_1 (E := E)) ?_
  refine j_aload_n 1 rfl rfl dX5_back_0 ?_
  refine g_geti 4 rfl 12 12 rfl fl_X5_148 dX5_back_1 (by decide) ( rfl) ( rfl) ?_
  refine j_if_ne 10 7 (by decide) rfl dX5_back_4 (by intro hR; first | omega | exact hR _ _ | exact jb_r _ | exact hR0 _ _ | assumption) (fun h4 => ?_) (fun h4 => ?_)
  · refine j_aload_n 11 rfl rfl dX5_back_10 ?_
    refine j_dup 12 rfl rfl dX5_back_11 ?_
    refine g_geti 15 rfl 12 12 rfl fl_X5_148 dX5_back_12 (by decide) ( rfl) ( rfl) ?_
    refine j_iconst 16 rfl dX5_back_15 ?_
    refine j_isub 17 rfl dX5_back_16 ?_
    refine g_puti 20 rfl 12 12 rfl fl_X5_148 ft_5_12 dX5_back_17 (by decide) ( rfl) ( rfl) (by intro hR; first | omega | exact hR _ _ | exact jb_r _ | exact hR0 _ _ | assumption) ?_
    refine j_aload_n 21 rfl rfl dX5_back_20 ?_
    refine g_geti 24 rfl 12 12 rfl fl_X5_148 dX5_back_21 (by decide) ( rfl) ( rfl) ?_
    try simp (disch := omega) only [jU_s, jU_k, jU_i]
    refine j_ireti dX5_back_24 rfl ?_
    first | exact Or.inl ⟨by omega, by omega, rfl⟩ | exact Or.inr ⟨by omega, by omega, rfl⟩
  · refine j_bipush 9 rfl rfl dX5_back_7 ?_
    refine j_ireti dX5_back_9 rfl ?_
    first | exact Or.inl ⟨by omega, by omega, rfl⟩ | exact Or.inr ⟨by omega, by omega, rfl⟩
-- X5_heard
theorem m_heard {a b : Int} (ha : -2147483648 ≤ a ∧ a ≤ 2147483647) (hb : -2147483648 ≤ b ∧ b ≤ 2147483647) (hn : 0 ≤ H 56 26 ∧ H 56 26 ≤ 8) : jOk E mX5_heard [jRF E 56, .int (jI a), .int (jI b)] H (jQi fun r H' => (¬ (0 ≤ a ∧ a < 60 ∧ 0 ≤ b ∧ b ≤ 9) ∧ r = -2 ∧ H' = H) ∨ ((0 ≤ a ∧ a < 60 ∧ 0 ≤ b ∧ b ≤ 9) ∧ H 56 26 = 8 ∧ r = -4 ∧ H' = H) ∨ ((0 ≤ a ∧ a < 60 ∧ 0 ≤ b ∧ b ≤ 9) ∧ H 56 26 < 8 ∧ r = H 56 26 + 1 ∧ H' = jU (jU (jU H 76 (2 * H 56 26) a) 76 (2 * H 56 26 + 1) b) 56 26 (H 56 26 + 1))) := by
  refine jOk.rng (fun hR0 => ?_)
  refine jOk.ofe rfl (Nat.le_of_ble_eq_true rfl) (en_aii_3 (E := E)) ?_
  refine j_iload_n 1 rfl rfl dX5_heard_0 ?_
  refine jS1i 4 rfl dX5_heard_1 lk_X5_145 rfl rfl (m_isStep (by omega)) (fun r1 H1 ⟨eh_, hr1⟩ => ?_)
  obtain rfl := eh_.symm
  refine j_if_eq 19 7 (by decide) rfl dX5_heard_4 (by intro hR; first | omega | exact hR _ _ | exact jb_r _ | exact hR0 _ _ | assumption) (fun h4 => ?_) (fun h4 => ?_)
  · refine j_bipush 21 rfl rfl dX5_heard_19 ?_
    refine j_ireti dX5_heard_21 rfl ?_
    first | exact Or.inl ⟨by omega, by omega, rfl⟩ | exact Or.inr (Or.inl ⟨by omega, by omega, by omega, rfl⟩) | exact Or.inr (Or.inr ⟨by omega, by omega, by omega, rfl⟩)
  · refine j_iload_n 8 rfl rfl dX5_heard_7 ?_
    refine j_i2l 9 rfl (by intro hR; first | omega | exact hR _ _ | exact jb_r _ | exact hR0 _ _ | assumption) dX5_heard_8 ?_
    refine j_lconst 10 rfl (x := 0) rfl dX5_heard_9 ?_
    refine j_ldc2 13 rfl kc_X5_234 dX5_heard_10 ?_
    refine jS3i 16 rfl dX5_heard_13 lk_X5_75 rfl rfl (m_in (by omega) (by omega) (by omega)) (fun r13 H1 ⟨eh_, hr13⟩ => ?_)
    obtain rfl := eh_.symm
    refine j_if_ne 22 19 (by decide) rfl dX5_heard_16 (by intro hR; first | omega | exact hR _ _ | exact jb_r _ | exact hR0 _ _ | assumption) (fun h16 => ?_) (fun h16 => ?_)
    · refine j_aload_n 23 rfl rfl dX5_heard_22 ?_
      refine g_geti 26 rfl 26 26 rfl fl_X5_236 dX5_heard_23 (by decide) ( rfl) ( rfl) ?_
      refine j_bipush 28 rfl rfl dX5_heard_26 ?_
      refine j_icmp_ne 34 31 (by decide) rfl dX5_heard_28 (by intro hR; first | omega | exact hR _ _ | exact jb_r _ | exact hR0 _ _ | assumption) (by intro hR; first | omega | exact hR _ _ | exact jb_r _ | exact hR0 _ _ | assumption) (fun h28 => ?_) (fun h28 => ?_)
      · refine j_aload_n 35 rfl rfl dX5_heard_34 ?_
        refine j_getr 38 rfl 27 fl_X5_67 dX5_heard_35 (by decide) ( rfl) ( rfl) ?_
        refine j_iconst 39 rfl dX5_heard_38 ?_
        refine j_aload_n 40 rfl rfl dX5_heard_39 ?_
        refine g_geti 43 rfl 26 26 rfl fl_X5_236 dX5_heard_40 (by decide) ( rfl) ( rfl) ?_
        refine j_imul 44 rfl dX5_heard_43 ?_
        refine j_iload_n 45 rfl rfl dX5_heard_44 ?_
        refine j_iast 46 rfl dX5_heard_45 (by decide) rfl (by decide) rfl (by omega) (by intro hR; first | omega | exact hR _ _ | exact jb_r _ | exact hR0 _ _ | assumption) ?_
        refine j_aload_n 47 rfl rfl dX5_heard_46 ?_
        refine j_getr 50 rfl 27 fl_X5_67 dX5_heard_47 (by decide) ( rfl) ( rfl) ?_
        refine j_iconst 51 rfl dX5_heard_50 ?_
        refine j_aload_n 52 rfl rfl dX5_heard_51 ?_
        refine g_geti 55 rfl 26 26 rfl fl_X5_236 dX5_heard_52 (by decide) ( rfl) ( rfl) ?_
        try simp (disch := omega) only [jU_s, jU_k, jU_i]
        refine j_imul 56 rfl dX5_heard_55 ?_
        refine j_iconst 57 rfl dX5_heard_56 ?_
        refine j_iadd 58 rfl dX5_heard_57 ?_
        refine j_iload_n 59 rfl rfl dX5_heard_58 ?_
        refine j_iast 60 rfl dX5_heard_59 (by decide) rfl (by decide) rfl (by omega) (by intro hR; first | omega | exact hR _ _ | exact jb_r _ | exact hR0 _ _ | assumption) ?_
        refine j_aload_n 61 rfl rfl dX5_heard_60 ?_
        refine j_dup 62 rfl rfl dX5_heard_61 ?_
        refine g_geti 65 rfl 26 26 rfl fl_X5_236 dX5_heard_62 (by decide) ( rfl) ( rfl) ?_
        try simp (disch := omega) only [jU_s, jU_k, jU_i]
        refine j_iconst 66 rfl dX5_heard_65 ?_
        refine j_iadd 67 rfl dX5_heard_66 ?_
        refine g_puti 70 rfl 26 26 rfl fl_X5_236 ft_5_26 dX5_heard_67 (by decide) ( rfl) ( rfl) (by intro hR; first | omega | exact hR _ _ | exact jb_r _ | exact hR0 _ _ | assumption) ?_
        refine j_aload_n 71 rfl rfl dX5_heard_70 ?_
        refine g_geti 74 rfl 26 26 rfl fl_X5_236 dX5_heard_71 (by decide) ( rfl) ( rfl) ?_
        try simp (disch := omega) only [jU_s, jU_k, jU_i]
        refine j_ireti dX5_heard_74 rfl ?_
        first | exact Or.inl ⟨by omega, by omega, rfl⟩ | exact Or.inr (Or.inl ⟨by omega, by omega, by omega, rfl⟩) | exact Or.inr (Or.inr ⟨by omega, by omega, by omega, rfl⟩)
      · refine j_bipush 33 rfl rfl dX5_heard_31 ?_
        refine j_ireti dX5_heard_33 rfl ?_
        first | exact Or.inl ⟨by omega, by omega, rfl⟩ | exact Or.inr (Or.inl ⟨by omega, by omega, by omega, rfl⟩) | exact Or.inr (Or.inr ⟨by omega, by omega, by omega, rfl⟩)
    · refine j_bipush 21 rfl rfl dX5_heard_19 ?_
      refine j_ireti dX5_heard_21 rfl ?_
      first | exact Or.inl ⟨by omega, by omega, rfl⟩ | exact Or.inr (Or.inl ⟨by omega, by omega, by omega, rfl⟩) | exact Or.inr (Or.inr ⟨by omega, by omega, by omega, rfl⟩)
-- X5_forget
theorem m_forget : jOk E mX5_forget [jRF E 56] H (jQi fun r H' => r = H 56 26 ∧ H' = jU H 56 26 0) := by
  refine jOk.rng (fun hR0 => ?_)
  refine jOk.ofe rfl (Nat.le_of_ble_eq_true rfl) (en_a_2 (E := E)) ?_
  refine j_aload_n 1 rfl rfl dX5_forget_0 ?_
  refine g_geti 4 rfl 26 26 rfl fl_X5_236 dX5_forget_1 (by decide) ( rfl) ( rfl) ?_
  refine j_istore_n 5 rfl st_2_1 (by decide) rfl dX5_forget_4 ?_
  refine j_aload_n 6 rfl rfl dX5_forget_5 ?_
  refine j_iconst 7 rfl dX5_forget_6 ?_
  refine g_puti 10 rfl 26 26 rfl fl_X5_236 ft_5_26 dX5_forget_7 (by decide) ( rfl) ( rfl) (by intro hR; first | omega | exact hR _ _ | exact jb_r _ | exact hR0 _ _ | assumption) ?_
  refine j_iload_n 11 rfl rfl dX5_forget_10 ?_
  refine j_ireti dX5_forget_11 rfl ?_
  exact ⟨rfl, rfl⟩
end S33
