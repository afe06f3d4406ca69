section S10
variable {E : jE} {H : jH}
-- X4_isNumber
theorem s_isNumber {x : Int} (hx : -2147483648 ≤ x ∧ x ≤ 2147483647) : jOk E mX4_isNumber [.int (jI x)] H (jQi fun r H' => H' = H ∧ ((r = 1 ∧ 0 ≤ x ∧ x < 9) ∨ (r = 0 ∧ ¬ (0 ≤ x ∧ x < 9)))) := by
  refine jOk.rng (fun hR0 => ?_)
  refine jOk.ofe rfl (Nat.le_of_ble_eq_true rfl) (en_i_1 (E := E)) ?_
  refine j_iload_n 1 rfl rfl dX4_isNumber_0 ?_
  refine j_if_lt 14 4 (by decide) rfl dX4_isNumber_1 (by intro hR; first | omega | exact hR _ _ | exact jb_r _ | exact hR0 _ _ | assumption) (fun h1 => ?_) (fun h1 => ?_)
  · refine j_iconst 15 rfl dX4_isNumber_14 ?_
    refine j_zreti dX4_isNumber_15 rfl (by first | decide | omega) ?_
    exact ⟨rfl, by omega⟩
  · refine j_iload_n 5 rfl rfl dX4_isNumber_4 ?_
    refine j_bipush 7 rfl rfl dX4_isNumber_5 ?_
    refine j_icmp_ge 14 10 (by decide) rfl dX4_isNumber_7 (by intro hR; first | omega | exact hR _ _ | exact jb_r _ | exact hR0 _ _ | assumption) (by intro hR; first | omega | exact hR _ _ | exact jb_r _ | exact hR0 _ _ | assumption) (fun h7 => ?_) (fun h7 => ?_)
    · refine j_iconst 15 rfl dX4_isNumber_14 ?_
      refine j_zreti dX4_isNumber_15 rfl (by first | decide | omega) ?_
      exact ⟨rfl, by omega⟩
    · refine j_iconst 11 rfl dX4_isNumber_10 ?_
      refine j_goto 15 (by decide) dX4_isNumber_11 ?_
      refine j_zreti dX4_isNumber_15 rfl (by first | decide | omega) ?_
      exact ⟨rfl, by omega⟩
-- X4_isStep
theorem s_isStep {x : Int} (hx : -2147483648 ≤ x ∧ x ≤ 2147483647) : jOk E mX4_isStep [.int (jI x)] H (jQi fun r H' => H' = H ∧ ((r = 1 ∧ 0 ≤ x ∧ x < 60) ∨ (r = 0 ∧ ¬ (0 ≤ x ∧ x < 60)))) := by
  refine jOk.rng (fun hR0 => ?_)
  refine jOk.ofe rfl (Nat.le_of_ble_eq_true rfl) (en_i_1 (E := E)) ?_
  refine j_iload_n 1 rfl rfl dX4_isStep_0 ?_
  refine j_if_lt 14 4 (by decide) rfl dX4_isStep_1 (by intro hR; first | omega | exact hR _ _ | exact jb_r _ | exact hR0 _ _ | assumption) (fun h1 => ?_) (fun h1 => ?_)
  · refine j_iconst 15 rfl dX4_isStep_14 ?_
    refine j_zreti dX4_isStep_15 rfl (by first | decide | omega) ?_
    exact ⟨rfl, by omega⟩
  · refine j_iload_n 5 rfl rfl dX4_isStep_4 ?_
    refine j_bipush 7 rfl rfl dX4_isStep_5 ?_
    refine j_icmp_ge 14 10 (by decide) rfl dX4_isStep_7 (by intro hR; first | omega | exact hR _ _ | exact jb_r _ | exact hR0 _ _ | assumption) (by intro hR; first | omega | exact hR _ _ | exact jb_r _ | exact hR0 _ _ | assumption) (fun h7 => ?_) (fun h7 => ?_)
    · refine j_iconst 15 rfl dX4_isStep_14 ?_
      refine j_zreti dX4_isStep_15 rfl (by first | decide | omega) ?_
      exact ⟨rfl, by omega⟩
    · refine j_iconst 11 rfl dX4_isStep_10 ?_
      refine j_goto 15 (by decide) dX4_isStep_11 ?_
      refine j_zreti dX4_isStep_15 rfl (by first | decide | omega) ?_
      exact ⟨rfl, by omega⟩
-- X4_isEither
theorem s_isEither {x : Int} (hx : -2147483648 ≤ x ∧ x ≤ 2147483647) : jOk E mX4_isEither [.int (jI x)] H (jQi fun r H' => H' = H ∧ ((r = 1 ∧ (x = 0 ∨ x = 1)) ∨ (r = 0 ∧ ¬ (x = 0 ∨ x = 1)))) := by
  refine jOk.rng (fun hR0 => ?_)
  refine jOk.ofe rfl (Nat.le_of_ble_eq_true rfl) (en_i_1 (E := E)) ?_
  refine j_iload_n 1 rfl rfl dX4_isEither_0 ?_
  refine j_if_eq 9 4 (by decide) rfl dX4_isEither_1 (by intro hR; first | omega | exact hR _ _ | exact jb_r _ | exact hR0 _ _ | assumption) (fun h1 => ?_) (fun h1 => ?_)
  · refine j_iconst 10 rfl dX4_isEither_9 ?_
    refine j_goto 14 (by decide) dX4_isEither_10 ?_
    refine j_zreti dX4_isEither_14 rfl (by first | decide | omega) ?_
    exact ⟨rfl, by omega⟩
  · refine j_iload_n 5 rfl rfl dX4_isEither_4 ?_
    refine j_iconst 6 rfl dX4_isEither_5 ?_
    refine j_icmp_ne 13 9 (by decide) rfl dX4_isEither_6 (by intro hR; first | omega | exact hR _ _ | exact jb_r _ | exact hR0 _ _ | assumption) (by intro hR; first | omega | exact hR _ _ | exact jb_r _ | exact hR0 _ _ | assumption) (fun h6 => ?_) (fun h6 => ?_)
    · refine j_iconst 14 rfl dX4_isEither_13 ?_
      refine j_zreti dX4_isEither_14 rfl (by first | decide | omega) ?_
      exact ⟨rfl, by omega⟩
    · refine j_iconst 10 rfl dX4_isEither_9 ?_
      refine j_goto 14 (by decide) dX4_isEither_10 ?_
      refine j_zreti dX4_isEither_14 rfl (by first | decide | omega) ?_
      exact ⟨rfl, by omega⟩
-- X4_isSheet
theorem s_isSheet {x : Int} (hx : -2147483648 ≤ x ∧ x ≤ 2147483647) : jOk E mX4_isSheet [.int (jI x)] H (jQi fun r H' => H' = H ∧ ((r = 1 ∧ 0 ≤ x ∧ x < 4) ∨ (r = 0 ∧ ¬ (0 ≤ x ∧ x < 4)))) := by
  refine jOk.rng (fun hR0 => ?_)
  refine jOk.ofe rfl (Nat.le_of_ble_eq_true rfl) (en_i_1 (E := E)) ?_
  refine j_iload_n 1 rfl rfl dX4_isSheet_0 ?_
  refine j_if_lt 13 4 (by decide) rfl dX4_isSheet_1 (by intro hR; first | omega | exact hR _ _ | exact jb_r _ | exact hR0 _ _ | assumption) (fun h1 => ?_) (fun h1 => ?_)
  · refine j_iconst 14 rfl dX4_isSheet_13 ?_
    refine j_zreti dX4_isSheet_14 rfl (by first | decide | omega) ?_
    exact ⟨rfl, by omega⟩
  · refine j_iload_n 5 rfl rfl dX4_isSheet_4 ?_
    refine j_iconst 6 rfl dX4_isSheet_5 ?_
    refine j_icmp_ge 13 9 (by decide) rfl dX4_isSheet_6 (by intro hR; first | omega | exact hR _ _ | exact jb_r _ | exact hR0 _ _ | assumption) (by intro hR; first | omega | exact hR _ _ | exact jb_r _ | exact hR0 _ _ | assumption) (fun h6 => ?_) (fun h6 => ?_)
    · refine j_iconst 14 rfl dX4_isSheet_13 ?_
      refine j_zreti dX4_isSheet_14 rfl (by first | decide | omega) ?_
      exact ⟨rfl, by omega⟩
    · refine j_iconst 10 rfl dX4_isSheet_9 ?_
      refine j_goto 14 (by decide) dX4_isSheet_10 ?_
      refine j_zreti dX4_isSheet_14 rfl (by first | decide | omega) ?_
      exact ⟨rfl, by omega⟩
-- X4_isForm
theorem s_isForm {x : Int} (hx : -2147483648 ≤ x ∧ x ≤ 2147483647) : jOk E mX4_isForm [.int (jI x)] H (jQi fun r H' => H' = H ∧ ((r = 1 ∧ 0 ≤ x ∧ x < 3) ∨ (r = 0 ∧ ¬ (0 ≤ x ∧ x < 3)))) := by
  refine jOk.rng (fun hR0 => ?_)
  refine jOk.ofe rfl (Nat.le_of_ble_eq_true rfl) (en_i_1 (E := E)) ?_
  refine j_iload_n 1 rfl rfl dX4_isForm_0 ?_
  refine j_if_lt 13 4 (by decide) rfl dX4_isForm_1 (by intro hR; first | omega | exact hR _ _ | exact jb_r _ | exact hR0 _ _ | assumption) (fun h1 => ?_) (fun h1 => ?_)
  · refine j_iconst 14 rfl dX4_isForm_13 ?_
    refine j_zreti dX4_isForm_14 rfl (by first | decide | omega) ?_
    exact ⟨rfl, by omega⟩
  · refine j_iload_n 5 rfl rfl dX4_isForm_4 ?_
    refine j_iconst 6 rfl dX4_isForm_5 ?_
    refine j_icmp_ge 13 9 (by decide) rfl dX4_isForm_6 (by intro hR; first | omega | exact hR _ _ | exact jb_r _ | exact hR0 _ _ | assumption) (by intro hR; first | omega | exact hR _ _ | exact jb_r _ | exact hR0 _ _ | assumption) (fun h6 => ?_) (fun h6 => ?_)
    · refine j_iconst 14 rfl dX4_isForm_13 ?_
      refine j_zreti dX4_isForm_14 rfl (by first | decide | omega) ?_
      exact ⟨rfl, by omega⟩
    · refine j_iconst 10 rfl dX4_isForm_9 ?_
      refine j_goto 14 (by decide) dX4_isForm_10 ?_
      refine j_zreti dX4_isForm_14 rfl (by first | decide | omega) ?_
      exact ⟨rfl, by omega⟩
-- X4_isBox
theorem s_isBox {x : Int} (hx : -2147483648 ≤ x ∧ x ≤ 2147483647) : jOk E mX4_isBox [jRF E 0, .int (jI x)] H (jQi fun r H' => H' = H ∧ ((r = 1 ∧ 0 ≤ x ∧ x < H 1 3) ∨ (r = 0 ∧ ¬ (0 ≤ x ∧ x < H 1 3)))) := by
  refine jOk.rng (fun hR0 => ?_)
  refine jOk.ofe rfl (Nat.le_of_ble_eq_true rfl) (en_ai_2 (E := E)) ?_
  refine j_iload_n 1 rfl rfl dX4_isBox_0 ?_
  refine j_if_lt 19 4 (by decide) rfl dX4_isBox_1 (by intro hR; first | omega | exact hR _ _ | exact jb_r _ | exact hR0 _ _ | assumption) (fun h1 => ?_) (fun h1 => ?_)
  · refine j_iconst 20 rfl dX4_isBox_19 ?_
    refine j_zreti dX4_isBox_20 rfl (by first | decide | omega) ?_
    exact ⟨rfl, by omega⟩
  · refine j_iload_n 5 rfl rfl dX4_isBox_4 ?_
    refine j_aload_n 6 rfl rfl dX4_isBox_5 ?_
    refine j_getr 9 rfl 0 fl_X4_12 dX4_isBox_6 (by decide) ( rfl) ( rfl) ?_
    refine g_geti 12 rfl 3 3 rfl fl_X4_173 dX4_isBox_9 (by decide) ( rfl) ( rfl) ?_
    refine j_icmp_ge 19 15 (by decide) rfl dX4_isBox_12 (by intro hR; first | omega | exact hR _ _ | exact jb_r _ | exact hR0 _ _ | assumption) (by intro hR; first | omega | exact hR _ _ | exact jb_r _ | exact hR0 _ _ | assumption) (fun h12 => ?_) (fun h12 => ?_)
    · refine j_iconst 20 rfl dX4_isBox_19 ?_
      refine j_zreti dX4_isBox_20 rfl (by first | decide | omega) ?_
      exact ⟨rfl, by omega⟩
    · refine j_iconst 16 rfl dX4_isBox_15 ?_
      refine j_goto 20 (by decide) dX4_isBox_16 ?_
      refine j_zreti dX4_isBox_20 rfl (by first | decide | omega) ?_
      exact ⟨rfl, by omega⟩
-- X4_finding
theorem s_finding {x : Int} (hx : -2147483648 ≤ x ∧ x ≤ 2147483647) : jOk E mX4_finding [jRF E 0, .int (jI x)] H (jQi fun r H' => H' = jU H 0 8 x ∧ r = -10 - x) := by
  refine jOk.rng (fun hR0 => ?_)
  refine jOk.ofe rfl (Nat.le_of_ble_eq_true rfl) (en_ai_2 (E := E)) ?_
  refine j_aload_n 1 rfl rfl dX4_finding_0 ?_
  refine j_iload_n 2 rfl rfl dX4_finding_1 ?_
  refine g_puti 5 rfl 8 8 rfl fl_X4_46 ft_4_8 dX4_finding_2 (by decide) ( rfl) ( rfl) (by intro hR; first | omega | exact hR _ _ | exact jb_r _ | exact hR0 _ _ | assumption) ?_
  refine j_bipush 7 rfl rfl dX4_finding_5 ?_
  refine j_iload_n 8 rfl rfl dX4_finding_7 ?_
  refine j_isub 9 rfl dX4_finding_8 ?_
  refine j_ireti dX4_finding_9 rfl ?_
  exact ⟨rfl, by omega⟩
-- X4_exchange
theorem s_exchange {k : Nat} {a b : Int} (hk : k = 6 ∨ k = 54) (ha : 0 ≤ a ∧ a < 9) (hb : 0 ≤ b ∧ b < 9) : jOk E mX4_exchange [jRF E k, .int (jI a), .int (jI b)] H (jQv fun H' => H' = jU (jU H k a (H k b)) k b (H k a)) := by
  rcases hk with rfl | rfl
  · refine jOk.rng (fun hR0 => ?_)
    refine jOk.ofe rfl (Nat.le_of_ble_eq_true rfl) (en_aii_4 (E := E)) ?_
    refine j_aload_n 1 rfl rfl dX4_exchange_0 ?_
    refine j_iload_n 2 rfl rfl dX4_exchange_1 ?_
    refine j_iald 3 rfl dX4_exchange_2 (by decide) rfl (by decide) rfl (by omega) ?_
    refine j_istore_n 4 rfl st_4_3 (by decide) rfl dX4_exchange_3 ?_
    refine j_aload_n 5 rfl rfl dX4_exchange_4 ?_
    refine j_iload_n 6 rfl rfl dX4_exchange_5 ?_
    refine j_aload_n 7 rfl rfl dX4_exchange_6 ?_
    refine j_iload_n 8 rfl rfl dX4_exchange_7 ?_
    refine j_iald 9 rfl dX4_exchange_8 (by decide) rfl (by decide) rfl (by omega) ?_
    refine j_iast 10 rfl dX4_exchange_9 (by decide) rfl (by decide) rfl (by omega) (by intro hR; first | omega | exact hR _ _ | exact jb_r _ | exact hR0 _ _ | assumption) ?_
    refine j_aload_n 11 rfl rfl dX4_exchange_10 ?_
    refine j_iload_n 12 rfl rfl dX4_exchange_11 ?_
    refine j_iload_n 13 rfl rfl dX4_exchange_12 ?_
    refine j_iast 14 rfl dX4_exchange_13 (by decide) rfl (by decide) rfl (by omega) (by intro hR; first | omega | exact hR _ _ | exact jb_r _ | exact hR0 _ _ | assumption) ?_
    refine j_vretv dX4_exchange_14 rfl ?_
    exact rfl
  · refine jOk.rng (fun hR0 => ?_)
    refine jOk.ofe rfl (Nat.le_of_ble_eq_true rfl) (en_aii_4 (E := E)) ?_
    refine j_aload_n 1 rfl rfl dX4_exchange_0 ?_
    refine j_iload_n 2 rfl rfl dX4_exchange_1 ?_
    refine j_iald 3 rfl dX4_exchange_2 (by decide) rfl (by decide) rfl (by omega) ?_
    refine j_istore_n 4 rfl st_4_3 (by decide) rfl dX4_exchange_3 ?_
    refine j_aload_n 5 rfl rfl dX4_exchange_4 ?_
    refine j_iload_n 6 rfl rfl dX4_exchange_5 ?_
    refine j_aload_n 7 rfl rfl dX4_exchange_6 ?_
    refine j_iload_n 8 rfl rfl dX4_exchange_7 ?_
    refine j_iald 9 rfl dX4_exchange_8 (by decide) rfl (by decide) rfl (by omega) ?_
    refine j_iast 10 rfl dX4_exchange_9 (by decide) rfl (by decide) rfl (by omega) (by intro hR; first | omega | exact hR _ _ | exact jb_r _ | exact hR0 _ _ | assumption) ?_
    refine j_aload_n 11 rfl rfl dX4_exchange_10 ?_
    refine j_iload_n 12 rfl rfl dX4_exchange_11 ?_
    refine j_iload_n 13 rfl rfl dX4_exchange_12 ?_
    refine j_iast 14 rfl dX4_exchange_13 (by decide) rfl (by decide) rfl (by omega) (by intro hR; first | omega | exact hR _ _ | exact jb_r _ | exact hR0 _ _ | assumption) ?_
    refine j_vretv dX4_exchange_14 rfl ?_
    exact rfl
-- X4_place
theorem s_place {x : Int} (hx : -2147483648 ≤ x ∧ x ≤ 2147483647) : jOk E mX4_place [jRF E 0, .int (jI x)] H (jQi fun r H' => H' = H ∧ ((0 ≤ x ∧ x < 9 ∧ r = H 6 x) ∨ (¬ (0 ≤ x ∧ x < 9) ∧ r = -2))) := by
  refine jOk.rng (fun hR0 => ?_)
  refine jOk.ofe rfl (Nat.le_of_ble_eq_true rfl) (en_ai_2 (E := E)) ?_
  refine j_iload_n 1 rfl rfl dX4_place_0 ?_
  refine jS1i 4 rfl dX4_place_1 lk_X4_102 rfl rfl (s_isNumber hx) (fun r H1 ⟨eh_, hr⟩ => ?_)
  obtain rfl := eh_.symm
  refine j_if_eq 16 7 (by decide) rfl dX4_place_4 (by intro hR; first | omega | exact hR _ _ | exact jb_r _ | exact hR0 _ _ | assumption) (fun h4 => ?_) (fun h4 => ?_)
  · refine j_bipush 18 rfl rfl dX4_place_16 ?_
    refine j_ireti dX4_place_18 rfl ?_
    exact ⟨rfl, by omega⟩
  · refine j_aload_n 8 rfl rfl dX4_place_7 ?_
    refine j_getr 11 rfl 1 fl_X4_16 dX4_place_8 (by decide) ( rfl) ( rfl) ?_
    refine j_iload_n 12 rfl rfl dX4_place_11 ?_
    refine j_iald 13 rfl dX4_place_12 (by decide) rfl (by decide) rfl (by omega) ?_
    refine j_goto 18 (by decide) dX4_place_13 ?_
    refine j_ireti dX4_place_18 rfl ?_
    exact ⟨rfl, by omega⟩
-- X4_swap
theorem s_swap {a b : Int} (ha : -2147483648 ≤ a ∧ a ≤ 2147483647) (hb : -2147483648 ≤ b ∧ b ≤ 2147483647) : jOk E mX4_swap [jRF E 0, .int (jI a), .int (jI b)] H (jQi fun r H' => (¬ (0 ≤ a ∧ a < 9 ∧ 0 ≤ b ∧ b < 9) ∧ r = -2 ∧ H' = H) ∨ ((0 ≤ a ∧ a < 9 ∧ 0 ≤ b ∧ b < 9) ∧ a = b ∧ r = 0 ∧ H' = H) ∨ ((0 ≤ a ∧ a < 9 ∧ 0 ≤ b ∧ b < 9) ∧ a ≠ b ∧ r = 1 ∧ H' = jU (jU (jU H 6 a (H 6 b)) 6 b (H 6 a)) 0 10 1)) := by
  refine jOk.rng (fun hR0 => ?_)
  refine jOk.ofe rfl (Nat.le_of_ble_eq_true rfl) (en_aii_3 (E := E)) ?_
  refine j_iload_n 1 rfl rfl dX4_swap_0 ?_
  refine jS1i 4 rfl dX4_swap_1 lk_X4_102 rfl rfl (s_isNumber ha) (fun r H1 ⟨eh_, hr⟩ => ?_)
  obtain rfl := eh_.symm
  refine j_if_eq 14 7 (by decide) rfl dX4_swap_4 (by intro hR; first | omega | exact hR _ _ | exact jb_r _ | exact hR0 _ _ | assumption) (fun h4 => ?_) (fun h4 => ?_)
  · refine j_bipush 16 rfl rfl dX4_swap_14 ?_
    refine j_ireti dX4_swap_16 rfl ?_
    first | exact Or.inl ⟨by omega, by omega, rfl⟩ | exact Or.inr (Or.inl ⟨by omega, by omega, by omega, rfl⟩) | exact Or.inr (Or.inr ⟨by omega, by omega, by omega, rfl⟩)
  · refine j_iload_n 8 rfl rfl dX4_swap_7 ?_
    refine jS1i 11 rfl dX4_swap_8 lk_X4_102 rfl rfl (s_isNumber hb) (fun r2 H1 ⟨eh_, hr2⟩ => ?_)
    obtain rfl := eh_.symm
    refine j_if_ne 17 14 (by decide) rfl dX4_swap_11 (by intro hR; first | omega | exact hR _ _ | exact jb_r _ | exact hR0 _ _ | assumption) (fun h11 => ?_) (fun h11 => ?_)
    · refine j_iload_n 18 rfl rfl dX4_swap_17 ?_
      refine j_iload_n 19 rfl rfl dX4_swap_18 ?_
      refine j_icmp_ne 24 22 (by decide) rfl dX4_swap_19 (by intro hR; first | omega | exact hR _ _ | exact jb_r _ | exact hR0 _ _ | assumption) (by intro hR; first | omega | exact hR _ _ | exact jb_r _ | exact hR0 _ _ | assumption) (fun h19 => ?_) (fun h19 => ?_)
      · refine j_aload_n 25 rfl rfl dX4_swap_24 ?_
        refine j_getr 28 rfl 1 fl_X4_16 dX4_swap_25 (by decide) ( rfl) ( rfl) ?_
        refine j_iload_n 29 rfl rfl dX4_swap_28 ?_
        refine j_iload_n 30 rfl rfl dX4_swap_29 ?_
        refine jS3v 33 rfl dX4_swap_30 lk_X4_105 rfl rfl (s_exchange (Or.inl rfl) (by omega) (by omega)) (fun H1 e => ?_)
        subst e
        refine j_aload_n 34 rfl rfl dX4_swap_33 ?_
        refine j_iconst 35 rfl dX4_swap_34 ?_
        refine g_putz 38 rfl 10 10 rfl fl_X4_56 ft_4_10 dX4_swap_35 (by decide) ( rfl) ( rfl) (by first | decide | omega) ?_
        refine j_iconst 39 rfl dX4_swap_38 ?_
        refine j_ireti dX4_swap_39 rfl ?_
        first | exact Or.inl ⟨by omega, by omega, rfl⟩ | exact Or.inr (Or.inl ⟨by omega, by omega, by omega, rfl⟩) | exact Or.inr (Or.inr ⟨by omega, by omega, by omega, rfl⟩)
      · refine j_iconst 23 rfl dX4_swap_22 ?_
        refine j_ireti dX4_swap_23 rfl ?_
        first | exact Or.inl ⟨by omega, by omega, rfl⟩ | exact Or.inr (Or.inl ⟨by omega, by omega, by omega, rfl⟩) | exact Or.inr (Or.inr ⟨by omega, by omega, by omega, rfl⟩)
    · refine j_bipush 16 rfl rfl dX4_swap_14 ?_
      refine j_ireti dX4_swap_16 rfl ?_
      first | exact Or.inl ⟨by omega, by omega, rfl⟩ | exact Or.inr (Or.inl ⟨by omega, by omega, by omega, rfl⟩) | exact Or.inr (Or.inr ⟨by omega, by omega, by omega, rfl⟩)
-- X4_lids
theorem s_lids {a : Int} (ha : -2147483648 ≤ a ∧ a ≤ 2147483647) : jOk E mX4_lids [jRF E 0, .int (jI a)] H (jQi fun r H' => (¬ (0 ≤ a ∧ a < 512) ∧ r = -2 ∧ H' = H) ∨ ((0 ≤ a ∧ a < 512) ∧ r = H 0 2 ∧ H' = jU (jU H 0 2 a) 0 10 1)) := by
  refine jOk.rng (fun hR0 => ?_)
  refine jOk.ofe rfl (Nat.le_of_ble_eq_true rfl) (en_ai_3 (E := E)) ?_
  refine j_iload_n 1 rfl rfl dX4_lids_0 ?_
  refine j_if_lt 11 4 (by decide) rfl dX4_lids_1 (by intro hR; first | omega | exact hR _ _ | exact jb_r _ | exact hR0 _ _ | assumption) (fun h1 => ?_) (fun h1 => ?_)
  · refine j_bipush 13 rfl rfl dX4_lids_11 ?_
    refine j_ireti dX4_lids_13 rfl ?_
    first | exact Or.inl ⟨by omega, by omega, rfl⟩ | exact Or.inr ⟨by omega, rfl, rfl⟩
  · refine j_iload_n 5 rfl rfl dX4_lids_4 ?_
    refine j_sipush 8 rfl rfl dX4_lids_5 ?_
    refine j_icmp_le 14 11 (by decide) rfl dX4_lids_8 (by intro hR; first | omega | exact hR _ _ | exact jb_r _ | exact hR0 _ _ | assumption) (by intro hR; first | omega | exact hR _ _ | exact jb_r _ | exact hR0 _ _ | assumption) (fun h8 => ?_) (fun h8 => ?_)
    · refine j_aload_n 15 rfl rfl dX4_lids_14 ?_
      refine g_geti 18 rfl 2 2 rfl fl_X4_20 dX4_lids_15 (by decide) ( rfl) ( rfl) ?_
      refine j_istore_n 19 rfl st_3_2 (by decide) rfl dX4_lids_18 ?_
      refine j_aload_n 20 rfl rfl dX4_lids_19 ?_
      refine j_iload_n 21 rfl rfl dX4_lids_20 ?_
      refine g_puti 24 rfl 2 2 rfl fl_X4_20 ft_4_2 dX4_lids_21 (by decide) ( rfl) ( rfl) (by intro hR; first | omega | exact hR _ _ | exact jb_r _ | exact hR0 _ _ | assumption) ?_
      refine j_aload_n 25 rfl rfl dX4_lids_24 ?_
      refine j_iconst 26 rfl dX4_lids_25 ?_
      refine g_putz 29 rfl 10 10 rfl fl_X4_56 ft_4_10 dX4_lids_26 (by decide) ( rfl) ( rfl) (by first | decide | omega) ?_
      refine j_iload_n 30 rfl rfl dX4_lids_29 ?_
      refine j_ireti dX4_lids_30 rfl ?_
      first | exact Or.inl ⟨by omega, by omega, rfl⟩ | exact Or.inr ⟨by omega, rfl, rfl⟩
    · refine j_bipush 13 rfl rfl dX4_lids_11 ?_
      refine j_ireti dX4_lids_13 rfl ?_
      first | exact Or.inl ⟨by omega, by omega, rfl⟩ | exact Or.inr ⟨by omega, rfl, rfl⟩
-- X3_mayBe
theorem s_mayBe {a b c : Int} (ha : -2147483648 ≤ a ∧ a ≤ 2147483647) (hb : -2147483648 ≤ b ∧ b ≤ 2147483647) (hc : -2147483648 ≤ c ∧ c ≤ 2147483647) : jOk E mX3_mayBe [.int (jI a), .int (jI b), .int (jI c)] H (jQi fun r H' => H' = H ∧ ((r = 1 ∧ 0 ≤ a ∧ a < 60 ∧ 0 ≤ b ∧ b < 9 ∧ 0 ≤ c ∧ c < 3) ∨ (r = 0 ∧ ¬ (0 ≤ a ∧ a < 60 ∧ 0 ≤ b ∧ b < 9 ∧ 0 ≤ c ∧ c < 3)))) := by
  refine jOk.rng (fun hR0 => ?_)
  refine jOk.ofe rfl (Nat.le_of_ble_eq_true rfl) (en_iii_3 (E := E)) ?_
  refine j_iload_n 1 rfl rfl dX3_mayBe_0 ?_
  refine jN1i 4 rfl dX3_mayBe_1 ln_X3_25 (host := RX4) (fun s h => h.1) rfl rfl (s_isStep ha) (fun r H1 ⟨eh_, hr⟩ => ?_)
  obtain rfl := eh_.symm
  refine j_if_eq 27 7 (by decide) rfl dX3_mayBe_4 (by intro hR; first | omega | exact hR _ _ | exact jb_r _ | exact hR0 _ _ | assumption) (fun h4 => ?_) (fun h4 => ?_)
  · refine j_iconst 28 rfl dX3_mayBe_27 ?_
    refine j_zreti dX3_mayBe_28 rfl (by first | decide | omega) ?_
    exact ⟨rfl, by omega⟩
  · refine j_iload_n 8 rfl rfl dX3_mayBe_7 ?_
    refine jN1i 11 rfl dX3_mayBe_8 ln_X3_29 (host := RX4) (fun s h => h.2.1) rfl rfl (s_isNumber hb) (fun r2 H1 ⟨eh_, hr2⟩ => ?_)
    obtain rfl := eh_.symm
    refine j_if_eq 27 14 (by decide) rfl dX3_mayBe_11 (by intro hR; first | omega | exact hR _ _ | exact jb_r _ | exact hR0 _ _ | assumption) (fun h11 => ?_) (fun h11 => ?_)
    · refine j_iconst 28 rfl dX3_mayBe_27 ?_
      refine j_zreti dX3_mayBe_28 rfl (by first | decide | omega) ?_
      exact ⟨rfl, by omega⟩
    · refine j_iload_n 15 rfl rfl dX3_mayBe_14 ?_
      refine j_if_lt 27 18 (by decide) rfl dX3_mayBe_15 (by intro hR; first | omega | exact hR _ _ | exact jb_r _ | exact hR0 _ _ | assumption) (fun h15 => ?_) (fun h15 => ?_)
      · refine j_iconst 28 rfl dX3_mayBe_27 ?_
        refine j_zreti dX3_mayBe_28 rfl (by first | decide | omega) ?_
        exact ⟨rfl, by omega⟩
      · refine j_iload_n 19 rfl rfl dX3_mayBe_18 ?_
        refine j_iconst 20 rfl dX3_mayBe_19 ?_
        refine j_icmp_ge 27 23 (by decide) rfl dX3_mayBe_20 (by intro hR; first | omega | exact hR _ _ | exact jb_r _ | exact hR0 _ _ | assumption) (by intro hR; first | omega | exact hR _ _ | exact jb_r _ | exact hR0 _ _ | assumption) (fun h20 => ?_) (fun h20 => ?_)
        · refine j_iconst 28 rfl dX3_mayBe_27 ?_
          refine j_zreti dX3_mayBe_28 rfl (by first | decide | omega) ?_
          exact ⟨rfl, by omega⟩
        · refine j_iconst 24 rfl dX3_mayBe_23 ?_
          refine j_goto 28 (by decide) dX3_mayBe_24 ?_
          refine j_zreti dX3_mayBe_28 rfl (by first | decide | omega) ?_
          exact ⟨rfl, by omega⟩
-- X3_add
theorem s_add {a b c : Int} (ha : 0 ≤ a ∧ a < 60) (hb : 0 ≤ b ∧ b < 9) (hc : 0 ≤ c ∧ c < 3) (hn : 0 ≤ H 7 3 ∧ H 7 3 < 24) : jOk E mX3_add [jRF E 7, .int (jI a), .int (jI b), .int (jI c)] H (jQv fun H' => H' = jU (jU (jU (jU H 8 (H 7 3) a) 9 (H 7 3) b) 10 (H 7 3) c) 7 3 (H 7 3 + 1)) := by
  refine jOk.rng (fun hR0 => ?_)
  refine jOk.ofe rfl (Nat.le_of_ble_eq_true rfl) (en_aiii_4 (E := E)) ?_
  refine j_aload_n 1 rfl rfl dX3_add_0 ?_
  refine g_geti 4 rfl 3 3 rfl fl_X3_21 dX3_add_1 (by decide) ( rfl) ( rfl) ?_
  refine j_bipush 6 rfl rfl dX3_add_4 ?_
  refine j_icmp_ge 49 9 (by decide) rfl dX3_add_6 (by intro hR; first | omega | exact hR _ _ | exact jb_r _ | exact hR0 _ _ | assumption) (by intro hR; first | omega | exact hR _ _ | exact jb_r _ | exact hR0 _ _ | assumption) (fun h6 => ?_) (fun h6 => ?_)
  · refine j_vretv dX3_add_49 rfl ?_
    first | exact rfl | (exfalso; omega)
  · refine j_aload_n 10 rfl rfl dX3_add_9 ?_
    refine j_getr 13 rfl 0 fl_X3_9 dX3_add_10 (by decide) ( rfl) ( rfl) ?_
    refine j_aload_n 14 rfl rfl dX3_add_13 ?_
    refine g_geti 17 rfl 3 3 rfl fl_X3_21 dX3_add_14 (by decide) ( rfl) ( rfl) ?_
    refine j_iload_n 18 rfl rfl dX3_add_17 ?_
    refine j_iast 19 rfl dX3_add_18 (by decide) rfl (by decide) rfl (by omega) (by intro hR; first | omega | exact hR _ _ | exact jb_r _ | exact hR0 _ _ | assumption) ?_
    refine j_aload_n 20 rfl rfl dX3_add_19 ?_
    refine j_getr 23 rfl 1 fl_X3_15 dX3_add_20 (by decide) ( rfl) ( rfl) ?_
    refine j_aload_n 24 rfl rfl dX3_add_23 ?_
    refine g_geti 27 rfl 3 3 rfl fl_X3_21 dX3_add_24 (by decide) ( rfl) ( rfl) ?_
    try simp (disch := omega) only [jU_s, jU_k, jU_i]
    refine j_iload_n 28 rfl rfl dX3_add_27 ?_
    refine j_iast 29 rfl dX3_add_28 (by decide) rfl (by decide) rfl (by omega) (by intro hR; first | omega | exact hR _ _ | exact jb_r _ | exact hR0 _ _ | assumption) ?_
    refine j_aload_n 30 rfl rfl dX3_add_29 ?_
    refine j_getr 33 rfl 2 fl_X3_18 dX3_add_30 (by decide) ( rfl) ( rfl) ?_
    refine j_aload_n 34 rfl rfl dX3_add_33 ?_
    refine g_geti 37 rfl 3 3 rfl fl_X3_21 dX3_add_34 (by decide) ( rfl) ( rfl) ?_
    try simp (disch := omega) only [jU_s, jU_k, jU_i]
    refine j_iload_n 38 rfl rfl dX3_add_37 ?_
    refine j_iast 39 rfl dX3_add_38 (by decide) rfl (by decide) rfl (by omega) (by intro hR; first | omega | exact hR _ _ | exact jb_r _ | exact hR0 _ _ | assumption) ?_
    refine j_aload_n 40 rfl rfl dX3_add_39 ?_
    refine j_dup 41 rfl rfl dX3_add_40 ?_
    refine g_geti 44 rfl 3 3 rfl fl_X3_21 dX3_add_41 (by decide) ( rfl) ( rfl) ?_
    try simp (disch := omega) only [jU_s, jU_k, jU_i]
    refine j_iconst 45 rfl dX3_add_44 ?_
    refine j_iadd 46 rfl dX3_add_45 ?_
    refine g_puti 49 rfl 3 3 rfl fl_X3_21 ft_3_3 dX3_add_46 (by decide) ( rfl) ( rfl) (by intro hR; first | omega | exact hR _ _ | exact jb_r _ | exact hR0 _ _ | assumption) ?_
    refine j_vretv dX3_add_49 rfl ?_
    first | exact rfl | (exfalso; omega)
-- X4_tell
theorem s_tell {a b c : Int} (ha : -2147483648 ≤ a ∧ a ≤ 2147483647) (hb : -2147483648 ≤ b ∧ b ≤ 2147483647) (hc : -2147483648 ≤ c ∧ c ≤ 2147483647) (hn : 0 ≤ H 7 3 ∧ H 7 3 ≤ 24) : jOk E mX4_tell [jRF E 0, .int (jI a), .int (jI b), .int (jI c)] H (jQi fun r H' =>
    (¬ (0 ≤ a ∧ a < 60 ∧ 0 ≤ b ∧ b < 9 ∧ 0 ≤ c ∧ c < 3) ∧ r = -2 ∧ H' = H) ∨ ((0 ≤ a ∧ a < 60 ∧ 0 ≤ b ∧ b < 9 ∧ 0 ≤ c ∧ c < 3) ∧ H 7 3 = 24 ∧ r = -4 ∧ H' = H) ∨
    ((0 ≤ a ∧ a < 60 ∧ 0 ≤ b ∧ b < 9 ∧ 0 ≤ c ∧ c < 3) ∧ H 7 3 < 24 ∧ r = H 7 3 + 1 ∧ H' = jU (jU (jU (jU (jU H 8 (H 7 3) a) 9 (H 7 3) b) 10 (H 7 3) c) 7 3 (H 7 3 + 1)) 0 10 1)) := by
  refine jOk.rng (fun hR0 => ?_)
  refine jOk.ofe rfl (Nat.le_of_ble_eq_true rfl) (en_aiii_4 (E := E)) ?_
  refine j_iload_n 1 rfl rfl dX4_tell_0 ?_
  refine j_iload_n 2 rfl rfl dX4_tell_1 ?_
  refine j_iload_n 3 rfl rfl dX4_tell_2 ?_
  refine jS3i 6 rfl dX4_tell_3 lk_X4_109 rfl rfl (s_mayBe ha hb hc) (fun r H1 ⟨eh_, hr⟩ => ?_)
  obtain rfl := eh_.symm
  refine j_if_ne 12 9 (by decide) rfl dX4_tell_6 (by intro hR; first | omega | exact hR _ _ | exact jb_r _ | exact hR0 _ _ | assumption) (fun h6 => ?_) (fun h6 => ?_)
  · refine j_aload_n 13 rfl rfl dX4_tell_12 ?_
    refine j_getr 16 rfl 3 fl_X4_27 dX4_tell_13 (by decide) ( rfl) ( rfl) ?_
    refine g_geti 19 rfl 3 3 rfl fl_X4_113 dX4_tell_16 (by decide) ( rfl) ( rfl) ?_
    refine j_bipush 21 rfl rfl dX4_tell_19 ?_
    refine j_icmp_lt 27 24 (by decide) rfl dX4_tell_21 (by intro hR; first | omega | exact hR _ _ | exact jb_r _ | exact hR0 _ _ | assumption) (by intro hR; first | omega | exact hR _ _ | exact jb_r _ | exact hR0 _ _ | assumption) (fun h21 => ?_) (fun h21 => ?_)
    · refine j_aload_n 28 rfl rfl dX4_tell_27 ?_
      refine j_getr 31 rfl 3 fl_X4_27 dX4_tell_28 (by decide) ( rfl) ( rfl) ?_
      refine j_iload_n 32 rfl rfl dX4_tell_31 ?_
      refine j_iload_n 33 rfl rfl dX4_tell_32 ?_
      refine j_iload_n 34 rfl rfl dX4_tell_33 ?_
      refine jV3v 37 rfl dX4_tell_34 lk_X4_116 rfl rfl (by decide) ( rfl) ( rfl) (s_add (by omega) (by omega) (by omega) (by omega)) (fun H1 e => ?_)
      subst e
      refine j_aload_n 38 rfl rfl dX4_tell_37 ?_
      refine j_iconst 39 rfl dX4_tell_38 ?_
      refine g_putz 42 rfl 10 10 rfl fl_X4_56 ft_4_10 dX4_tell_39 (by decide) ( rfl) ( rfl) (by first | decide | omega) ?_
      refine j_aload_n 43 rfl rfl dX4_tell_42 ?_
      refine j_getr 46 rfl 3 fl_X4_27 dX4_tell_43 (by decide) ( rfl) ( rfl) ?_
      refine g_geti 49 rfl 3 3 rfl fl_X4_113 dX4_tell_46 (by decide) ( rfl) ( rfl) ?_
      try simp (disch := omega) only [jU_s, jU_k, jU_i]
      refine j_ireti dX4_tell_49 rfl ?_
      first | exact Or.inl ⟨by omega, by omega, rfl⟩ | exact Or.inr (Or.inl ⟨by omega, by omega, by omega, rfl⟩) | exact Or.inr (Or.inr ⟨by omega, by omega, rfl, rfl⟩)
    · refine j_bipush 26 rfl rfl dX4_tell_24 ?_
      refine j_ireti dX4_tell_26 rfl ?_
      first | exact Or.inl ⟨by omega, by omega, rfl⟩ | exact Or.inr (Or.inl ⟨by omega, by omega, by omega, rfl⟩) | exact Or.inr (Or.inr ⟨by omega, by omega, rfl, rfl⟩)
  · refine j_bipush 11 rfl rfl dX4_tell_9 ?_
    refine j_ireti dX4_tell_11 rfl ?_
    first | exact Or.inl ⟨by omega, by omega, rfl⟩ | exact Or.inr (Or.inl ⟨by omega, by omega, by omega, rfl⟩) | exact Or.inr (Or.inr ⟨by omega, by omega, rfl, rfl⟩)
-- X4_back
theorem s_back (hn : 0 ≤ H 7 3 ∧ H 7 3 ≤ 24) : jOk E mX4_back [jRF E 0] H (jQi fun r H' => (H 7 3 = 0 ∧ r = -3 ∧ H' = H) ∨ (0 < H 7 3 ∧ r = H 7 3 - 1 ∧ H' = jU (jU H 7 3 (H 7 3 - 1)) 0 10 1)) := by
  refine jOk.rng (fun hR0 => ?_)
  refine jOk.ofe rfl (Nat.le_of_ble_eq_true rfl) (en_a_1 (E := E)) ?_
  refine j_aload_n 1 rfl rfl dX4_back_0 ?_
  refine j_getr 4 rfl 3 fl_X4_27 dX4_back_1 (by decide) ( rfl) ( rfl) ?_
  refine g_geti 7 rfl 3 3 rfl fl_X4_113 dX4_back_4 (by decide) ( rfl) ( rfl) ?_
  refine j_if_ne 13 10 (by decide) rfl dX4_back_7 (by intro hR; first | omega | exact hR _ _ | exact jb_r _ | exact hR0 _ _ | assumption) (fun h7 => ?_) (fun h7 => ?_)
  · refine j_aload_n 14 rfl rfl dX4_back_13 ?_
    refine j_getr 17 rfl 3 fl_X4_27 dX4_back_14 (by decide) ( rfl) ( rfl) ?_
    refine j_dup 18 rfl rfl dX4_back_17 ?_
    refine g_geti 21 rfl 3 3 rfl fl_X4_113 dX4_back_18 (by decide) ( rfl) ( rfl) ?_
    refine j_iconst 22 rfl dX4_back_21 ?_
    refine j_isub 23 rfl dX4_back_22 ?_
    refine g_puti 26 rfl 3 3 rfl fl_X4_113 ft_3_3 dX4_back_23 (by decide) ( rfl) ( rfl) (by intro hR; first | omega | exact hR _ _ | exact jb_r _ | exact hR0 _ _ | assumption) ?_
    refine j_aload_n 27 rfl rfl dX4_back_26 ?_
    refine j_iconst 28 rfl dX4_back_27 ?_
    refine g_putz 31 rfl 10 10 rfl fl_X4_56 ft_4_10 dX4_back_28 (by decide) ( rfl) ( rfl) (by first | decide | omega) ?_
    refine j_aload_n 32 rfl rfl dX4_back_31 ?_
    refine j_getr 35 rfl 3 fl_X4_27 dX4_back_32 (by decide) ( rfl) ( rfl) ?_
    refine g_geti 38 rfl 3 3 rfl fl_X4_113 dX4_back_35 (by decide) ( rfl) ( rfl) ?_
    try simp (disch := omega) only [jU_s, jU_k, jU_i]
    refine j_ireti dX4_back_38 rfl ?_
    first | exact Or.inl ⟨by omega, by omega, rfl⟩ | exact Or.inr ⟨by omega, rfl, rfl⟩
  · refine j_bipush 12 rfl rfl dX4_back_10 ?_
    refine j_ireti dX4_back_12 rfl ?_
    first | exact Or.inl ⟨by omega, by omega, rfl⟩ | exact Or.inr ⟨by omega, rfl, rfl⟩
-- X4_heard
theorem s_heard {a b : Int} (ha : -2147483648 ≤ a ∧ a ≤ 2147483647) (hb : -2147483648 ≤ b ∧ b ≤ 2147483647) (hn : 0 ≤ H 0 6 ∧ H 0 6 ≤ 8) : jOk E mX4_heard [jRF E 0, .int (jI a), .int (jI b)] H (jQi fun r H' =>
    (¬ (0 ≤ a ∧ a < 60 ∧ 0 ≤ b ∧ b ≤ 9) ∧ r = -2 ∧ H' = H) ∨ ((0 ≤ a ∧ a < 60 ∧ 0 ≤ b ∧ b ≤ 9) ∧ H 0 6 = 8 ∧ r = -4 ∧ H' = H) ∨
    ((0 ≤ a ∧ a < 60 ∧ 0 ≤ b ∧ b ≤ 9) ∧ H 0 6 < 8 ∧ r = H 0 6 + 1 ∧ H' = jU (jU (jU H 11 (H 0 6) a) 12 (H 0 6) b) 0 6 (H 0 6 + 1))) := by
  refine jOk.rng (fun hR0 => ?_)
  refine jOk.ofe rfl (Nat.le_of_ble_eq_true rfl) (en_aii_3 (E := E)) ?_
  refine j_iload_n 1 rfl rfl dX4_heard_0 ?_
  refine jS1i 4 rfl dX4_heard_1 lk_X4_137 rfl rfl (s_isStep ha) (fun r H1 ⟨eh_, hr⟩ => ?_)
  obtain rfl := eh_.symm
  refine j_if_eq 17 7 (by decide) rfl dX4_heard_4 (by intro hR; first | omega | exact hR _ _ | exact jb_r _ | exact hR0 _ _ | assumption) (fun h4 => ?_) (fun h4 => ?_)
  · refine j_bipush 19 rfl rfl dX4_heard_17 ?_
    refine j_ireti dX4_heard_19 rfl ?_
    first | exact Or.inl ⟨by omega, by omega, rfl⟩ | exact Or.inr (Or.inl ⟨by omega, by omega, by omega, rfl⟩) | exact Or.inr (Or.inr ⟨by omega, by omega, rfl, rfl⟩)
  · refine j_iload_n 8 rfl rfl dX4_heard_7 ?_
    refine j_if_lt 17 11 (by decide) rfl dX4_heard_8 (by intro hR; first | omega | exact hR _ _ | exact jb_r _ | exact hR0 _ _ | assumption) (fun h8 => ?_) (fun h8 => ?_)
    · refine j_bipush 19 rfl rfl dX4_heard_17 ?_
      refine j_ireti dX4_heard_19 rfl ?_
      first | exact Or.inl ⟨by omega, by omega, rfl⟩ | exact Or.inr (Or.inl ⟨by omega, by omega, by omega, rfl⟩) | exact Or.inr (Or.inr ⟨by omega, by omega, rfl, rfl⟩)
    · refine j_iload_n 12 rfl rfl dX4_heard_11 ?_
      refine j_bipush 14 rfl rfl dX4_heard_12 ?_
      refine j_icmp_le 20 17 (by decide) rfl dX4_heard_14 (by intro hR; first | omega | exact hR _ _ | exact jb_r _ | exact hR0 _ _ | assumption) (by intro hR; first | omega | exact hR _ _ | exact jb_r _ | exact hR0 _ _ | assumption) (fun h14 => ?_) (fun h14 => ?_)
      · refine j_aload_n 21 rfl rfl dX4_heard_20 ?_
        refine g_geti 24 rfl 6 6 rfl fl_X4_37 dX4_heard_21 (by decide) ( rfl) ( rfl) ?_
        refine j_bipush 26 rfl rfl dX4_heard_24 ?_
        refine j_icmp_lt 32 29 (by decide) rfl dX4_heard_26 (by intro hR; first | omega | exact hR _ _ | exact jb_r _ | exact hR0 _ _ | assumption) (by intro hR; first | omega | exact hR _ _ | exact jb_r _ | exact hR0 _ _ | assumption) (fun h26 => ?_) (fun h26 => ?_)
        · refine j_aload_n 33 rfl rfl dX4_heard_32 ?_
          refine j_getr 36 rfl 4 fl_X4_31 dX4_heard_33 (by decide) ( rfl) ( rfl) ?_
          refine j_aload_n 37 rfl rfl dX4_heard_36 ?_
          refine g_geti 40 rfl 6 6 rfl fl_X4_37 dX4_heard_37 (by decide) ( rfl) ( rfl) ?_
          refine j_iload_n 41 rfl rfl dX4_heard_40 ?_
          refine j_iast 42 rfl dX4_heard_41 (by decide) rfl (by decide) rfl (by omega) (by intro hR; first | omega | exact hR _ _ | exact jb_r _ | exact hR0 _ _ | assumption) ?_
          refine j_aload_n 43 rfl rfl dX4_heard_42 ?_
          refine j_getr 46 rfl 5 fl_X4_34 dX4_heard_43 (by decide) ( rfl) ( rfl) ?_
          refine j_aload_n 47 rfl rfl dX4_heard_46 ?_
          refine g_geti 50 rfl 6 6 rfl fl_X4_37 dX4_heard_47 (by decide) ( rfl) ( rfl) ?_
          try simp (disch := omega) only [jU_s, jU_k, jU_i]
          refine j_iload_n 51 rfl rfl dX4_heard_50 ?_
          refine j_iast 52 rfl dX4_heard_51 (by decide) rfl (by decide) rfl (by omega) (by intro hR; first | omega | exact hR _ _ | exact jb_r _ | exact hR0 _ _ | assumption) ?_
          refine j_aload_n 53 rfl rfl dX4_heard_52 ?_
          refine j_dup 54 rfl rfl dX4_heard_53 ?_
          refine g_geti 57 rfl 6 6 rfl fl_X4_37 dX4_heard_54 (by decide) ( rfl) ( rfl) ?_
          try simp (disch := omega) only [jU_s, jU_k, jU_i]
          refine j_iconst 58 rfl dX4_heard_57 ?_
          refine j_iadd 59 rfl dX4_heard_58 ?_
          refine g_puti 62 rfl 6 6 rfl fl_X4_37 ft_4_6 dX4_heard_59 (by decide) ( rfl) ( rfl) (by intro hR; first | omega | exact hR _ _ | exact jb_r _ | exact hR0 _ _ | assumption) ?_
          refine j_aload_n 63 rfl rfl dX4_heard_62 ?_
          refine g_geti 66 rfl 6 6 rfl fl_X4_37 dX4_heard_63 (by decide) ( rfl) ( rfl) ?_
          try simp (disch := omega) only [jU_s, jU_k, jU_i]
          refine j_ireti dX4_heard_66 rfl ?_
          first | exact Or.inl ⟨by omega, by omega, rfl⟩ | exact Or.inr (Or.inl ⟨by omega, by omega, by omega, rfl⟩) | exact Or.inr (Or.inr ⟨by omega, by omega, rfl, rfl⟩)
        · refine j_bipush 31 rfl rfl dX4_heard_29 ?_
          refine j_ireti dX4_heard_31 rfl ?_
          first | exact Or.inl ⟨by omega, by omega, rfl⟩ | exact Or.inr (Or.inl ⟨by omega, by omega, by omega, rfl⟩) | exact Or.inr (Or.inr ⟨by omega, by omega, rfl, rfl⟩)
      · refine j_bipush 19 rfl rfl dX4_heard_17 ?_
        refine j_ireti dX4_heard_19 rfl ?_
        first | exact Or.inl ⟨by omega, by omega, rfl⟩ | exact Or.inr (Or.inl ⟨by omega, by omega, by omega, rfl⟩) | exact Or.inr (Or.inr ⟨by omega, by omega, rfl, rfl⟩)
-- X4_forget
theorem s_forget : jOk E mX4_forget [jRF E 0] H (jQi fun r H' => r = H 0 6 ∧ H' = jU H 0 6 0) := by
  refine jOk.rng (fun hR0 => ?_)
  refine jOk.ofe rfl (Nat.le_of_ble_eq_true rfl) (en_a_2 (E := E)) ?_
  refine j_aload_n 1 rfl rfl dX4_forget_0 ?_
  refine g_geti 4 rfl 6 6 rfl fl_X4_37 dX4_forget_1 (by decide) ( rfl) ( rfl) ?_
  refine j_istore_n 5 rfl st_2_1 (by decide) rfl dX4_forget_4 ?_
  refine j_aload_n 6 rfl rfl dX4_forget_5 ?_
  refine j_iconst 7 rfl dX4_forget_6 ?_
  refine g_puti 10 rfl 6 6 rfl fl_X4_37 ft_4_6 dX4_forget_7 (by decide) ( rfl) ( rfl) (by intro hR; first | omega | exact hR _ _ | exact jb_r _ | exact hR0 _ _ | assumption) ?_
  refine j_iload_n 11 rfl rfl dX4_forget_10 ?_
  refine j_ireti dX4_forget_11 rfl ?_
  exact ⟨rfl, rfl⟩
-- X4_fault
theorem s_fault : jOk E mX4_fault [jRF E 0] H (jQi fun r H' => r = H 1 2 ∧ H' = H) := by
  refine jOk.rng (fun hR0 => ?_)
  refine jOk.ofe rfl (Nat.le_of_ble_eq_true rfl) (en_a_1 (E := E)) ?_
  refine j_aload_n 1 rfl rfl dX4_fault_0 ?_
  refine j_getr 4 rfl 0 fl_X4_12 dX4_fault_1 (by decide) ( rfl) ( rfl) ?_
  refine g_geti 7 rfl 2 2 rfl fl_X4_86 dX4_fault_4 (by decide) ( rfl) ( rfl) ?_
  refine j_ireti dX4_fault_7 rfl ?_
  exact ⟨rfl, rfl⟩
-- X4_spread
theorem s_spread {a b : Int} : jOk E mX4_spread [.int (jI a), .int (jI b)] H (jQi fun r H' => H' = H ∧ ((bAnd a b ≠ 0 ∧ r = bOr a b) ∨ (bAnd a b = 0 ∧ r = a))) := by
  refine jOk.rng (fun hR0 => ?_)
  refine jOk.ofe rfl (Nat.le_of_ble_eq_true rfl) (en_ii_2 (E := E)) ?_
  refine j_iload_n 1 rfl rfl dX4_spread_0 ?_
  refine j_iload_n 2 rfl rfl dX4_spread_1 ?_
  refine k_iand 3 rfl dX4_spread_2 ?_
  refine j_if_eq 12 6 (by decide) rfl dX4_spread_3 (by intro hR; first | omega | exact hR _ _ | exact jb_r _ | exact hR0 _ _ | assumption) (fun h3 => ?_) (fun h3 => ?_)
  · refine j_iload_n 13 rfl rfl dX4_spread_12 ?_
    refine j_ireti dX4_spread_13 rfl ?_
    exact ⟨rfl, by omega⟩
  · refine j_iload_n 7 rfl rfl dX4_spread_6 ?_
    refine j_iload_n 8 rfl rfl dX4_spread_7 ?_
    refine k_ior 9 rfl dX4_spread_8 ?_
    refine j_goto 13 (by decide) dX4_spread_9 ?_
    refine j_ireti dX4_spread_13 rfl ?_
    exact ⟨rfl, by omega⟩
-- J7_fill_53178
theorem s_fill {k N : Nat} {v : Int} (hk : k < jK) (ho : j_shp k = .inl N) (hN : N < 2 ^ 31) (ht : j_ty k = .int) (hv : -2147483648 ≤ v ∧ v ≤ 2147483647) : jOk E mJ7_fill_53178 [jRF E k, .int (jI v)] H (jQv fun H' => H' = jFill H k N v) := by
  refine jOk.rng (fun hR0 => ?_)
  refine jOk.ofe rfl (Nat.le_of_ble_eq_true rfl) (en_ai_4 (E := E)) ?_
  refine j_iconst 1 rfl dJ7_fill_53178_0 ?_
  refine j_istore_n 2 rfl st_4_2 (by decide) rfl dJ7_fill_53178_1 ?_
  refine j_aload_n 3 rfl rfl dJ7_fill_53178_2 ?_
  refine j_alen 4 rfl dJ7_fill_53178_3 hk ho ?_
  refine j_istore_n 5 rfl st_4_3 (by decide) rfl dJ7_fill_53178_4 ?_
  have loop := jUp 0 N (fun i => jWP E mJ7_fill_53178 (jQv fun H' => H' = jFill H k N v) 5 [some (jRF E k), some (.int (jI v)), some (.int (jI i)), some (.int (jI N))] [] (jFill H k i v)) ?_ ?_ 0 (by omega) (by omega)
  · rw [jFill_0] at loop
    exact loop
  · refine j_iload_n 6 rfl rfl dJ7_fill_53178_5 ?_
    refine j_iload_n 7 rfl rfl dJ7_fill_53178_6 ?_
    refine j_icmp_ge 20 10 (by decide) rfl dJ7_fill_53178_7 (by intro hR; first | omega | exact hR _ _ | exact jb_r _ | exact hR0 _ _ | assumption) (by intro hR; first | omega | exact hR _ _ | exact jb_r _ | exact hR0 _ _ | assumption) (fun h => ?_) (fun h => ?_)
    · refine j_vretv dJ7_fill_53178_20 rfl ?_
      exact rfl
    · exfalso; omega
  · intro i h0 h1 ih
    refine j_iload_n 6 rfl rfl dJ7_fill_53178_5 ?_
    refine j_iload_n 7 rfl rfl dJ7_fill_53178_6 ?_
    refine j_icmp_ge 20 10 (by decide) rfl dJ7_fill_53178_7 (by intro hR; first | omega | exact hR _ _ | exact jb_r _ | exact hR0 _ _ | assumption) (by intro hR; first | omega | exact hR _ _ | exact jb_r _ | exact hR0 _ _ | assumption) (fun h => ?_) (fun h => ?_)
    · exfalso; omega
    · refine j_aload_n 11 rfl rfl dJ7_fill_53178_10 ?_
      refine j_iload_n 12 rfl rfl dJ7_fill_53178_11 ?_
      refine j_iload_n 13 rfl rfl dJ7_fill_53178_12 ?_
      refine j_iast 14 rfl dJ7_fill_53178_13 hk ho hN ht (by omega) (fun _ => hv) ?_
      rw [jFill_s _ _ _ _ h0]
      refine j_iinc 17 rfl rfl st_4_2 (by decide) rfl dJ7_fill_53178_14 ?_
      refine j_goto 5 (by decide) dJ7_fill_53178_17 ?_
      exact ih

end S10
