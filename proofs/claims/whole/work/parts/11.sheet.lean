/-! ===== the class's sheets ===== -/
def jSh (k l : Nat) : Prop := (k = 14 ∧ l = 15) ∨ (k = 16 ∧ l = 17) ∨ (k = 18 ∧ l = 19) ∨ (k = 20 ∧ l = 21)
def jShx (s : Int) (k l : Nat) : Prop := (s = 0 ∧ k = 14 ∧ l = 15) ∨ (s = 1 ∧ k = 16 ∧ l = 17) ∨ (s = 2 ∧ k = 18 ∧ l = 19) ∨ (s = 3 ∧ k = 20 ∧ l = 21) ∨ ¬ (0 ≤ s ∧ s < 4)
/-- an item cut to a form -/
def jCut (f v : Int) : Int := if f = 0 then bByte v else if f = 1 then bShort v else v
theorem jCut_r {f v : Int} (hv : -2147483648 ≤ v ∧ v ≤ 2147483647) : -2147483648 ≤ jCut f v ∧ jCut f v ≤ 2147483647 := by
  unfold jCut
  split
  · exact jb_r _
  · split
    · exact jb_r _
    · exact hv
section S11
variable {E : jE} {H : jH}
-- X2_renew
theorem s_renew {k l : Nat} {f n : Int} (hs : jSh k l) (hf : -2147483648 ≤ f ∧ f ≤ 2147483647) (hn : -2147483648 ≤ n ∧ n ≤ 2147483647) : jOk E mX2_renew [jRF E k, .int (jI f), .int (jI n)] H (jQv fun H' => H' = jFill (jU (jU (jU H k 0 0) k 1 f) k 2 n) l 60 0) := by
  rcases hs with ⟨rfl, rfl⟩ | ⟨rfl, rfl⟩ | ⟨rfl, rfl⟩ | ⟨rfl, rfl⟩
  all_goals
    refine jOk.rng (fun hR0 => ?_)
    refine jOk.ofe rfl (Nat.le_of_ble_eq_true rfl) (en_aii_3 (E := E)) ?_
    refine j_aload_n 1 rfl rfl dX2_renew_0 ?_
    refine j_iconst 2 rfl dX2_renew_1 ?_
    refine g_putz 5 rfl 0 0 rfl fl_X2_9 ft_2_0 dX2_renew_2 (by decide) ( rfl) ( rfl) (by first | decide | omega) ?_
    refine j_aload_n 6 rfl rfl dX2_renew_5 ?_
    refine j_iload_n 7 rfl rfl dX2_renew_6 ?_
    refine g_puti 10 rfl 1 1 rfl fl_X2_15 ft_2_1 dX2_renew_7 (by decide) ( rfl) ( rfl) (by intro hR; first | omega | exact hR _ _ | exact jb_r _ | exact hR0 _ _ | assumption) ?_
    refine j_aload_n 11 rfl rfl dX2_renew_10 ?_
    refine j_iload_n 12 rfl rfl dX2_renew_11 ?_
    refine g_puti 15 rfl 2 2 rfl fl_X2_19 ft_2_2 dX2_renew_12 (by decide) ( rfl) ( rfl) (by intro hR; first | omega | exact hR _ _ | exact jb_r _ | exact hR0 _ _ | assumption) ?_
    refine j_aload_n 16 rfl rfl dX2_renew_15 ?_
    refine j_getr 19 rfl 3 fl_X2_22 dX2_renew_16 (by decide) ( rfl) ( rfl) ?_
    refine j_iconst 20 rfl dX2_renew_19 ?_
    refine jS2v 23 rfl dX2_renew_20 lk_X2_26 rfl rfl (s_fill (N := 60) (by decide) rfl (by decide) rfl (by omega)) (fun H1 e => ?_)
    subst e
    refine j_vretv dX2_renew_23 rfl ?_
    exact rfl
-- X2_put
theorem s_put {k l : Nat} {i v : Int} (hs : jSh k l) (hi : 0 ≤ i ∧ i < 60) (hv : -2147483648 ≤ v ∧ v ≤ 2147483647) : jOk E mX2_put [jRF E k, .int (jI i), .int (jI v)] H (jQv fun H' => H' = jU H l i (jCut (H k 1) v)) := by
  rcases hs with ⟨rfl, rfl⟩ | ⟨rfl, rfl⟩ | ⟨rfl, rfl⟩ | ⟨rfl, rfl⟩
  all_goals
    refine jOk.rng (fun hR0 => ?_)
    refine jOk.ofe rfl (Nat.le_of_ble_eq_true rfl) (en_aii_3 (E := E)) ?_
    refine j_aload_n 1 rfl rfl dX2_put_0 ?_
    refine g_geti 4 rfl 1 1 rfl fl_X2_15 dX2_put_1 (by decide) ( rfl) ( rfl) ?_
    refine j_if_ne 18 7 (by decide) rfl dX2_put_4 (by intro hR; first | omega | exact hR _ _ | exact jb_r _ | exact hR0 _ _ | assumption) (fun h4 => ?_) (fun h4 => ?_)
    · refine j_aload_n 19 rfl rfl dX2_put_18 ?_
      refine g_geti 22 rfl 1 1 rfl fl_X2_15 dX2_put_19 (by decide) ( rfl) ( rfl) ?_
      refine j_iconst 23 rfl dX2_put_22 ?_
      refine j_icmp_ne 37 26 (by decide) rfl dX2_put_23 (by intro hR; first | omega | exact hR _ _ | exact jb_r _ | exact hR0 _ _ | assumption) (by intro hR; first | omega | exact hR _ _ | exact jb_r _ | exact hR0 _ _ | assumption) (fun h23 => ?_) (fun h23 => ?_)
      · refine j_aload_n 38 rfl rfl dX2_put_37 ?_
        refine j_getr 41 rfl 3 fl_X2_22 dX2_put_38 (by decide) ( rfl) ( rfl) ?_
        refine j_iload_n 42 rfl rfl dX2_put_41 ?_
        refine j_iload_n 43 rfl rfl dX2_put_42 ?_
        refine j_iast 44 rfl dX2_put_43 (by decide) rfl (by decide) rfl (by omega) (by intro hR; first | omega | exact hR _ _ | exact jb_r _ | exact hR0 _ _ | assumption) ?_
        refine j_vretv dX2_put_44 rfl ?_
        unfold jCut; first | rw [if_pos (by omega)] | rw [if_neg (by omega), if_pos (by omega)] | rw [if_neg (by omega), if_neg (by omega)]
      · refine j_aload_n 27 rfl rfl dX2_put_26 ?_
        refine j_getr 30 rfl 3 fl_X2_22 dX2_put_27 (by decide) ( rfl) ( rfl) ?_
        refine j_iload_n 31 rfl rfl dX2_put_30 ?_
        refine j_iload_n 32 rfl rfl dX2_put_31 ?_
        refine k_i2s 33 rfl dX2_put_32 ?_
        refine j_iast 34 rfl dX2_put_33 (by decide) rfl (by decide) rfl (by omega) (by intro hR; first | omega | exact hR _ _ | exact jb_r _ | exact hR0 _ _ | assumption) ?_
        refine j_goto 44 (by decide) dX2_put_34 ?_
        refine j_vretv dX2_put_44 rfl ?_
        unfold jCut; first | rw [if_pos (by omega)] | rw [if_neg (by omega), if_pos (by omega)] | rw [if_neg (by omega), if_neg (by omega)]
    · refine j_aload_n 8 rfl rfl dX2_put_7 ?_
      refine j_getr 11 rfl 3 fl_X2_22 dX2_put_8 (by decide) ( rfl) ( rfl) ?_
      refine j_iload_n 12 rfl rfl dX2_put_11 ?_
      refine j_iload_n 13 rfl rfl dX2_put_12 ?_
      refine k_i2b 14 rfl dX2_put_13 ?_
      refine j_iast 15 rfl dX2_put_14 (by decide) rfl (by decide) rfl (by omega) (by intro hR; first | omega | exact hR _ _ | exact jb_r _ | exact hR0 _ _ | assumption) ?_
      refine j_goto 44 (by decide) dX2_put_15 ?_
      refine j_vretv dX2_put_44 rfl ?_
      unfold jCut; first | rw [if_pos (by omega)] | rw [if_neg (by omega), if_pos (by omega)] | rw [if_neg (by omega), if_neg (by omega)]
-- X2_has
theorem s_has {k l : Nat} {i n : Int} (hs : jSh k l) (hi : -2147483648 ≤ i ∧ i ≤ 2147483647) (hn : -2147483648 ≤ n ∧ n ≤ 2147483647) (hz : 0 ≤ H k 2 ∧ H k 2 ≤ 60) : jOk E mX2_has [jRF E k, .int (jI i), .int (jI n)] H (jQi fun r H' => H' = H ∧ ((r = 1 ∧ 0 ≤ i ∧ 0 ≤ n ∧ i + n ≤ H k 2) ∨ (r = 0 ∧ ¬ (0 ≤ i ∧ 0 ≤ n ∧ i + n ≤ H k 2)))) := by
  rcases hs with ⟨rfl, rfl⟩ | ⟨rfl, rfl⟩ | ⟨rfl, rfl⟩ | ⟨rfl, rfl⟩
  all_goals
    refine jOk.rng (fun hR0 => ?_)
    refine jOk.ofe rfl (Nat.le_of_ble_eq_true rfl) (en_aii_3 (E := E)) ?_
    refine j_iload_n 1 rfl rfl dX2_has_0 ?_
    refine j_if_lt 22 4 (by decide) rfl dX2_has_1 (by intro hR; first | omega | exact hR _ _ | exact jb_r _ | exact hR0 _ _ | assumption) (fun h1 => ?_) (fun h1 => ?_)
    · refine j_iconst 23 rfl dX2_has_22 ?_
      refine j_zreti dX2_has_23 rfl (by first | decide | omega) ?_
      exact ⟨rfl, by omega⟩
    · refine j_iload_n 5 rfl rfl dX2_has_4 ?_
      refine j_if_lt 22 8 (by decide) rfl dX2_has_5 (by intro hR; first | omega | exact hR _ _ | exact jb_r _ | exact hR0 _ _ | assumption) (fun h5 => ?_) (fun h5 => ?_)
      · refine j_iconst 23 rfl dX2_has_22 ?_
        refine j_zreti dX2_has_23 rfl (by first | decide | omega) ?_
        exact ⟨rfl, by omega⟩
      · refine j_iload_n 9 rfl rfl dX2_has_8 ?_
        refine j_aload_n 10 rfl rfl dX2_has_9 ?_
        refine g_geti 13 rfl 2 2 rfl fl_X2_19 dX2_has_10 (by decide) ( rfl) ( rfl) ?_
        refine j_iload_n 14 rfl rfl dX2_has_13 ?_
        refine j_isub 15 rfl dX2_has_14 ?_
        refine j_icmp_gt 22 18 (by decide) rfl dX2_has_15 (by intro hR; first | omega | exact hR _ _ | exact jb_r _ | exact hR0 _ _ | assumption) (by intro hR; first | omega | exact hR _ _ | exact jb_r _ | exact hR0 _ _ | assumption) (fun h15 => ?_) (fun h15 => ?_)
        · refine j_iconst 23 rfl dX2_has_22 ?_
          refine j_zreti dX2_has_23 rfl (by first | decide | omega) ?_
          exact ⟨rfl, by omega⟩
        · refine j_iconst 19 rfl dX2_has_18 ?_
          refine j_goto 23 (by decide) dX2_has_19 ?_
          refine j_zreti dX2_has_23 rfl (by first | decide | omega) ?_
          exact ⟨rfl, by omega⟩
-- X2_findingAt
theorem s_findingAt {k l : Nat} {f i : Int} (hs : jSh k l) (hf : -2147483648 ≤ f ∧ f ≤ 2147483647) (hi : -2147483648 ≤ i ∧ i ≤ 2147483647) (hz : 0 ≤ H k 2 ∧ H k 2 ≤ 60) : jOk E mX2_findingAt [jRF E k, .int (jI f), .int (jI i)] H (jQi fun r H' => H' = H ∧ ((r = 1 ∧ H k 0 ≠ 0) ∨ (r = 3 ∧ H k 0 = 0 ∧ H k 1 ≠ f) ∨ (r = 2 ∧ H k 0 = 0 ∧ H k 1 = f ∧ ¬ (0 ≤ i ∧ i < H k 2)) ∨ (r = 0 ∧ H k 0 = 0 ∧ H k 1 = f ∧ 0 ≤ i ∧ i < H k 2))) := by
  rcases hs with ⟨rfl, rfl⟩ | ⟨rfl, rfl⟩ | ⟨rfl, rfl⟩ | ⟨rfl, rfl⟩
  · refine jOk.rng (fun hR0 => ?_)
    refine jOk.ofe rfl (Nat.le_of_ble_eq_true rfl) (en_aii_3 (E := E)) ?_
    refine j_aload_n 1 rfl rfl dX2_findingAt_0 ?_
    refine g_geti 4 rfl 0 0 rfl fl_X2_9 dX2_findingAt_1 (by decide) ( rfl) ( rfl) ?_
    refine j_if_eq 9 7 (by decide) rfl dX2_findingAt_4 (by intro hR; first | omega | exact hR _ _ | exact jb_r _ | exact hR0 _ _ | assumption) (fun h4 => ?_) (fun h4 => ?_)
    · refine j_aload_n 10 rfl rfl dX2_findingAt_9 ?_
      refine g_geti 13 rfl 1 1 rfl fl_X2_15 dX2_findingAt_10 (by decide) ( rfl) ( rfl) ?_
      refine j_iload_n 14 rfl rfl dX2_findingAt_13 ?_
      refine j_icmp_eq 19 17 (by decide) rfl dX2_findingAt_14 (by intro hR; first | omega | exact hR _ _ | exact jb_r _ | exact hR0 _ _ | assumption) (by intro hR; first | omega | exact hR _ _ | exact jb_r _ | exact hR0 _ _ | assumption) (fun h14 => ?_) (fun h14 => ?_)
      · refine j_aload_n 20 rfl rfl dX2_findingAt_19 ?_
        refine j_iload_n 21 rfl rfl dX2_findingAt_20 ?_
        refine j_iconst 22 rfl dX2_findingAt_21 ?_
        refine jV2i 25 rfl dX2_findingAt_22 lk_X2_32 rfl rfl (by decide) ( rfl) ( rfl) (s_has (l := 15) (Or.inl ⟨rfl, rfl⟩) hi (by omega) hz) (fun r H1 ⟨eh_, hr⟩ => ?_)
        obtain rfl := eh_.symm
        refine j_if_eq 32 28 (by decide) rfl dX2_findingAt_25 (by intro hR; first | omega | exact hR _ _ | exact jb_r _ | exact hR0 _ _ | assumption) (fun h25 => ?_) (fun h25 => ?_)
        · refine j_iconst 33 rfl dX2_findingAt_32 ?_
          refine j_ireti dX2_findingAt_33 rfl ?_
          exact ⟨rfl, by omega⟩
        · refine j_iconst 29 rfl dX2_findingAt_28 ?_
          refine j_goto 33 (by decide) dX2_findingAt_29 ?_
          refine j_ireti dX2_findingAt_33 rfl ?_
          exact ⟨rfl, by omega⟩
      · refine j_iconst 18 rfl dX2_findingAt_17 ?_
        refine j_ireti dX2_findingAt_18 rfl ?_
        exact ⟨rfl, by omega⟩
    · refine j_iconst 8 rfl dX2_findingAt_7 ?_
      refine j_ireti dX2_findingAt_8 rfl ?_
      exact ⟨rfl, by omega⟩
  · refine jOk.rng (fun hR0 => ?_)
    refine jOk.ofe rfl (Nat.le_of_ble_eq_true rfl) (en_aii_3 (E := E)) ?_
    refine j_aload_n 1 rfl rfl dX2_findingAt_0 ?_
    refine g_geti 4 rfl 0 0 rfl fl_X2_9 dX2_findingAt_1 (by decide) ( rfl) ( rfl) ?_
    refine j_if_eq 9 7 (by decide) rfl dX2_findingAt_4 (by intro hR; first | omega | exact hR _ _ | exact jb_r _ | exact hR0 _ _ | assumption) (fun h4 => ?_) (fun h4 => ?_)
    · refine j_aload_n 10 rfl rfl dX2_findingAt_9 ?_
      refine g_geti 13 rfl 1 1 rfl fl_X2_15 dX2_findingAt_10 (by decide) ( rfl) ( rfl) ?_
      refine j_iload_n 14 rfl rfl dX2_findingAt_13 ?_
      refine j_icmp_eq 19 17 (by decide) rfl dX2_findingAt_14 (by intro hR; first | omega | exact hR _ _ | exact jb_r _ | exact hR0 _ _ | assumption) (by intro hR; first | omega | exact hR _ _ | exact jb_r _ | exact hR0 _ _ | assumption) (fun h14 => ?_) (fun h14 => ?_)
      · refine j_aload_n 20 rfl rfl dX2_findingAt_19 ?_
        refine j_iload_n 21 rfl rfl dX2_findingAt_20 ?_
        refine j_iconst 22 rfl dX2_findingAt_21 ?_
        refine jV2i 25 rfl dX2_findingAt_22 lk_X2_32 rfl rfl (by decide) ( rfl) ( rfl) (s_has (l := 17) (Or.inr (Or.inl ⟨rfl, rfl⟩)) hi (by omega) hz) (fun r H1 ⟨eh_, hr⟩ => ?_)
        obtain rfl := eh_.symm
        refine j_if_eq 32 28 (by decide) rfl dX2_findingAt_25 (by intro hR; first | omega | exact hR _ _ | exact jb_r _ | exact hR0 _ _ | assumption) (fun h25 => ?_) (fun h25 => ?_)
        · refine j_iconst 33 rfl dX2_findingAt_32 ?_
          refine j_ireti dX2_findingAt_33 rfl ?_
          exact ⟨rfl, by omega⟩
        · refine j_iconst 29 rfl dX2_findingAt_28 ?_
          refine j_goto 33 (by decide) dX2_findingAt_29 ?_
          refine j_ireti dX2_findingAt_33 rfl ?_
          exact ⟨rfl, by omega⟩
      · refine j_iconst 18 rfl dX2_findingAt_17 ?_
        refine j_ireti dX2_findingAt_18 rfl ?_
        exact ⟨rfl, by omega⟩
    · refine j_iconst 8 rfl dX2_findingAt_7 ?_
      refine j_ireti dX2_findingAt_8 rfl ?_
      exact ⟨rfl, by omega⟩
  · refine jOk.rng (fun hR0 => ?_)
    refine jOk.ofe rfl (Nat.le_of_ble_eq_true rfl) (en_aii_3 (E := E)) ?_
    refine j_aload_n 1 rfl rfl dX2_findingAt_0 ?_
    refine g_geti 4 rfl 0 0 rfl fl_X2_9 dX2_findingAt_1 (by decide) ( rfl) ( rfl) ?_
    refine j_if_eq 9 7 (by decide) rfl dX2_findingAt_4 (by intro hR; first | omega | exact hR _ _ | exact jb_r _ | exact hR0 _ _ | assumption) (fun h4 => ?_) (fun h4 => ?_)
    · refine j_aload_n 10 rfl rfl dX2_findingAt_9 ?_
      refine g_geti 13 rfl 1 1 rfl fl_X2_15 dX2_findingAt_10 (by decide) ( rfl) ( rfl) ?_
      refine j_iload_n 14 rfl rfl dX2_findingAt_13 ?_
      refine j_icmp_eq 19 17 (by decide) rfl dX2_findingAt_14 (by intro hR; first | omega | exact hR _ _ | exact jb_r _ | exact hR0 _ _ | assumption) (by intro hR; first | omega | exact hR _ _ | exact jb_r _ | exact hR0 _ _ | assumption) (fun h14 => ?_) (fun h14 => ?_)
      · refine j_aload_n 20 rfl rfl dX2_findingAt_19 ?_
        refine j_iload_n 21 rfl rfl dX2_findingAt_20 ?_
        refine j_iconst 22 rfl dX2_findingAt_21 ?_
        refine jV2i 25 rfl dX2_findingAt_22 lk_X2_32 rfl rfl (by decide) ( rfl) ( rfl) (s_has (l := 19) (Or.inr (Or.inr (Or.inl ⟨rfl, rfl⟩))) hi (by omega) hz) (fun r H1 ⟨eh_, hr⟩ => ?_)
        obtain rfl := eh_.symm
        refine j_if_eq 32 28 (by decide) rfl dX2_findingAt_25 (by intro hR; first | omega | exact hR _ _ | exact jb_r _ | exact hR0 _ _ | assumption) (fun h25 => ?_) (fun h25 => ?_)
        · refine j_iconst 33 rfl dX2_findingAt_32 ?_
          refine j_ireti dX2_findingAt_33 rfl ?_
          exact ⟨rfl, by omega⟩
        · refine j_iconst 29 rfl dX2_findingAt_28 ?_
          refine j_goto 33 (by decide) dX2_findingAt_29 ?_
          refine j_ireti dX2_findingAt_33 rfl ?_
          exact ⟨rfl, by omega⟩
      · refine j_iconst 18 rfl dX2_findingAt_17 ?_
        refine j_ireti dX2_findingAt_18 rfl ?_
        exact ⟨rfl, by omega⟩
    · refine j_iconst 8 rfl dX2_findingAt_7 ?_
      refine j_ireti dX2_findingAt_8 rfl ?_
      exact ⟨rfl, by omega⟩
  · refine jOk.rng (fun hR0 => ?_)
    refine jOk.ofe rfl (Nat.le_of_ble_eq_true rfl) (en_aii_3 (E := E)) ?_
    refine j_aload_n 1 rfl rfl dX2_findingAt_0 ?_
    refine g_geti 4 rfl 0 0 rfl fl_X2_9 dX2_findingAt_1 (by decide) ( rfl) ( rfl) ?_
    refine j_if_eq 9 7 (by decide) rfl dX2_findingAt_4 (by intro hR; first | omega | exact hR _ _ | exact jb_r _ | exact hR0 _ _ | assumption) (fun h4 => ?_) (fun h4 => ?_)
    · refine j_aload_n 10 rfl rfl dX2_findingAt_9 ?_
      refine g_geti 13 rfl 1 1 rfl fl_X2_15 dX2_findingAt_10 (by decide) ( rfl) ( rfl) ?_
      refine j_iload_n 14 rfl rfl dX2_findingAt_13 ?_
      refine j_icmp_eq 19 17 (by decide) rfl dX2_findingAt_14 (by intro hR; first | omega | exact hR _ _ | exact jb_r _ | exact hR0 _ _ | assumption) (by intro hR; first | omega | exact hR _ _ | exact jb_r _ | exact hR0 _ _ | assumption) (fun h14 => ?_) (fun h14 => ?_)
      · refine j_aload_n 20 rfl rfl dX2_findingAt_19 ?_
        refine j_iload_n 21 rfl rfl dX2_findingAt_20 ?_
        refine j_iconst 22 rfl dX2_findingAt_21 ?_
        refine jV2i 25 rfl dX2_findingAt_22 lk_X2_32 rfl rfl (by decide) ( rfl) ( rfl) (s_has (l := 21) (Or.inr (Or.inr (Or.inr ⟨rfl, rfl⟩))) hi (by omega) hz) (fun r H1 ⟨eh_, hr⟩ => ?_)
        obtain rfl := eh_.symm
        refine j_if_eq 32 28 (by decide) rfl dX2_findingAt_25 (by intro hR; first | omega | exact hR _ _ | exact jb_r _ | exact hR0 _ _ | assumption) (fun h25 => ?_) (fun h25 => ?_)
        · refine j_iconst 33 rfl dX2_findingAt_32 ?_
          refine j_ireti dX2_findingAt_33 rfl ?_
          exact ⟨rfl, by omega⟩
        · refine j_iconst 29 rfl dX2_findingAt_28 ?_
          refine j_goto 33 (by decide) dX2_findingAt_29 ?_
          refine j_ireti dX2_findingAt_33 rfl ?_
          exact ⟨rfl, by omega⟩
      · refine j_iconst 18 rfl dX2_findingAt_17 ?_
        refine j_ireti dX2_findingAt_18 rfl ?_
        exact ⟨rfl, by omega⟩
    · refine j_iconst 8 rfl dX2_findingAt_7 ?_
      refine j_ireti dX2_findingAt_8 rfl ?_
      exact ⟨rfl, by omega⟩
theorem sh0 : jSh 14 15 := Or.inl ⟨rfl, rfl⟩
theorem sh1 : jSh 16 17 := Or.inr (Or.inl ⟨rfl, rfl⟩)
theorem sh2 : jSh 18 19 := Or.inr (Or.inr (Or.inl ⟨rfl, rfl⟩))
theorem sh3 : jSh 20 21 := Or.inr (Or.inr (Or.inr ⟨rfl, rfl⟩))
-- X4_sheet
theorem s_sheet {s f n : Int} {k l : Nat} (hk : jShx s k l) (hs : -2147483648 ≤ s ∧ s ≤ 2147483647) (hf : -2147483648 ≤ f ∧ f ≤ 2147483647) (hn : -2147483648 ≤ n ∧ n ≤ 2147483647) : jOk E mX4_sheet [jRF E 0, .int (jI s), .int (jI f), .int (jI n)] H (jQi fun r H' =>
    (¬ (0 ≤ s ∧ s < 4 ∧ 0 ≤ f ∧ f < 3 ∧ n ≤ 60) ∧ r = -2 ∧ H' = H) ∨ ((0 ≤ s ∧ s < 4 ∧ 0 ≤ f ∧ f < 3 ∧ n ≤ 60) ∧ n < 0 ∧ r = -15 ∧ H' = jU H 0 8 5) ∨
    ((0 ≤ s ∧ s < 4 ∧ 0 ≤ f ∧ f < 3 ∧ n ≤ 60) ∧ 0 ≤ n ∧ r = n ∧ H' = jFill (jU (jU (jU H k 0 0) k 1 f) k 2 n) l 60 0)) := by
  rcases hk with ⟨rfl, rfl, rfl⟩ | ⟨rfl, rfl, rfl⟩ | ⟨rfl, rfl, rfl⟩ | ⟨rfl, rfl, rfl⟩ | hb
  · refine jOk.rng (fun hR0 => ?_)
    refine jOk.ofe rfl (Nat.le_of_ble_eq_true rfl) (en_aiii_4 (E := E)) ?_
    refine j_iload_n 1 rfl rfl dX4_sheet_0 ?_
    refine jS1i 4 rfl dX4_sheet_1 lk_X4_120 rfl rfl (s_isSheet hs) (fun r1 H1 ⟨eh_, hr1⟩ => ?_)
    obtain rfl := eh_.symm
    refine j_if_eq 20 7 (by decide) rfl dX4_sheet_4 (by intro hR; first | omega | exact hR _ _ | exact jb_r _ | exact hR0 _ _ | assumption) (fun h4 => ?_) (fun h4 => ?_)
    · refine j_bipush 22 rfl rfl dX4_sheet_20 ?_
      refine j_ireti dX4_sheet_22 rfl ?_
      first | exact Or.inl ⟨by omega, rfl, rfl⟩ | exact Or.inr (Or.inr ⟨by omega, by omega, rfl, rfl⟩) | exact Or.inr (Or.inl ⟨by omega, by omega, by omega, rfl⟩) | (exfalso; omega)
    · refine j_iload_n 8 rfl rfl dX4_sheet_7 ?_
      refine jS1i 11 rfl dX4_sheet_8 lk_X4_221 rfl rfl (s_isForm hf) (fun r8 H1 ⟨eh_, hr8⟩ => ?_)
      obtain rfl := eh_.symm
      refine j_if_eq 20 14 (by decide) rfl dX4_sheet_11 (by intro hR; first | omega | exact hR _ _ | exact jb_r _ | exact hR0 _ _ | assumption) (fun h11 => ?_) (fun h11 => ?_)
      · refine j_bipush 22 rfl rfl dX4_sheet_20 ?_
        refine j_ireti dX4_sheet_22 rfl ?_
        first | exact Or.inl ⟨by omega, rfl, rfl⟩ | exact Or.inr (Or.inr ⟨by omega, by omega, rfl, rfl⟩) | exact Or.inr (Or.inl ⟨by omega, by omega, by omega, rfl⟩) | (exfalso; omega)
      · refine j_iload_n 15 rfl rfl dX4_sheet_14 ?_
        refine j_bipush 17 rfl rfl dX4_sheet_15 ?_
        refine j_icmp_le 23 20 (by decide) rfl dX4_sheet_17 (by intro hR; first | omega | exact hR _ _ | exact jb_r _ | exact hR0 _ _ | assumption) (by intro hR; first | omega | exact hR _ _ | exact jb_r _ | exact hR0 _ _ | assumption) (fun h17 => ?_) (fun h17 => ?_)
        · refine j_iload_n 24 rfl rfl dX4_sheet_23 ?_
          refine j_if_ge 33 27 (by decide) rfl dX4_sheet_24 (by intro hR; first | omega | exact hR _ _ | exact jb_r _ | exact hR0 _ _ | assumption) (fun h24 => ?_) (fun h24 => ?_)
          · refine j_aload_n 34 rfl rfl dX4_sheet_33 ?_
            refine j_getr 37 rfl 7 fl_X4_42 dX4_sheet_34 (by decide) ( rfl) ( rfl) ?_
            refine j_iload_n 38 rfl rfl dX4_sheet_37 ?_
            refine j_aald 39 rfl dX4_sheet_38 (by decide) rfl (by decide) rfl (by omega) (rfl)  ?_
            refine j_iload_n 40 rfl rfl dX4_sheet_39 ?_
            refine j_iload_n 41 rfl rfl dX4_sheet_40 ?_
            refine jV2v 44 rfl dX4_sheet_41 lk_X4_224 rfl rfl (by decide) ( rfl) ( rfl) (s_renew sh0 hf hn) (fun H1 e => ?_)
            subst e
            refine j_iload_n 45 rfl rfl dX4_sheet_44 ?_
            refine j_ireti dX4_sheet_45 rfl ?_
            first | exact Or.inl ⟨by omega, rfl, rfl⟩ | exact Or.inr (Or.inr ⟨by omega, by omega, rfl, rfl⟩) | exact Or.inr (Or.inl ⟨by omega, by omega, by omega, rfl⟩) | (exfalso; omega)
          · refine j_aload_n 28 rfl rfl dX4_sheet_27 ?_
            refine j_iconst 29 rfl dX4_sheet_28 ?_
            refine jV1i 32 rfl dX4_sheet_29 lk_X4_126 rfl rfl (by decide) ( rfl) ( rfl) (s_finding (by omega)) (fun r29 H1 ⟨e, hr29⟩ => ?_)
            subst e
            refine j_ireti dX4_sheet_32 rfl ?_
            first | exact Or.inl ⟨by omega, rfl, rfl⟩ | exact Or.inr (Or.inr ⟨by omega, by omega, rfl, rfl⟩) | exact Or.inr (Or.inl ⟨by omega, by omega, by omega, rfl⟩) | (exfalso; omega)
        · refine j_bipush 22 rfl rfl dX4_sheet_20 ?_
          refine j_ireti dX4_sheet_22 rfl ?_
          first | exact Or.inl ⟨by omega, rfl, rfl⟩ | exact Or.inr (Or.inr ⟨by omega, by omega, rfl, rfl⟩) | exact Or.inr (Or.inl ⟨by omega, by omega, by omega, rfl⟩) | (exfalso; omega)
  · refine jOk.rng (fun hR0 => ?_)
    refine jOk.ofe rfl (Nat.le_of_ble_eq_true rfl) (en_aiii_4 (E := E)) ?_
    refine j_iload_n 1 rfl rfl dX4_sheet_0 ?_
    refine jS1i 4 rfl dX4_sheet_1 lk_X4_120 rfl rfl (s_isSheet hs) (fun r1 H1 ⟨eh_, hr1⟩ => ?_)
    obtain rfl := eh_.symm
    refine j_if_eq 20 7 (by decide) rfl dX4_sheet_4 (by intro hR; first | omega | exact hR _ _ | exact jb_r _ | exact hR0 _ _ | assumption) (fun h4 => ?_) (fun h4 => ?_)
    · refine j_bipush 22 rfl rfl dX4_sheet_20 ?_
      refine j_ireti dX4_sheet_22 rfl ?_
      first | exact Or.inl ⟨by omega, rfl, rfl⟩ | exact Or.inr (Or.inr ⟨by omega, by omega, rfl, rfl⟩) | exact Or.inr (Or.inl ⟨by omega, by omega, by omega, rfl⟩) | (exfalso; omega)
    · refine j_iload_n 8 rfl rfl dX4_sheet_7 ?_
      refine jS1i 11 rfl dX4_sheet_8 lk_X4_221 rfl rfl (s_isForm hf) (fun r8 H1 ⟨eh_, hr8⟩ => ?_)
      obtain rfl := eh_.symm
      refine j_if_eq 20 14 (by decide) rfl dX4_sheet_11 (by intro hR; first | omega | exact hR _ _ | exact jb_r _ | exact hR0 _ _ | assumption) (fun h11 => ?_) (fun h11 => ?_)
      · refine j_bipush 22 rfl rfl dX4_sheet_20 ?_
        refine j_ireti dX4_sheet_22 rfl ?_
        first | exact Or.inl ⟨by omega, rfl, rfl⟩ | exact Or.inr (Or.inr ⟨by omega, by omega, rfl, rfl⟩) | exact Or.inr (Or.inl ⟨by omega, by omega, by omega, rfl⟩) | (exfalso; omega)
      · refine j_iload_n 15 rfl rfl dX4_sheet_14 ?_
        refine j_bipush 17 rfl rfl dX4_sheet_15 ?_
        refine j_icmp_le 23 20 (by decide) rfl dX4_sheet_17 (by intro hR; first | omega | exact hR _ _ | exact jb_r _ | exact hR0 _ _ | assumption) (by intro hR; first | omega | exact hR _ _ | exact jb_r _ | exact hR0 _ _ | assumption) (fun h17 => ?_) (fun h17 => ?_)
        · refine j_iload_n 24 rfl rfl dX4_sheet_23 ?_
          refine j_if_ge 33 27 (by decide) rfl dX4_sheet_24 (by intro hR; first | omega | exact hR _ _ | exact jb_r _ | exact hR0 _ _ | assumption) (fun h24 => ?_) (fun h24 => ?_)
          · refine j_aload_n 34 rfl rfl dX4_sheet_33 ?_
            refine j_getr 37 rfl 7 fl_X4_42 dX4_sheet_34 (by decide) ( rfl) ( rfl) ?_
            refine j_iload_n 38 rfl rfl dX4_sheet_37 ?_
            refine j_aald 39 rfl dX4_sheet_38 (by decide) rfl (by decide) rfl (by omega) (rfl)  ?_
            refine j_iload_n 40 rfl rfl dX4_sheet_39 ?_
            refine j_iload_n 41 rfl rfl dX4_sheet_40 ?_
            refine jV2v 44 rfl dX4_sheet_41 lk_X4_224 rfl rfl (by decide) ( rfl) ( rfl) (s_renew sh1 hf hn) (fun H1 e => ?_)
            subst e
            refine j_iload_n 45 rfl rfl dX4_sheet_44 ?_
            refine j_ireti dX4_sheet_45 rfl ?_
            first | exact Or.inl ⟨by omega, rfl, rfl⟩ | exact Or.inr (Or.inr ⟨by omega, by omega, rfl, rfl⟩) | exact Or.inr (Or.inl ⟨by omega, by omega, by omega, rfl⟩) | (exfalso; omega)
          · refine j_aload_n 28 rfl rfl dX4_sheet_27 ?_
            refine j_iconst 29 rfl dX4_sheet_28 ?_
            refine jV1i 32 rfl dX4_sheet_29 lk_X4_126 rfl rfl (by decide) ( rfl) ( rfl) (s_finding (by omega)) (fun r29 H1 ⟨e, hr29⟩ => ?_)
            subst e
            refine j_ireti dX4_sheet_32 rfl ?_
            first | exact Or.inl ⟨by omega, rfl, rfl⟩ | exact Or.inr (Or.inr ⟨by omega, by omega, rfl, rfl⟩) | exact Or.inr (Or.inl ⟨by omega, by omega, by omega, rfl⟩) | (exfalso; omega)
        · refine j_bipush 22 rfl rfl dX4_sheet_20 ?_
          refine j_ireti dX4_sheet_22 rfl ?_
          first | exact Or.inl ⟨by omega, rfl, rfl⟩ | exact Or.inr (Or.inr ⟨by omega, by omega, rfl, rfl⟩) | exact Or.inr (Or.inl ⟨by omega, by omega, by omega, rfl⟩) | (exfalso; omega)
  · refine jOk.rng (fun hR0 => ?_)
    refine jOk.ofe rfl (Nat.le_of_ble_eq_true rfl) (en_aiii_4 (E := E)) ?_
    refine j_iload_n 1 rfl rfl dX4_sheet_0 ?_
    refine jS1i 4 rfl dX4_sheet_1 lk_X4_120 rfl rfl (s_isSheet hs) (fun r1 H1 ⟨eh_, hr1⟩ => ?_)
    obtain rfl := eh_.symm
    refine j_if_eq 20 7 (by decide) rfl dX4_sheet_4 (by intro hR; first | omega | exact hR _ _ | exact jb_r _ | exact hR0 _ _ | assumption) (fun h4 => ?_) (fun h4 => ?_)
    · refine j_bipush 22 rfl rfl dX4_sheet_20 ?_
      refine j_ireti dX4_sheet_22 rfl ?_
      first | exact Or.inl ⟨by omega, rfl, rfl⟩ | exact Or.inr (Or.inr ⟨by omega, by omega, rfl, rfl⟩) | exact Or.inr (Or.inl ⟨by omega, by omega, by omega, rfl⟩) | (exfalso; omega)
    · refine j_iload_n 8 rfl rfl dX4_sheet_7 ?_
      refine jS1i 11 rfl dX4_sheet_8 lk_X4_221 rfl rfl (s_isForm hf) (fun r8 H1 ⟨eh_, hr8⟩ => ?_)
      obtain rfl := eh_.symm
      refine j_if_eq 20 14 (by decide) rfl dX4_sheet_11 (by intro hR; first | omega | exact hR _ _ | exact jb_r _ | exact hR0 _ _ | assumption) (fun h11 => ?_) (fun h11 => ?_)
      · refine j_bipush 22 rfl rfl dX4_sheet_20 ?_
        refine j_ireti dX4_sheet_22 rfl ?_
        first | exact Or.inl ⟨by omega, rfl, rfl⟩ | exact Or.inr (Or.inr ⟨by omega, by omega, rfl, rfl⟩) | exact Or.inr (Or.inl ⟨by omega, by omega, by omega, rfl⟩) | (exfalso; omega)
      · refine j_iload_n 15 rfl rfl dX4_sheet_14 ?_
        refine j_bipush 17 rfl rfl dX4_sheet_15 ?_
        refine j_icmp_le 23 20 (by decide) rfl dX4_sheet_17 (by intro hR; first | omega | exact hR _ _ | exact jb_r _ | exact hR0 _ _ | assumption) (by intro hR; first | omega | exact hR _ _ | exact jb_r _ | exact hR0 _ _ | assumption) (fun h17 => ?_) (fun h17 => ?_)
        · refine j_iload_n 24 rfl rfl dX4_sheet_23 ?_
          refine j_if_ge 33 27 (by decide) rfl dX4_sheet_24 (by intro hR; first | omega | exact hR _ _ | exact jb_r _ | exact hR0 _ _ | assumption) (fun h24 => ?_) (fun h24 => ?_)
          · refine j_aload_n 34 rfl rfl dX4_sheet_33 ?_
            refine j_getr 37 rfl 7 fl_X4_42 dX4_sheet_34 (by decide) ( rfl) ( rfl) ?_
            refine j_iload_n 38 rfl rfl dX4_sheet_37 ?_
            refine j_aald 39 rfl dX4_sheet_38 (by decide) rfl (by decide) rfl (by omega) (rfl)  ?_
            refine j_iload_n 40 rfl rfl dX4_sheet_39 ?_
            refine j_iload_n 41 rfl rfl dX4_sheet_40 ?_
            refine jV2v 44 rfl dX4_sheet_41 lk_X4_224 rfl rfl (by decide) ( rfl) ( rfl) (s_renew sh2 hf hn) (fun H1 e => ?_)
            subst e
            refine j_iload_n 45 rfl rfl dX4_sheet_44 ?_
            refine j_ireti dX4_sheet_45 rfl ?_
            first | exact Or.inl ⟨by omega, rfl, rfl⟩ | exact Or.inr (Or.inr ⟨by omega, by omega, rfl, rfl⟩) | exact Or.inr (Or.inl ⟨by omega, by omega, by omega, rfl⟩) | (exfalso; omega)
          · refine j_aload_n 28 rfl rfl dX4_sheet_27 ?_
            refine j_iconst 29 rfl dX4_sheet_28 ?_
            refine jV1i 32 rfl dX4_sheet_29 lk_X4_126 rfl rfl (by decide) ( rfl) ( rfl) (s_finding (by omega)) (fun r29 H1 ⟨e, hr29⟩ => ?_)
            subst e
            refine j_ireti dX4_sheet_32 rfl ?_
            first | exact Or.inl ⟨by omega, rfl, rfl⟩ | exact Or.inr (Or.inr ⟨by omega, by omega, rfl, rfl⟩) | exact Or.inr (Or.inl ⟨by omega, by omega, by omega, rfl⟩) | (exfalso; omega)
        · refine j_bipush 22 rfl rfl dX4_sheet_20 ?_
          refine j_ireti dX4_sheet_22 rfl ?_
          first | exact Or.inl ⟨by omega, rfl, rfl⟩ | exact Or.inr (Or.inr ⟨by omega, by omega, rfl, rfl⟩) | exact Or.inr (Or.inl ⟨by omega, by omega, by omega, rfl⟩) | (exfalso; omega)
  · refine jOk.rng (fun hR0 => ?_)
    refine jOk.ofe rfl (Nat.le_of_ble_eq_true rfl) (en_aiii_4 (E := E)) ?_
    refine j_iload_n 1 rfl rfl dX4_sheet_0 ?_
    refine jS1i 4 rfl dX4_sheet_1 lk_X4_120 rfl rfl (s_isSheet hs) (fun r1 H1 ⟨eh_, hr1⟩ => ?_)
    obtain rfl := eh_.symm
    refine j_if_eq 20 7 (by decide) rfl dX4_sheet_4 (by intro hR; first | omega | exact hR _ _ | exact jb_r _ | exact hR0 _ _ | assumption) (fun h4 => ?_) (fun h4 => ?_)
    · refine j_bipush 22 rfl rfl dX4_sheet_20 ?_
      refine j_ireti dX4_sheet_22 rfl ?_
      first | exact Or.inl ⟨by omega, rfl, rfl⟩ | exact Or.inr (Or.inr ⟨by omega, by omega, rfl, rfl⟩) | exact Or.inr (Or.inl ⟨by omega, by omega, by omega, rfl⟩) | (exfalso; omega)
    · refine j_iload_n 8 rfl rfl dX4_sheet_7 ?_
      refine jS1i 11 rfl dX4_sheet_8 lk_X4_221 rfl rfl (s_isForm hf) (fun r8 H1 ⟨eh_, hr8⟩ => ?_)
      obtain rfl := eh_.symm
      refine j_if_eq 20 14 (by decide) rfl dX4_sheet_11 (by intro hR; first | omega | exact hR _ _ | exact jb_r _ | exact hR0 _ _ | assumption) (fun h11 => ?_) (fun h11 => ?_)
      · refine j_bipush 22 rfl rfl dX4_sheet_20 ?_
        refine j_ireti dX4_sheet_22 rfl ?_
        first | exact Or.inl ⟨by omega, rfl, rfl⟩ | exact Or.inr (Or.inr ⟨by omega, by omega, rfl, rfl⟩) | exact Or.inr (Or.inl ⟨by omega, by omega, by omega, rfl⟩) | (exfalso; omega)
      · refine j_iload_n 15 rfl rfl dX4_sheet_14 ?_
        refine j_bipush 17 rfl rfl dX4_sheet_15 ?_
        refine j_icmp_le 23 20 (by decide) rfl dX4_sheet_17 (by intro hR; first | omega | exact hR _ _ | exact jb_r _ | exact hR0 _ _ | assumption) (by intro hR; first | omega | exact hR _ _ | exact jb_r _ | exact hR0 _ _ | assumption) (fun h17 => ?_) (fun h17 => ?_)
        · refine j_iload_n 24 rfl rfl dX4_sheet_23 ?_
          refine j_if_ge 33 27 (by decide) rfl dX4_sheet_24 (by intro hR; first | omega | exact hR _ _ | exact jb_r _ | exact hR0 _ _ | assumption) (fun h24 => ?_) (fun h24 => ?_)
          · refine j_aload_n 34 rfl rfl dX4_sheet_33 ?_
            refine j_getr 37 rfl 7 fl_X4_42 dX4_sheet_34 (by decide) ( rfl) ( rfl) ?_
            refine j_iload_n 38 rfl rfl dX4_sheet_37 ?_
            refine j_aald 39 rfl dX4_sheet_38 (by decide) rfl (by decide) rfl (by omega) (rfl)  ?_
            refine j_iload_n 40 rfl rfl dX4_sheet_39 ?_
            refine j_iload_n 41 rfl rfl dX4_sheet_40 ?_
            refine jV2v 44 rfl dX4_sheet_41 lk_X4_224 rfl rfl (by decide) ( rfl) ( rfl) (s_renew sh3 hf hn) (fun H1 e => ?_)
            subst e
            refine j_iload_n 45 rfl rfl dX4_sheet_44 ?_
            refine j_ireti dX4_sheet_45 rfl ?_
            first | exact Or.inl ⟨by omega, rfl, rfl⟩ | exact Or.inr (Or.inr ⟨by omega, by omega, rfl, rfl⟩) | exact Or.inr (Or.inl ⟨by omega, by omega, by omega, rfl⟩) | (exfalso; omega)
          · refine j_aload_n 28 rfl rfl dX4_sheet_27 ?_
            refine j_iconst 29 rfl dX4_sheet_28 ?_
            refine jV1i 32 rfl dX4_sheet_29 lk_X4_126 rfl rfl (by decide) ( rfl) ( rfl) (s_finding (by omega)) (fun r29 H1 ⟨e, hr29⟩ => ?_)
            subst e
            refine j_ireti dX4_sheet_32 rfl ?_
            first | exact Or.inl ⟨by omega, rfl, rfl⟩ | exact Or.inr (Or.inr ⟨by omega, by omega, rfl, rfl⟩) | exact Or.inr (Or.inl ⟨by omega, by omega, by omega, rfl⟩) | (exfalso; omega)
        · refine j_bipush 22 rfl rfl dX4_sheet_20 ?_
          refine j_ireti dX4_sheet_22 rfl ?_
          first | exact Or.inl ⟨by omega, rfl, rfl⟩ | exact Or.inr (Or.inr ⟨by omega, by omega, rfl, rfl⟩) | exact Or.inr (Or.inl ⟨by omega, by omega, by omega, rfl⟩) | (exfalso; omega)
  · refine jOk.rng (fun hR0 => ?_)
    refine jOk.ofe rfl (Nat.le_of_ble_eq_true rfl) (en_aiii_4 (E := E)) ?_
    refine j_iload_n 1 rfl rfl dX4_sheet_0 ?_
    refine jS1i 4 rfl dX4_sheet_1 lk_X4_120 rfl rfl (s_isSheet hs) (fun r1 H1 ⟨eh_, hr1⟩ => ?_)
    obtain rfl := eh_.symm
    refine j_if_eq 20 7 (by decide) rfl dX4_sheet_4 (by intro hR; first | omega | exact hR _ _ | exact jb_r _ | exact hR0 _ _ | assumption) (fun h4 => ?_) (fun h4 => ?_)
    · refine j_bipush 22 rfl rfl dX4_sheet_20 ?_
      refine j_ireti dX4_sheet_22 rfl ?_
      first | exact Or.inl ⟨by omega, rfl, rfl⟩ | exact Or.inr (Or.inr ⟨by omega, by omega, rfl, rfl⟩) | exact Or.inr (Or.inl ⟨by omega, by omega, by omega, rfl⟩) | (exfalso; omega)
    · exfalso; omega
-- X4_lose
theorem s_lose {s : Int} {k l : Nat} (hk : jShx s k l) (hs : -2147483648 ≤ s ∧ s ≤ 2147483647) : jOk E mX4_lose [jRF E 0, .int (jI s)] H (jQi fun r H' =>
    (¬ (0 ≤ s ∧ s < 4) ∧ r = -2 ∧ H' = H) ∨ ((0 ≤ s ∧ s < 4) ∧ H k 0 ≠ 0 ∧ r = -11 ∧ H' = jU H 0 8 1) ∨ ((0 ≤ s ∧ s < 4) ∧ H k 0 = 0 ∧ r = H k 2 ∧ H' = jU H k 0 1)) := by
  rcases hk with ⟨rfl, rfl, rfl⟩ | ⟨rfl, rfl, rfl⟩ | ⟨rfl, rfl, rfl⟩ | ⟨rfl, rfl, rfl⟩ | hb
  iterate 4
    · refine jOk.rng (fun hR0 => ?_)
      refine jOk.ofe rfl (Nat.le_of_ble_eq_true rfl) (en_ai_2 (E := E)) ?_
      refine j_iload_n 1 rfl rfl dX4_lose_0 ?_
      refine jS1i 4 rfl dX4_lose_1 lk_X4_120 rfl rfl (s_isSheet hs) (fun r1 H1 ⟨eh_, hr1⟩ => ?_)
      obtain rfl := eh_.symm
      refine j_if_ne 10 7 (by decide) rfl dX4_lose_4 (by intro hR; first | omega | exact hR _ _ | exact jb_r _ | exact hR0 _ _ | assumption) (fun h4 => ?_) (fun h4 => ?_)
      · refine j_aload_n 11 rfl rfl dX4_lose_10 ?_
        refine j_getr 14 rfl 7 fl_X4_42 dX4_lose_11 (by decide) ( rfl) ( rfl) ?_
        refine j_iload_n 15 rfl rfl dX4_lose_14 ?_
        refine j_aald 16 rfl dX4_lose_15 (by decide) rfl (by decide) rfl (by omega) (rfl)  ?_
        refine g_geti 19 rfl 0 0 rfl fl_X4_123 dX4_lose_16 (by decide) ( rfl) ( rfl) ?_
        refine j_if_eq 28 22 (by decide) rfl dX4_lose_19 (by intro hR; first | omega | exact hR _ _ | exact jb_r _ | exact hR0 _ _ | assumption) (fun h19 => ?_) (fun h19 => ?_)
        · refine j_aload_n 29 rfl rfl dX4_lose_28 ?_
          refine j_getr 32 rfl 7 fl_X4_42 dX4_lose_29 (by decide) ( rfl) ( rfl) ?_
          refine j_iload_n 33 rfl rfl dX4_lose_32 ?_
          refine j_aald 34 rfl dX4_lose_33 (by decide) rfl (by decide) rfl (by omega) (rfl)  ?_
          refine j_iconst 35 rfl dX4_lose_34 ?_
          refine g_putz 38 rfl 0 0 rfl fl_X4_123 ft_2_0 dX4_lose_35 (by decide) ( rfl) ( rfl) (by first | decide | omega) ?_
          refine j_aload_n 39 rfl rfl dX4_lose_38 ?_
          refine j_getr 42 rfl 7 fl_X4_42 dX4_lose_39 (by decide) ( rfl) ( rfl) ?_
          refine j_iload_n 43 rfl rfl dX4_lose_42 ?_
          refine j_aald 44 rfl dX4_lose_43 (by decide) rfl (by decide) rfl (by omega) (rfl)  ?_
          refine g_geti 47 rfl 2 2 rfl fl_X4_129 dX4_lose_44 (by decide) ( rfl) ( rfl) ?_
          try simp (disch := omega) only [jU_s, jU_k, jU_i]
          refine j_ireti dX4_lose_47 rfl ?_
          first | exact Or.inl ⟨by omega, rfl, rfl⟩ | exact Or.inr (Or.inr ⟨by omega, by omega, rfl, rfl⟩) | exact Or.inr (Or.inl ⟨by omega, by omega, by omega, rfl⟩) | (exfalso; omega)
        · refine j_aload_n 23 rfl rfl dX4_lose_22 ?_
          refine j_iconst 24 rfl dX4_lose_23 ?_
          refine jV1i 27 rfl dX4_lose_24 lk_X4_126 rfl rfl (by decide) ( rfl) ( rfl) (s_finding (by omega)) (fun r24 H1 ⟨e, hr24⟩ => ?_)
          subst e
          refine j_ireti dX4_lose_27 rfl ?_
          first | exact Or.inl ⟨by omega, rfl, rfl⟩ | exact Or.inr (Or.inr ⟨by omega, by omega, rfl, rfl⟩) | exact Or.inr (Or.inl ⟨by omega, by omega, by omega, rfl⟩) | (exfalso; omega)
      · refine j_bipush 9 rfl rfl dX4_lose_7 ?_
        refine j_ireti dX4_lose_9 rfl ?_
        first | exact Or.inl ⟨by omega, rfl, rfl⟩ | exact Or.inr (Or.inr ⟨by omega, by omega, rfl, rfl⟩) | exact Or.inr (Or.inl ⟨by omega, by omega, by omega, rfl⟩) | (exfalso; omega)
  · refine jOk.rng (fun hR0 => ?_)
    refine jOk.ofe rfl (Nat.le_of_ble_eq_true rfl) (en_ai_2 (E := E)) ?_
    refine j_iload_n 1 rfl rfl dX4_lose_0 ?_
    refine jS1i 4 rfl dX4_lose_1 lk_X4_120 rfl rfl (s_isSheet hs) (fun r1 H1 ⟨eh_, hr1⟩ => ?_)
    obtain rfl := eh_.symm
    refine j_if_ne 10 7 (by decide) rfl dX4_lose_4 (by intro hR; first | omega | exact hR _ _ | exact jb_r _ | exact hR0 _ _ | assumption) (fun h4 => ?_) (fun h4 => ?_)
    · exfalso; omega
    · refine j_bipush 9 rfl rfl dX4_lose_7 ?_
      refine j_ireti dX4_lose_9 rfl ?_
      first | exact Or.inl ⟨by omega, rfl, rfl⟩ | exact Or.inr (Or.inr ⟨by omega, by omega, rfl, rfl⟩) | exact Or.inr (Or.inl ⟨by omega, by omega, by omega, rfl⟩) | (exfalso; omega)
-- X4_lay
theorem s_lay {s f i v : Int} {k l : Nat} (hk : jShx s k l) (hs : -2147483648 ≤ s ∧ s ≤ 2147483647) (hf : -2147483648 ≤ f ∧ f ≤ 2147483647) (hi : -2147483648 ≤ i ∧ i ≤ 2147483647) (hv : -2147483648 ≤ v ∧ v ≤ 2147483647) (hz : 0 ≤ H k 2 ∧ H k 2 ≤ 60) : jOk E mX4_lay [jRF E 0, .int (jI s), .int (jI f), .int (jI i), .int (jI v)] H (jQi fun r H' =>
    (¬ (0 ≤ s ∧ s < 4 ∧ 0 ≤ f ∧ f < 3) ∧ r = -2 ∧ H' = H) ∨ ((0 ≤ s ∧ s < 4 ∧ 0 ≤ f ∧ f < 3) ∧ H k 0 ≠ 0 ∧ r = -11 ∧ H' = jU H 0 8 1) ∨ ((0 ≤ s ∧ s < 4 ∧ 0 ≤ f ∧ f < 3) ∧ H k 0 = 0 ∧ H k 1 ≠ f ∧ r = -13 ∧ H' = jU H 0 8 3) ∨
    ((0 ≤ s ∧ s < 4 ∧ 0 ≤ f ∧ f < 3) ∧ H k 0 = 0 ∧ H k 1 = f ∧ ¬ (0 ≤ i ∧ i < H k 2) ∧ r = -12 ∧ H' = jU H 0 8 2) ∨ ((0 ≤ s ∧ s < 4 ∧ 0 ≤ f ∧ f < 3) ∧ (H k 0 = 0 ∧ H k 1 = f) ∧ (0 ≤ i ∧ i < H k 2) ∧ r = 1 ∧ H' = jU H l i (jCut (H k 1) v))) := by
  rcases hk with ⟨rfl, rfl, rfl⟩ | ⟨rfl, rfl, rfl⟩ | ⟨rfl, rfl, rfl⟩ | ⟨rfl, rfl, rfl⟩ | hb
  · refine jOk.rng (fun hR0 => ?_)
    refine jOk.ofe rfl (Nat.le_of_ble_eq_true rfl) (en_aiiii_6 (E := E)) ?_
    refine j_iload_n 1 rfl rfl dX4_lay_0 ?_
    refine jS1i 4 rfl dX4_lay_1 lk_X4_120 rfl rfl (s_isSheet hs) (fun r1 H1 ⟨eh_, hr1⟩ => ?_)
    obtain rfl := eh_.symm
    refine j_if_eq 14 7 (by decide) rfl dX4_lay_4 (by intro hR; first | omega | exact hR _ _ | exact jb_r _ | exact hR0 _ _ | assumption) (fun h4 => ?_) (fun h4 => ?_)
    · refine j_bipush 16 rfl rfl dX4_lay_14 ?_
      refine j_ireti dX4_lay_16 rfl ?_
      (try rcases hw with hw | hw | hw | hw) <;> first | exact Or.inl ⟨by omega, rfl, rfl⟩ | exact Or.inr (Or.inr (Or.inr (Or.inr ⟨by omega, by omega, by omega, rfl, rfl⟩))) | exact Or.inr (Or.inl ⟨by omega, by omega, by omega, by first | rfl | (congr 1; omega)⟩) | exact Or.inr (Or.inr (Or.inl ⟨by omega, by omega, by omega, by omega, by first | rfl | (congr 1; omega)⟩)) | exact Or.inr (Or.inr (Or.inr (Or.inl ⟨by omega, by omega, by omega, by omega, by omega, by first | rfl | (congr 1; omega)⟩))) | (exfalso; omega)
    · refine j_iload_n 8 rfl rfl dX4_lay_7 ?_
      refine jS1i 11 rfl dX4_lay_8 lk_X4_221 rfl rfl (s_isForm hf) (fun r8 H1 ⟨eh_, hr8⟩ => ?_)
      obtain rfl := eh_.symm
      refine j_if_ne 17 14 (by decide) rfl dX4_lay_11 (by intro hR; first | omega | exact hR _ _ | exact jb_r _ | exact hR0 _ _ | assumption) (fun h11 => ?_) (fun h11 => ?_)
      · refine j_aload_n 18 rfl rfl dX4_lay_17 ?_
        refine j_getr 21 rfl 7 fl_X4_42 dX4_lay_18 (by decide) ( rfl) ( rfl) ?_
        refine j_iload_n 22 rfl rfl dX4_lay_21 ?_
        refine j_aald 23 rfl dX4_lay_22 (by decide) rfl (by decide) rfl (by omega) (rfl)  ?_
        refine j_iload_n 24 rfl rfl dX4_lay_23 ?_
        refine j_iload_n 25 rfl rfl dX4_lay_24 ?_
        refine jV2i 28 rfl dX4_lay_25 lk_X4_228 rfl rfl (by decide) ( rfl) ( rfl) (s_findingAt sh0 hf hi hz) (fun w H1 ⟨eh_, hw⟩ => ?_)
        obtain rfl := eh_.symm
        refine j_istore 30 rfl st_6_5 (by decide) rfl dX4_lay_28 ?_
        refine j_iload 32 rfl rfl dX4_lay_30 ?_
        refine j_if_eq 42 35 (by decide) rfl dX4_lay_32 (by intro hR; first | omega | exact hR _ _ | exact jb_r _ | exact hR0 _ _ | assumption) (fun h32 => ?_) (fun h32 => ?_)
        · refine j_aload_n 43 rfl rfl dX4_lay_42 ?_
          refine j_getr 46 rfl 7 fl_X4_42 dX4_lay_43 (by decide) ( rfl) ( rfl) ?_
          refine j_iload_n 47 rfl rfl dX4_lay_46 ?_
          refine j_aald 48 rfl dX4_lay_47 (by decide) rfl (by decide) rfl (by omega) (rfl)  ?_
          refine j_iload_n 49 rfl rfl dX4_lay_48 ?_
          refine j_iload 51 rfl rfl dX4_lay_49 ?_
          refine jV2v 54 rfl dX4_lay_51 lk_X4_231 rfl rfl (by decide) ( rfl) ( rfl) (s_put sh0 (by omega) hv) (fun H1 e => ?_)
          subst e
          refine j_iconst 55 rfl dX4_lay_54 ?_
          refine j_ireti dX4_lay_55 rfl ?_
          (try rcases hw with hw | hw | hw | hw) <;> first | exact Or.inl ⟨by omega, rfl, rfl⟩ | exact Or.inr (Or.inr (Or.inr (Or.inr ⟨by omega, by omega, by omega, rfl, rfl⟩))) | exact Or.inr (Or.inl ⟨by omega, by omega, by omega, by first | rfl | (congr 1; omega)⟩) | exact Or.inr (Or.inr (Or.inl ⟨by omega, by omega, by omega, by omega, by first | rfl | (congr 1; omega)⟩)) | exact Or.inr (Or.inr (Or.inr (Or.inl ⟨by omega, by omega, by omega, by omega, by omega, by first | rfl | (congr 1; omega)⟩))) | (exfalso; omega)
        · refine j_aload_n 36 rfl rfl dX4_lay_35 ?_
          refine j_iload 38 rfl rfl dX4_lay_36 ?_
          refine jV1i 41 rfl dX4_lay_38 lk_X4_126 rfl rfl (by decide) ( rfl) ( rfl) (s_finding (by omega)) (fun r38 H1 ⟨e, hr38⟩ => ?_)
          subst e
          refine j_ireti dX4_lay_41 rfl ?_
          (try rcases hw with hw | hw | hw | hw) <;> first | exact Or.inl ⟨by omega, rfl, rfl⟩ | exact Or.inr (Or.inr (Or.inr (Or.inr ⟨by omega, by omega, by omega, rfl, rfl⟩))) | exact Or.inr (Or.inl ⟨by omega, by omega, by omega, by first | rfl | (congr 1; omega)⟩) | exact Or.inr (Or.inr (Or.inl ⟨by omega, by omega, by omega, by omega, by first | rfl | (congr 1; omega)⟩)) | exact Or.inr (Or.inr (Or.inr (Or.inl ⟨by omega, by omega, by omega, by omega, by omega, by first | rfl | (congr 1; omega)⟩))) | (exfalso; omega)
      · refine j_bipush 16 rfl rfl dX4_lay_14 ?_
        refine j_ireti dX4_lay_16 rfl ?_
        (try rcases hw with hw | hw | hw | hw) <;> first | exact Or.inl ⟨by omega, rfl, rfl⟩ | exact Or.inr (Or.inr (Or.inr (Or.inr ⟨by omega, by omega, by omega, rfl, rfl⟩))) | exact Or.inr (Or.inl ⟨by omega, by omega, by omega, by first | rfl | (congr 1; omega)⟩) | exact Or.inr (Or.inr (Or.inl ⟨by omega, by omega, by omega, by omega, by first | rfl | (congr 1; omega)⟩)) | exact Or.inr (Or.inr (Or.inr (Or.inl ⟨by omega, by omega, by omega, by omega, by omega, by first | rfl | (congr 1; omega)⟩))) | (exfalso; omega)
  · refine jOk.rng (fun hR0 => ?_)
    refine jOk.ofe rfl (Nat.le_of_ble_eq_true rfl) (en_aiiii_6 (E := E)) ?_
    refine j_iload_n 1 rfl rfl dX4_lay_0 ?_
    refine jS1i 4 rfl dX4_lay_1 lk_X4_120 rfl rfl (s_isSheet hs) (fun r1 H1 ⟨eh_, hr1⟩ => ?_)
    obtain rfl := eh_.symm
    refine j_if_eq 14 7 (by decide) rfl dX4_lay_4 (by intro hR; first | omega | exact hR _ _ | exact jb_r _ | exact hR0 _ _ | assumption) (fun h4 => ?_) (fun h4 => ?_)
    · refine j_bipush 16 rfl rfl dX4_lay_14 ?_
      refine j_ireti dX4_lay_16 rfl ?_
      (try rcases hw with hw | hw | hw | hw) <;> first | exact Or.inl ⟨by omega, rfl, rfl⟩ | exact Or.inr (Or.inr (Or.inr (Or.inr ⟨by omega, by omega, by omega, rfl, rfl⟩))) | exact Or.inr (Or.inl ⟨by omega, by omega, by omega, by first | rfl | (congr 1; omega)⟩) | exact Or.inr (Or.inr (Or.inl ⟨by omega, by omega, by omega, by omega, by first | rfl | (congr 1; omega)⟩)) | exact Or.inr (Or.inr (Or.inr (Or.inl ⟨by omega, by omega, by omega, by omega, by omega, by first | rfl | (congr 1; omega)⟩))) | (exfalso; omega)
    · refine j_iload_n 8 rfl rfl dX4_lay_7 ?_
      refine jS1i 11 rfl dX4_lay_8 lk_X4_221 rfl rfl (s_isForm hf) (fun r8 H1 ⟨eh_, hr8⟩ => ?_)
      obtain rfl := eh_.symm
      refine j_if_ne 17 14 (by decide) rfl dX4_lay_11 (by intro hR; first | omega | exact hR _ _ | exact jb_r _ | exact hR0 _ _ | assumption) (fun h11 => ?_) (fun h11 => ?_)
      · refine j_aload_n 18 rfl rfl dX4_lay_17 ?_
        refine j_getr 21 rfl 7 fl_X4_42 dX4_lay_18 (by decide) ( rfl) ( rfl) ?_
        refine j_iload_n 22 rfl rfl dX4_lay_21 ?_
        refine j_aald 23 rfl dX4_lay_22 (by decide) rfl (by decide) rfl (by omega) (rfl)  ?_
        refine j_iload_n 24 rfl rfl dX4_lay_23 ?_
        refine j_iload_n 25 rfl rfl dX4_lay_24 ?_
        refine jV2i 28 rfl dX4_lay_25 lk_X4_228 rfl rfl (by decide) ( rfl) ( rfl) (s_findingAt sh1 hf hi hz) (fun w H1 ⟨eh_, hw⟩ => ?_)
        obtain rfl := eh_.symm
        refine j_istore 30 rfl st_6_5 (by decide) rfl dX4_lay_28 ?_
        refine j_iload 32 rfl rfl dX4_lay_30 ?_
        refine j_if_eq 42 35 (by decide) rfl dX4_lay_32 (by intro hR; first | omega | exact hR _ _ | exact jb_r _ | exact hR0 _ _ | assumption) (fun h32 => ?_) (fun h32 => ?_)
        · refine j_aload_n 43 rfl rfl dX4_lay_42 ?_
          refine j_getr 46 rfl 7 fl_X4_42 dX4_lay_43 (by decide) ( rfl) ( rfl) ?_
          refine j_iload_n 47 rfl rfl dX4_lay_46 ?_
          refine j_aald 48 rfl dX4_lay_47 (by decide) rfl (by decide) rfl (by omega) (rfl)  ?_
          refine j_iload_n 49 rfl rfl dX4_lay_48 ?_
          refine j_iload 51 rfl rfl dX4_lay_49 ?_
          refine jV2v 54 rfl dX4_lay_51 lk_X4_231 rfl rfl (by decide) ( rfl) ( rfl) (s_put sh1 (by omega) hv) (fun H1 e => ?_)
          subst e
          refine j_iconst 55 rfl dX4_lay_54 ?_
          refine j_ireti dX4_lay_55 rfl ?_
          (try rcases hw with hw | hw | hw | hw) <;> first | exact Or.inl ⟨by omega, rfl, rfl⟩ | exact Or.inr (Or.inr (Or.inr (Or.inr ⟨by omega, by omega, by omega, rfl, rfl⟩))) | exact Or.inr (Or.inl ⟨by omega, by omega, by omega, by first | rfl | (congr 1; omega)⟩) | exact Or.inr (Or.inr (Or.inl ⟨by omega, by omega, by omega, by omega, by first | rfl | (congr 1; omega)⟩)) | exact Or.inr (Or.inr (Or.inr (Or.inl ⟨by omega, by omega, by omega, by omega, by omega, by first | rfl | (congr 1; omega)⟩))) | (exfalso; omega)
        · refine j_aload_n 36 rfl rfl dX4_lay_35 ?_
          refine j_iload 38 rfl rfl dX4_lay_36 ?_
          refine jV1i 41 rfl dX4_lay_38 lk_X4_126 rfl rfl (by decide) ( rfl) ( rfl) (s_finding (by omega)) (fun r38 H1 ⟨e, hr38⟩ => ?_)
          subst e
          refine j_ireti dX4_lay_41 rfl ?_
          (try rcases hw with hw | hw | hw | hw) <;> first | exact Or.inl ⟨by omega, rfl, rfl⟩ | exact Or.inr (Or.inr (Or.inr (Or.inr ⟨by omega, by omega, by omega, rfl, rfl⟩))) | exact Or.inr (Or.inl ⟨by omega, by omega, by omega, by first | rfl | (congr 1; omega)⟩) | exact Or.inr (Or.inr (Or.inl ⟨by omega, by omega, by omega, by omega, by first | rfl | (congr 1; omega)⟩)) | exact Or.inr (Or.inr (Or.inr (Or.inl ⟨by omega, by omega, by omega, by omega, by omega, by first | rfl | (congr 1; omega)⟩))) | (exfalso; omega)
      · refine j_bipush 16 rfl rfl dX4_lay_14 ?_
        refine j_ireti dX4_lay_16 rfl ?_
        (try rcases hw with hw | hw | hw | hw) <;> first | exact Or.inl ⟨by omega, rfl, rfl⟩ | exact Or.inr (Or.inr (Or.inr (Or.inr ⟨by omega, by omega, by omega, rfl, rfl⟩))) | exact Or.inr (Or.inl ⟨by omega, by omega, by omega, by first | rfl | (congr 1; omega)⟩) | exact Or.inr (Or.inr (Or.inl ⟨by omega, by omega, by omega, by omega, by first | rfl | (congr 1; omega)⟩)) | exact Or.inr (Or.inr (Or.inr (Or.inl ⟨by omega, by omega, by omega, by omega, by omega, by first | rfl | (congr 1; omega)⟩))) | (exfalso; omega)
  · refine jOk.rng (fun hR0 => ?_)
    refine jOk.ofe rfl (Nat.le_of_ble_eq_true rfl) (en_aiiii_6 (E := E)) ?_
    refine j_iload_n 1 rfl rfl dX4_lay_0 ?_
    refine jS1i 4 rfl dX4_lay_1 lk_X4_120 rfl rfl (s_isSheet hs) (fun r1 H1 ⟨eh_, hr1⟩ => ?_)
    obtain rfl := eh_.symm
    refine j_if_eq 14 7 (by decide) rfl dX4_lay_4 (by intro hR; first | omega | exact hR _ _ | exact jb_r _ | exact hR0 _ _ | assumption) (fun h4 => ?_) (fun h4 => ?_)
    · refine j_bipush 16 rfl rfl dX4_lay_14 ?_
      refine j_ireti dX4_lay_16 rfl ?_
      (try rcases hw with hw | hw | hw | hw) <;> first | exact Or.inl ⟨by omega, rfl, rfl⟩ | exact Or.inr (Or.inr (Or.inr (Or.inr ⟨by omega, by omega, by omega, rfl, rfl⟩))) | exact Or.inr (Or.inl ⟨by omega, by omega, by omega, by first | rfl | (congr 1; omega)⟩) | exact Or.inr (Or.inr (Or.inl ⟨by omega, by omega, by omega, by omega, by first | rfl | (congr 1; omega)⟩)) | exact Or.inr (Or.inr (Or.inr (Or.inl ⟨by omega, by omega, by omega, by omega, by omega, by first | rfl | (congr 1; omega)⟩))) | (exfalso; omega)
    · refine j_iload_n 8 rfl rfl dX4_lay_7 ?_
      refine jS1i 11 rfl dX4_lay_8 lk_X4_221 rfl rfl (s_isForm hf) (fun r8 H1 ⟨eh_, hr8⟩ => ?_)
      obtain rfl := eh_.symm
      refine j_if_ne 17 14 (by decide) rfl dX4_lay_11 (by intro hR; first | omega | exact hR _ _ | exact jb_r _ | exact hR0 _ _ | assumption) (fun h11 => ?_) (fun h11 => ?_)
      · refine j_aload_n 18 rfl rfl dX4_lay_17 ?_
        refine j_getr 21 rfl 7 fl_X4_42 dX4_lay_18 (by decide) ( rfl) ( rfl) ?_
        refine j_iload_n 22 rfl rfl dX4_lay_21 ?_
        refine j_aald 23 rfl dX4_lay_22 (by decide) rfl (by decide) rfl (by omega) (rfl)  ?_
        refine j_iload_n 24 rfl rfl dX4_lay_23 ?_
        refine j_iload_n 25 rfl rfl dX4_lay_24 ?_
        refine jV2i 28 rfl dX4_lay_25 lk_X4_228 rfl rfl (by decide) ( rfl) ( rfl) (s_findingAt sh2 hf hi hz) (fun w H1 ⟨eh_, hw⟩ => ?_)
        obtain rfl := eh_.symm
        refine j_istore 30 rfl st_6_5 (by decide) rfl dX4_lay_28 ?_
        refine j_iload 32 rfl rfl dX4_lay_30 ?_
        refine j_if_eq 42 35 (by decide) rfl dX4_lay_32 (by intro hR; first | omega | exact hR _ _ | exact jb_r _ | exact hR0 _ _ | assumption) (fun h32 => ?_) (fun h32 => ?_)
        · refine j_aload_n 43 rfl rfl dX4_lay_42 ?_
          refine j_getr 46 rfl 7 fl_X4_42 dX4_lay_43 (by decide) ( rfl) ( rfl) ?_
          refine j_iload_n 47 rfl rfl dX4_lay_46 ?_
          refine j_aald 48 rfl dX4_lay_47 (by decide) rfl (by decide) rfl (by omega) (rfl)  ?_
          refine j_iload_n 49 rfl rfl dX4_lay_48 ?_
          refine j_iload 51 rfl rfl dX4_lay_49 ?_
          refine jV2v 54 rfl dX4_lay_51 lk_X4_231 rfl rfl (by decide) ( rfl) ( rfl) (s_put sh2 (by omega) hv) (fun H1 e => ?_)
          subst e
          refine j_iconst 55 rfl dX4_lay_54 ?_
          refine j_ireti dX4_lay_55 rfl ?_
          (try rcases hw with hw | hw | hw | hw) <;> first | exact Or.inl ⟨by omega, rfl, rfl⟩ | exact Or.inr (Or.inr (Or.inr (Or.inr ⟨by omega, by omega, by omega, rfl, rfl⟩))) | exact Or.inr (Or.inl ⟨by omega, by omega, by omega, by first | rfl | (congr 1; omega)⟩) | exact Or.inr (Or.inr (Or.inl ⟨by omega, by omega, by omega, by omega, by first | rfl | (congr 1; omega)⟩)) | exact Or.inr (Or.inr (Or.inr (Or.inl ⟨by omega, by omega, by omega, by omega, by omega, by first | rfl | (congr 1; omega)⟩))) | (exfalso; omega)
        · refine j_aload_n 36 rfl rfl dX4_lay_35 ?_
          refine j_iload 38 rfl rfl dX4_lay_36 ?_
          refine jV1i 41 rfl dX4_lay_38 lk_X4_126 rfl rfl (by decide) ( rfl) ( rfl) (s_finding (by omega)) (fun r38 H1 ⟨e, hr38⟩ => ?_)
          subst e
          refine j_ireti dX4_lay_41 rfl ?_
          (try rcases hw with hw | hw | hw | hw) <;> first | exact Or.inl ⟨by omega, rfl, rfl⟩ | exact Or.inr (Or.inr (Or.inr (Or.inr ⟨by omega, by omega, by omega, rfl, rfl⟩))) | exact Or.inr (Or.inl ⟨by omega, by omega, by omega, by first | rfl | (congr 1; omega)⟩) | exact Or.inr (Or.inr (Or.inl ⟨by omega, by omega, by omega, by omega, by first | rfl | (congr 1; omega)⟩)) | exact Or.inr (Or.inr (Or.inr (Or.inl ⟨by omega, by omega, by omega, by omega, by omega, by first | rfl | (congr 1; omega)⟩))) | (exfalso; omega)
      · refine j_bipush 16 rfl rfl dX4_lay_14 ?_
        refine j_ireti dX4_lay_16 rfl ?_
        (try rcases hw with hw | hw | hw | hw) <;> first | exact Or.inl ⟨by omega, rfl, rfl⟩ | exact Or.inr (Or.inr (Or.inr (Or.inr ⟨by omega, by omega, by omega, rfl, rfl⟩))) | exact Or.inr (Or.inl ⟨by omega, by omega, by omega, by first | rfl | (congr 1; omega)⟩) | exact Or.inr (Or.inr (Or.inl ⟨by omega, by omega, by omega, by omega, by first | rfl | (congr 1; omega)⟩)) | exact Or.inr (Or.inr (Or.inr (Or.inl ⟨by omega, by omega, by omega, by omega, by omega, by first | rfl | (congr 1; omega)⟩))) | (exfalso; omega)
  · refine jOk.rng (fun hR0 => ?_)
    refine jOk.ofe rfl (Nat.le_of_ble_eq_true rfl) (en_aiiii_6 (E := E)) ?_
    refine j_iload_n 1 rfl rfl dX4_lay_0 ?_
    refine jS1i 4 rfl dX4_lay_1 lk_X4_120 rfl rfl (s_isSheet hs) (fun r1 H1 ⟨eh_, hr1⟩ => ?_)
    obtain rfl := eh_.symm
    refine j_if_eq 14 7 (by decide) rfl dX4_lay_4 (by intro hR; first | omega | exact hR _ _ | exact jb_r _ | exact hR0 _ _ | assumption) (fun h4 => ?_) (fun h4 => ?_)
    · refine j_bipush 16 rfl rfl dX4_lay_14 ?_
      refine j_ireti dX4_lay_16 rfl ?_
      (try rcases hw with hw | hw | hw | hw) <;> first | exact Or.inl ⟨by omega, rfl, rfl⟩ | exact Or.inr (Or.inr (Or.inr (Or.inr ⟨by omega, by omega, by omega, rfl, rfl⟩))) | exact Or.inr (Or.inl ⟨by omega, by omega, by omega, by first | rfl | (congr 1; omega)⟩) | exact Or.inr (Or.inr (Or.inl ⟨by omega, by omega, by omega, by omega, by first | rfl | (congr 1; omega)⟩)) | exact Or.inr (Or.inr (Or.inr (Or.inl ⟨by omega, by omega, by omega, by omega, by omega, by first | rfl | (congr 1; omega)⟩))) | (exfalso; omega)
    · refine j_iload_n 8 rfl rfl dX4_lay_7 ?_
      refine jS1i 11 rfl dX4_lay_8 lk_X4_221 rfl rfl (s_isForm hf) (fun r8 H1 ⟨eh_, hr8⟩ => ?_)
      obtain rfl := eh_.symm
      refine j_if_ne 17 14 (by decide) rfl dX4_lay_11 (by intro hR; first | omega | exact hR _ _ | exact jb_r _ | exact hR0 _ _ | assumption) (fun h11 => ?_) (fun h11 => ?_)
      · refine j_aload_n 18 rfl rfl dX4_lay_17 ?_
        refine j_getr 21 rfl 7 fl_X4_42 dX4_lay_18 (by decide) ( rfl) ( rfl) ?_
        refine j_iload_n 22 rfl rfl dX4_lay_21 ?_
        refine j_aald 23 rfl dX4_lay_22 (by decide) rfl (by decide) rfl (by omega) (rfl)  ?_
        refine j_iload_n 24 rfl rfl dX4_lay_23 ?_
        refine j_iload_n 25 rfl rfl dX4_lay_24 ?_
        refine jV2i 28 rfl dX4_lay_25 lk_X4_228 rfl rfl (by decide) ( rfl) ( rfl) (s_findingAt sh3 hf hi hz) (fun w H1 ⟨eh_, hw⟩ => ?_)
        obtain rfl := eh_.symm
        refine j_istore 30 rfl st_6_5 (by decide) rfl dX4_lay_28 ?_
        refine j_iload 32 rfl rfl dX4_lay_30 ?_
        refine j_if_eq 42 35 (by decide) rfl dX4_lay_32 (by intro hR; first | omega | exact hR _ _ | exact jb_r _ | exact hR0 _ _ | assumption) (fun h32 => ?_) (fun h32 => ?_)
        · refine j_aload_n 43 rfl rfl dX4_lay_42 ?_
          refine j_getr 46 rfl 7 fl_X4_42 dX4_lay_43 (by decide) ( rfl) ( rfl) ?_
          refine j_iload_n 47 rfl rfl dX4_lay_46 ?_
          refine j_aald 48 rfl dX4_lay_47 (by decide) rfl (by decide) rfl (by omega) (rfl)  ?_
          refine j_iload_n 49 rfl rfl dX4_lay_48 ?_
          refine j_iload 51 rfl rfl dX4_lay_49 ?_
          refine jV2v 54 rfl dX4_lay_51 lk_X4_231 rfl rfl (by decide) ( rfl) ( rfl) (s_put sh3 (by omega) hv) (fun H1 e => ?_)
          subst e
          refine j_iconst 55 rfl dX4_lay_54 ?_
          refine j_ireti dX4_lay_55 rfl ?_
          (try rcases hw with hw | hw | hw | hw) <;> first | exact Or.inl ⟨by omega, rfl, rfl⟩ | exact Or.inr (Or.inr (Or.inr (Or.inr ⟨by omega, by omega, by omega, rfl, rfl⟩))) | exact Or.inr (Or.inl ⟨by omega, by omega, by omega, by first | rfl | (congr 1; omega)⟩) | exact Or.inr (Or.inr (Or.inl ⟨by omega, by omega, by omega, by omega, by first | rfl | (congr 1; omega)⟩)) | exact Or.inr (Or.inr (Or.inr (Or.inl ⟨by omega, by omega, by omega, by omega, by omega, by first | rfl | (congr 1; omega)⟩))) | (exfalso; omega)
        · refine j_aload_n 36 rfl rfl dX4_lay_35 ?_
          refine j_iload 38 rfl rfl dX4_lay_36 ?_
          refine jV1i 41 rfl dX4_lay_38 lk_X4_126 rfl rfl (by decide) ( rfl) ( rfl) (s_finding (by omega)) (fun r38 H1 ⟨e, hr38⟩ => ?_)
          subst e
          refine j_ireti dX4_lay_41 rfl ?_
          (try rcases hw with hw | hw | hw | hw) <;> first | exact Or.inl ⟨by omega, rfl, rfl⟩ | exact Or.inr (Or.inr (Or.inr (Or.inr ⟨by omega, by omega, by omega, rfl, rfl⟩))) | exact Or.inr (Or.inl ⟨by omega, by omega, by omega, by first | rfl | (congr 1; omega)⟩) | exact Or.inr (Or.inr (Or.inl ⟨by omega, by omega, by omega, by omega, by first | rfl | (congr 1; omega)⟩)) | exact Or.inr (Or.inr (Or.inr (Or.inl ⟨by omega, by omega, by omega, by omega, by omega, by first | rfl | (congr 1; omega)⟩))) | (exfalso; omega)
      · refine j_bipush 16 rfl rfl dX4_lay_14 ?_
        refine j_ireti dX4_lay_16 rfl ?_
        (try rcases hw with hw | hw | hw | hw) <;> first | exact Or.inl ⟨by omega, rfl, rfl⟩ | exact Or.inr (Or.inr (Or.inr (Or.inr ⟨by omega, by omega, by omega, rfl, rfl⟩))) | exact Or.inr (Or.inl ⟨by omega, by omega, by omega, by first | rfl | (congr 1; omega)⟩) | exact Or.inr (Or.inr (Or.inl ⟨by omega, by omega, by omega, by omega, by first | rfl | (congr 1; omega)⟩)) | exact Or.inr (Or.inr (Or.inr (Or.inl ⟨by omega, by omega, by omega, by omega, by omega, by first | rfl | (congr 1; omega)⟩))) | (exfalso; omega)
  · refine jOk.rng (fun hR0 => ?_)
    refine jOk.ofe rfl (Nat.le_of_ble_eq_true rfl) (en_aiiii_6 (E := E)) ?_
    refine j_iload_n 1 rfl rfl dX4_lay_0 ?_
    refine jS1i 4 rfl dX4_lay_1 lk_X4_120 rfl rfl (s_isSheet hs) (fun r1 H1 ⟨eh_, hr1⟩ => ?_)
    obtain rfl := eh_.symm
    refine j_if_eq 14 7 (by decide) rfl dX4_lay_4 (by intro hR; first | omega | exact hR _ _ | exact jb_r _ | exact hR0 _ _ | assumption) (fun h4 => ?_) (fun h4 => ?_)
    · refine j_bipush 16 rfl rfl dX4_lay_14 ?_
      refine j_ireti dX4_lay_16 rfl ?_
      (try rcases hw with hw | hw | hw | hw) <;> first | exact Or.inl ⟨by omega, rfl, rfl⟩ | exact Or.inr (Or.inr (Or.inr (Or.inr ⟨by omega, by omega, by omega, rfl, rfl⟩))) | exact Or.inr (Or.inl ⟨by omega, by omega, by omega, by first | rfl | (congr 1; omega)⟩) | exact Or.inr (Or.inr (Or.inl ⟨by omega, by omega, by omega, by omega, by first | rfl | (congr 1; omega)⟩)) | exact Or.inr (Or.inr (Or.inr (Or.inl ⟨by omega, by omega, by omega, by omega, by omega, by first | rfl | (congr 1; omega)⟩))) | (exfalso; omega)
    · exfalso; omega
-- X4_get
theorem s_get {s f i : Int} {k l : Nat} (hk : jShx s k l) (hs : -2147483648 ≤ s ∧ s ≤ 2147483647) (hf : -2147483648 ≤ f ∧ f ≤ 2147483647) (hi : -2147483648 ≤ i ∧ i ≤ 2147483647) (hz : 0 ≤ H k 2 ∧ H k 2 ≤ 60) : jOk E mX4_get [jRF E 0, .int (jI s), .int (jI f), .int (jI i)] H (jQi fun r H' =>
    (¬ (0 ≤ s ∧ s < 4 ∧ 0 ≤ f ∧ f < 3) ∧ r = -2147483648 ∧ H' = H) ∨ ((0 ≤ s ∧ s < 4 ∧ 0 ≤ f ∧ f < 3) ∧ H k 0 ≠ 0 ∧ r = -2147483648 ∧ H' = jU H 0 8 1) ∨ ((0 ≤ s ∧ s < 4 ∧ 0 ≤ f ∧ f < 3) ∧ H k 0 = 0 ∧ H k 1 ≠ f ∧ r = -2147483648 ∧ H' = jU H 0 8 3) ∨
    ((0 ≤ s ∧ s < 4 ∧ 0 ≤ f ∧ f < 3) ∧ H k 0 = 0 ∧ H k 1 = f ∧ ¬ (0 ≤ i ∧ i < H k 2) ∧ r = -2147483648 ∧ H' = jU H 0 8 2) ∨ ((0 ≤ s ∧ s < 4 ∧ 0 ≤ f ∧ f < 3) ∧ (H k 0 = 0 ∧ H k 1 = f) ∧ (0 ≤ i ∧ i < H k 2) ∧ r = H l i ∧ H' = H)) := by
  rcases hk with ⟨rfl, rfl, rfl⟩ | ⟨rfl, rfl, rfl⟩ | ⟨rfl, rfl, rfl⟩ | ⟨rfl, rfl, rfl⟩ | hb
  · refine jOk.rng (fun hR0 => ?_)
    refine jOk.ofe rfl (Nat.le_of_ble_eq_true rfl) (en_aiii_5 (E := E)) ?_
    refine j_iload_n 1 rfl rfl dX4_get_0 ?_
    refine jS1i 4 rfl dX4_get_1 lk_X4_120 rfl rfl (s_isSheet hs) (fun r1 H1 ⟨eh_, hr1⟩ => ?_)
    obtain rfl := eh_.symm
    refine j_if_eq 14 7 (by decide) rfl dX4_get_4 (by intro hR; first | omega | exact hR _ _ | exact jb_r _ | exact hR0 _ _ | assumption) (fun h4 => ?_) (fun h4 => ?_)
    · refine j_ldc 16 rfl kc_X4_234 dX4_get_14 ?_
      refine j_ireti dX4_get_16 rfl ?_
      (try rcases hw with hw | hw | hw | hw) <;> first | exact Or.inl ⟨by omega, rfl, rfl⟩ | exact Or.inr (Or.inr (Or.inr (Or.inr ⟨by omega, by omega, by omega, rfl, rfl⟩))) | exact Or.inr (Or.inl ⟨by omega, by omega, by omega, by first | rfl | (congr 1; omega)⟩) | exact Or.inr (Or.inr (Or.inl ⟨by omega, by omega, by omega, by omega, by first | rfl | (congr 1; omega)⟩)) | exact Or.inr (Or.inr (Or.inr (Or.inl ⟨by omega, by omega, by omega, by omega, by omega, by first | rfl | (congr 1; omega)⟩))) | (exfalso; omega)
    · refine j_iload_n 8 rfl rfl dX4_get_7 ?_
      refine jS1i 11 rfl dX4_get_8 lk_X4_221 rfl rfl (s_isForm hf) (fun r8 H1 ⟨eh_, hr8⟩ => ?_)
      obtain rfl := eh_.symm
      refine j_if_ne 17 14 (by decide) rfl dX4_get_11 (by intro hR; first | omega | exact hR _ _ | exact jb_r _ | exact hR0 _ _ | assumption) (fun h11 => ?_) (fun h11 => ?_)
      · refine j_aload_n 18 rfl rfl dX4_get_17 ?_
        refine j_getr 21 rfl 7 fl_X4_42 dX4_get_18 (by decide) ( rfl) ( rfl) ?_
        refine j_iload_n 22 rfl rfl dX4_get_21 ?_
        refine j_aald 23 rfl dX4_get_22 (by decide) rfl (by decide) rfl (by omega) (rfl)  ?_
        refine j_iload_n 24 rfl rfl dX4_get_23 ?_
        refine j_iload_n 25 rfl rfl dX4_get_24 ?_
        refine jV2i 28 rfl dX4_get_25 lk_X4_228 rfl rfl (by decide) ( rfl) ( rfl) (s_findingAt sh0 hf hi hz) (fun w H1 ⟨eh_, hw⟩ => ?_)
        obtain rfl := eh_.symm
        refine j_istore 30 rfl st_5_4 (by decide) rfl dX4_get_28 ?_
        refine j_iload 32 rfl rfl dX4_get_30 ?_
        refine j_if_eq 45 35 (by decide) rfl dX4_get_32 (by intro hR; first | omega | exact hR _ _ | exact jb_r _ | exact hR0 _ _ | assumption) (fun h32 => ?_) (fun h32 => ?_)
        · refine j_aload_n 46 rfl rfl dX4_get_45 ?_
          refine j_getr 49 rfl 7 fl_X4_42 dX4_get_46 (by decide) ( rfl) ( rfl) ?_
          refine j_iload_n 50 rfl rfl dX4_get_49 ?_
          refine j_aald 51 rfl dX4_get_50 (by decide) rfl (by decide) rfl (by omega) (rfl)  ?_
          refine j_getr 54 rfl 3 fl_X4_130 dX4_get_51 (by decide) ( rfl) ( rfl) ?_
          refine j_iload_n 55 rfl rfl dX4_get_54 ?_
          refine j_iald 56 rfl dX4_get_55 (by decide) rfl (by decide) rfl (by omega) ?_
          refine j_ireti dX4_get_56 rfl ?_
          (try rcases hw with hw | hw | hw | hw) <;> first | exact Or.inl ⟨by omega, rfl, rfl⟩ | exact Or.inr (Or.inr (Or.inr (Or.inr ⟨by omega, by omega, by omega, rfl, rfl⟩))) | exact Or.inr (Or.inl ⟨by omega, by omega, by omega, by first | rfl | (congr 1; omega)⟩) | exact Or.inr (Or.inr (Or.inl ⟨by omega, by omega, by omega, by omega, by first | rfl | (congr 1; omega)⟩)) | exact Or.inr (Or.inr (Or.inr (Or.inl ⟨by omega, by omega, by omega, by omega, by omega, by first | rfl | (congr 1; omega)⟩))) | (exfalso; omega)
        · refine j_aload_n 36 rfl rfl dX4_get_35 ?_
          refine j_iload 38 rfl rfl dX4_get_36 ?_
          refine jV1i 41 rfl dX4_get_38 lk_X4_126 rfl rfl (by decide) ( rfl) ( rfl) (s_finding (by omega)) (fun r38 H1 ⟨e, hr38⟩ => ?_)
          subst e
          refine j_pop 42 rfl rfl dX4_get_41 ?_
          refine j_ldc 44 rfl kc_X4_234 dX4_get_42 ?_
          refine j_ireti dX4_get_44 rfl ?_
          (try rcases hw with hw | hw | hw | hw) <;> first | exact Or.inl ⟨by omega, rfl, rfl⟩ | exact Or.inr (Or.inr (Or.inr (Or.inr ⟨by omega, by omega, by omega, rfl, rfl⟩))) | exact Or.inr (Or.inl ⟨by omega, by omega, by omega, by first | rfl | (congr 1; omega)⟩) | exact Or.inr (Or.inr (Or.inl ⟨by omega, by omega, by omega, by omega, by first | rfl | (congr 1; omega)⟩)) | exact Or.inr (Or.inr (Or.inr (Or.inl ⟨by omega, by omega, by omega, by omega, by omega, by first | rfl | (congr 1; omega)⟩))) | (exfalso; omega)
      · refine j_ldc 16 rfl kc_X4_234 dX4_get_14 ?_
        refine j_ireti dX4_get_16 rfl ?_
        (try rcases hw with hw | hw | hw | hw) <;> first | exact Or.inl ⟨by omega, rfl, rfl⟩ | exact Or.inr (Or.inr (Or.inr (Or.inr ⟨by omega, by omega, by omega, rfl, rfl⟩))) | exact Or.inr (Or.inl ⟨by omega, by omega, by omega, by first | rfl | (congr 1; omega)⟩) | exact Or.inr (Or.inr (Or.inl ⟨by omega, by omega, by omega, by omega, by first | rfl | (congr 1; omega)⟩)) | exact Or.inr (Or.inr (Or.inr (Or.inl ⟨by omega, by omega, by omega, by omega, by omega, by first | rfl | (congr 1; omega)⟩))) | (exfalso; omega)
  · refine jOk.rng (fun hR0 => ?_)
    refine jOk.ofe rfl (Nat.le_of_ble_eq_true rfl) (en_aiii_5 (E := E)) ?_
    refine j_iload_n 1 rfl rfl dX4_get_0 ?_
    refine jS1i 4 rfl dX4_get_1 lk_X4_120 rfl rfl (s_isSheet hs) (fun r1 H1 ⟨eh_, hr1⟩ => ?_)
    obtain rfl := eh_.symm
    refine j_if_eq 14 7 (by decide) rfl dX4_get_4 (by intro hR; first | omega | exact hR _ _ | exact jb_r _ | exact hR0 _ _ | assumption) (fun h4 => ?_) (fun h4 => ?_)
    · refine j_ldc 16 rfl kc_X4_234 dX4_get_14 ?_
      refine j_ireti dX4_get_16 rfl ?_
      (try rcases hw with hw | hw | hw | hw) <;> first | exact Or.inl ⟨by omega, rfl, rfl⟩ | exact Or.inr (Or.inr (Or.inr (Or.inr ⟨by omega, by omega, by omega, rfl, rfl⟩))) | exact Or.inr (Or.inl ⟨by omega, by omega, by omega, by first | rfl | (congr 1; omega)⟩) | exact Or.inr (Or.inr (Or.inl ⟨by omega, by omega, by omega, by omega, by first | rfl | (congr 1; omega)⟩)) | exact Or.inr (Or.inr (Or.inr (Or.inl ⟨by omega, by omega, by omega, by omega, by omega, by first | rfl | (congr 1; omega)⟩))) | (exfalso; omega)
    · refine j_iload_n 8 rfl rfl dX4_get_7 ?_
      refine jS1i 11 rfl dX4_get_8 lk_X4_221 rfl rfl (s_isForm hf) (fun r8 H1 ⟨eh_, hr8⟩ => ?_)
      obtain rfl := eh_.symm
      refine j_if_ne 17 14 (by decide) rfl dX4_get_11 (by intro hR; first | omega | exact hR _ _ | exact jb_r _ | exact hR0 _ _ | assumption) (fun h11 => ?_) (fun h11 => ?_)
      · refine j_aload_n 18 rfl rfl dX4_get_17 ?_
        refine j_getr 21 rfl 7 fl_X4_42 dX4_get_18 (by decide) ( rfl) ( rfl) ?_
        refine j_iload_n 22 rfl rfl dX4_get_21 ?_
        refine j_aald 23 rfl dX4_get_22 (by decide) rfl (by decide) rfl (by omega) (rfl)  ?_
        refine j_iload_n 24 rfl rfl dX4_get_23 ?_
        refine j_iload_n 25 rfl rfl dX4_get_24 ?_
        refine jV2i 28 rfl dX4_get_25 lk_X4_228 rfl rfl (by decide) ( rfl) ( rfl) (s_findingAt sh1 hf hi hz) (fun w H1 ⟨eh_, hw⟩ => ?_)
        obtain rfl := eh_.symm
        refine j_istore 30 rfl st_5_4 (by decide) rfl dX4_get_28 ?_
        refine j_iload 32 rfl rfl dX4_get_30 ?_
        refine j_if_eq 45 35 (by decide) rfl dX4_get_32 (by intro hR; first | omega | exact hR _ _ | exact jb_r _ | exact hR0 _ _ | assumption) (fun h32 => ?_) (fun h32 => ?_)
        · refine j_aload_n 46 rfl rfl dX4_get_45 ?_
          refine j_getr 49 rfl 7 fl_X4_42 dX4_get_46 (by decide) ( rfl) ( rfl) ?_
          refine j_iload_n 50 rfl rfl dX4_get_49 ?_
          refine j_aald 51 rfl dX4_get_50 (by decide) rfl (by decide) rfl (by omega) (rfl)  ?_
          refine j_getr 54 rfl 3 fl_X4_130 dX4_get_51 (by decide) ( rfl) ( rfl) ?_
          refine j_iload_n 55 rfl rfl dX4_get_54 ?_
          refine j_iald 56 rfl dX4_get_55 (by decide) rfl (by decide) rfl (by omega) ?_
          refine j_ireti dX4_get_56 rfl ?_
          (try rcases hw with hw | hw | hw | hw) <;> first | exact Or.inl ⟨by omega, rfl, rfl⟩ | exact Or.inr (Or.inr (Or.inr (Or.inr ⟨by omega, by omega, by omega, rfl, rfl⟩))) | exact Or.inr (Or.inl ⟨by omega, by omega, by omega, by first | rfl | (congr 1; omega)⟩) | exact Or.inr (Or.inr (Or.inl ⟨by omega, by omega, by omega, by omega, by first | rfl | (congr 1; omega)⟩)) | exact Or.inr (Or.inr (Or.inr (Or.inl ⟨by omega, by omega, by omega, by omega, by omega, by first | rfl | (congr 1; omega)⟩))) | (exfalso; omega)
        · refine j_aload_n 36 rfl rfl dX4_get_35 ?_
          refine j_iload 38 rfl rfl dX4_get_36 ?_
          refine jV1i 41 rfl dX4_get_38 lk_X4_126 rfl rfl (by decide) ( rfl) ( rfl) (s_finding (by omega)) (fun r38 H1 ⟨e, hr38⟩ => ?_)
          subst e
          refine j_pop 42 rfl rfl dX4_get_41 ?_
          refine j_ldc 44 rfl kc_X4_234 dX4_get_42 ?_
          refine j_ireti dX4_get_44 rfl ?_
          (try rcases hw with hw | hw | hw | hw) <;> first | exact Or.inl ⟨by omega, rfl, rfl⟩ | exact Or.inr (Or.inr (Or.inr (Or.inr ⟨by omega, by omega, by omega, rfl, rfl⟩))) | exact Or.inr (Or.inl ⟨by omega, by omega, by omega, by first | rfl | (congr 1; omega)⟩) | exact Or.inr (Or.inr (Or.inl ⟨by omega, by omega, by omega, by omega, by first | rfl | (congr 1; omega)⟩)) | exact Or.inr (Or.inr (Or.inr (Or.inl ⟨by omega, by omega, by omega, by omega, by omega, by first | rfl | (congr 1; omega)⟩))) | (exfalso; omega)
      · refine j_ldc 16 rfl kc_X4_234 dX4_get_14 ?_
        refine j_ireti dX4_get_16 rfl ?_
        (try rcases hw with hw | hw | hw | hw) <;> first | exact Or.inl ⟨by omega, rfl, rfl⟩ | exact Or.inr (Or.inr (Or.inr (Or.inr ⟨by omega, by omega, by omega, rfl, rfl⟩))) | exact Or.inr (Or.inl ⟨by omega, by omega, by omega, by first | rfl | (congr 1; omega)⟩) | exact Or.inr (Or.inr (Or.inl ⟨by omega, by omega, by omega, by omega, by first | rfl | (congr 1; omega)⟩)) | exact Or.inr (Or.inr (Or.inr (Or.inl ⟨by omega, by omega, by omega, by omega, by omega, by first | rfl | (congr 1; omega)⟩))) | (exfalso; omega)
  · refine jOk.rng (fun hR0 => ?_)
    refine jOk.ofe rfl (Nat.le_of_ble_eq_true rfl) (en_aiii_5 (E := E)) ?_
    refine j_iload_n 1 rfl rfl dX4_get_0 ?_
    refine jS1i 4 rfl dX4_get_1 lk_X4_120 rfl rfl (s_isSheet hs) (fun r1 H1 ⟨eh_, hr1⟩ => ?_)
    obtain rfl := eh_.symm
    refine j_if_eq 14 7 (by decide) rfl dX4_get_4 (by intro hR; first | omega | exact hR _ _ | exact jb_r _ | exact hR0 _ _ | assumption) (fun h4 => ?_) (fun h4 => ?_)
    · refine j_ldc 16 rfl kc_X4_234 dX4_get_14 ?_
      refine j_ireti dX4_get_16 rfl ?_
      (try rcases hw with hw | hw | hw | hw) <;> first | exact Or.inl ⟨by omega, rfl, rfl⟩ | exact Or.inr (Or.inr (Or.inr (Or.inr ⟨by omega, by omega, by omega, rfl, rfl⟩))) | exact Or.inr (Or.inl ⟨by omega, by omega, by omega, by first | rfl | (congr 1; omega)⟩) | exact Or.inr (Or.inr (Or.inl ⟨by omega, by omega, by omega, by omega, by first | rfl | (congr 1; omega)⟩)) | exact Or.inr (Or.inr (Or.inr (Or.inl ⟨by omega, by omega, by omega, by omega, by omega, by first | rfl | (congr 1; omega)⟩))) | (exfalso; omega)
    · refine j_iload_n 8 rfl rfl dX4_get_7 ?_
      refine jS1i 11 rfl dX4_get_8 lk_X4_221 rfl rfl (s_isForm hf) (fun r8 H1 ⟨eh_, hr8⟩ => ?_)
      obtain rfl := eh_.symm
      refine j_if_ne 17 14 (by decide) rfl dX4_get_11 (by intro hR; first | omega | exact hR _ _ | exact jb_r _ | exact hR0 _ _ | assumption) (fun h11 => ?_) (fun h11 => ?_)
      · refine j_aload_n 18 rfl rfl dX4_get_17 ?_
        refine j_getr 21 rfl 7 fl_X4_42 dX4_get_18 (by decide) ( rfl) ( rfl) ?_
        refine j_iload_n 22 rfl rfl dX4_get_21 ?_
        refine j_aald 23 rfl dX4_get_22 (by decide) rfl (by decide) rfl (by omega) (rfl)  ?_
        refine j_iload_n 24 rfl rfl dX4_get_23 ?_
        refine j_iload_n 25 rfl rfl dX4_get_24 ?_
        refine jV2i 28 rfl dX4_get_25 lk_X4_228 rfl rfl (by decide) ( rfl) ( rfl) (s_findingAt sh2 hf hi hz) (fun w H1 ⟨eh_, hw⟩ => ?_)
        obtain rfl := eh_.symm
        refine j_istore 30 rfl st_5_4 (by decide) rfl dX4_get_28 ?_
        refine j_iload 32 rfl rfl dX4_get_30 ?_
        refine j_if_eq 45 35 (by decide) rfl dX4_get_32 (by intro hR; first | omega | exact hR _ _ | exact jb_r _ | exact hR0 _ _ | assumption) (fun h32 => ?_) (fun h32 => ?_)
        · refine j_aload_n 46 rfl rfl dX4_get_45 ?_
          refine j_getr 49 rfl 7 fl_X4_42 dX4_get_46 (by decide) ( rfl) ( rfl) ?_
          refine j_iload_n 50 rfl rfl dX4_get_49 ?_
          refine j_aald 51 rfl dX4_get_50 (by decide) rfl (by decide) rfl (by omega) (rfl)  ?_
          refine j_getr 54 rfl 3 fl_X4_130 dX4_get_51 (by decide) ( rfl) ( rfl) ?_
          refine j_iload_n 55 rfl rfl dX4_get_54 ?_
          refine j_iald 56 rfl dX4_get_55 (by decide) rfl (by decide) rfl (by omega) ?_
          refine j_ireti dX4_get_56 rfl ?_
          (try rcases hw with hw | hw | hw | hw) <;> first | exact Or.inl ⟨by omega, rfl, rfl⟩ | exact Or.inr (Or.inr (Or.inr (Or.inr ⟨by omega, by omega, by omega, rfl, rfl⟩))) | exact Or.inr (Or.inl ⟨by omega, by omega, by omega, by first | rfl | (congr 1; omega)⟩) | exact Or.inr (Or.inr (Or.inl ⟨by omega, by omega, by omega, by omega, by first | rfl | (congr 1; omega)⟩)) | exact Or.inr (Or.inr (Or.inr (Or.inl ⟨by omega, by omega, by omega, by omega, by omega, by first | rfl | (congr 1; omega)⟩))) | (exfalso; omega)
        · refine j_aload_n 36 rfl rfl dX4_get_35 ?_
          refine j_iload 38 rfl rfl dX4_get_36 ?_
          refine jV1i 41 rfl dX4_get_38 lk_X4_126 rfl rfl (by decide) ( rfl) ( rfl) (s_finding (by omega)) (fun r38 H1 ⟨e, hr38⟩ => ?_)
          subst e
          refine j_pop 42 rfl rfl dX4_get_41 ?_
          refine j_ldc 44 rfl kc_X4_234 dX4_get_42 ?_
          refine j_ireti dX4_get_44 rfl ?_
          (try rcases hw with hw | hw | hw | hw) <;> first | exact Or.inl ⟨by omega, rfl, rfl⟩ | exact Or.inr (Or.inr (Or.inr (Or.inr ⟨by omega, by omega, by omega, rfl, rfl⟩))) | exact Or.inr (Or.inl ⟨by omega, by omega, by omega, by first | rfl | (congr 1; omega)⟩) | exact Or.inr (Or.inr (Or.inl ⟨by omega, by omega, by omega, by omega, by first | rfl | (congr 1; omega)⟩)) | exact Or.inr (Or.inr (Or.inr (Or.inl ⟨by omega, by omega, by omega, by omega, by omega, by first | rfl | (congr 1; omega)⟩))) | (exfalso; omega)
      · refine j_ldc 16 rfl kc_X4_234 dX4_get_14 ?_
        refine j_ireti dX4_get_16 rfl ?_
        (try rcases hw with hw | hw | hw | hw) <;> first | exact Or.inl ⟨by omega, rfl, rfl⟩ | exact Or.inr (Or.inr (Or.inr (Or.inr ⟨by omega, by omega, by omega, rfl, rfl⟩))) | exact Or.inr (Or.inl ⟨by omega, by omega, by omega, by first | rfl | (congr 1; omega)⟩) | exact Or.inr (Or.inr (Or.inl ⟨by omega, by omega, by omega, by omega, by first | rfl | (congr 1; omega)⟩)) | exact Or.inr (Or.inr (Or.inr (Or.inl ⟨by omega, by omega, by omega, by omega, by omega, by first | rfl | (congr 1; omega)⟩))) | (exfalso; omega)
  · refine jOk.rng (fun hR0 => ?_)
    refine jOk.ofe rfl (Nat.le_of_ble_eq_true rfl) (en_aiii_5 (E := E)) ?_
    refine j_iload_n 1 rfl rfl dX4_get_0 ?_
    refine jS1i 4 rfl dX4_get_1 lk_X4_120 rfl rfl (s_isSheet hs) (fun r1 H1 ⟨eh_, hr1⟩ => ?_)
    obtain rfl := eh_.symm
    refine j_if_eq 14 7 (by decide) rfl dX4_get_4 (by intro hR; first | omega | exact hR _ _ | exact jb_r _ | exact hR0 _ _ | assumption) (fun h4 => ?_) (fun h4 => ?_)
    · refine j_ldc 16 rfl kc_X4_234 dX4_get_14 ?_
      refine j_ireti dX4_get_16 rfl ?_
      (try rcases hw with hw | hw | hw | hw) <;> first | exact Or.inl ⟨by omega, rfl, rfl⟩ | exact Or.inr (Or.inr (Or.inr (Or.inr ⟨by omega, by omega, by omega, rfl, rfl⟩))) | exact Or.inr (Or.inl ⟨by omega, by omega, by omega, by first | rfl | (congr 1; omega)⟩) | exact Or.inr (Or.inr (Or.inl ⟨by omega, by omega, by omega, by omega, by first | rfl | (congr 1; omega)⟩)) | exact Or.inr (Or.inr (Or.inr (Or.inl ⟨by omega, by omega, by omega, by omega, by omega, by first | rfl | (congr 1; omega)⟩))) | (exfalso; omega)
    · refine j_iload_n 8 rfl rfl dX4_get_7 ?_
      refine jS1i 11 rfl dX4_get_8 lk_X4_221 rfl rfl (s_isForm hf) (fun r8 H1 ⟨eh_, hr8⟩ => ?_)
      obtain rfl := eh_.symm
      refine j_if_ne 17 14 (by decide) rfl dX4_get_11 (by intro hR; first | omega | exact hR _ _ | exact jb_r _ | exact hR0 _ _ | assumption) (fun h11 => ?_) (fun h11 => ?_)
      · refine j_aload_n 18 rfl rfl dX4_get_17 ?_
        refine j_getr 21 rfl 7 fl_X4_42 dX4_get_18 (by decide) ( rfl) ( rfl) ?_
        refine j_iload_n 22 rfl rfl dX4_get_21 ?_
        refine j_aald 23 rfl dX4_get_22 (by decide) rfl (by decide) rfl (by omega) (rfl)  ?_
        refine j_iload_n 24 rfl rfl dX4_get_23 ?_
        refine j_iload_n 25 rfl rfl dX4_get_24 ?_
        refine jV2i 28 rfl dX4_get_25 lk_X4_228 rfl rfl (by decide) ( rfl) ( rfl) (s_findingAt sh3 hf hi hz) (fun w H1 ⟨eh_, hw⟩ => ?_)
        obtain rfl := eh_.symm
        refine j_istore 30 rfl st_5_4 (by decide) rfl dX4_get_28 ?_
        refine j_iload 32 rfl rfl dX4_get_30 ?_
        refine j_if_eq 45 35 (by decide) rfl dX4_get_32 (by intro hR; first | omega | exact hR _ _ | exact jb_r _ | exact hR0 _ _ | assumption) (fun h32 => ?_) (fun h32 => ?_)
        · refine j_aload_n 46 rfl rfl dX4_get_45 ?_
          refine j_getr 49 rfl 7 fl_X4_42 dX4_get_46 (by decide) ( rfl) ( rfl) ?_
          refine j_iload_n 50 rfl rfl dX4_get_49 ?_
          refine j_aald 51 rfl dX4_get_50 (by decide) rfl (by decide) rfl (by omega) (rfl)  ?_
          refine j_getr 54 rfl 3 fl_X4_130 dX4_get_51 (by decide) ( rfl) ( rfl) ?_
          refine j_iload_n 55 rfl rfl dX4_get_54 ?_
          refine j_iald 56 rfl dX4_get_55 (by decide) rfl (by decide) rfl (by omega) ?_
          refine j_ireti dX4_get_56 rfl ?_
          (try rcases hw with hw | hw | hw | hw) <;> first | exact Or.inl ⟨by omega, rfl, rfl⟩ | exact Or.inr (Or.inr (Or.inr (Or.inr ⟨by omega, by omega, by omega, rfl, rfl⟩))) | exact Or.inr (Or.inl ⟨by omega, by omega, by omega, by first | rfl | (congr 1; omega)⟩) | exact Or.inr (Or.inr (Or.inl ⟨by omega, by omega, by omega, by omega, by first | rfl | (congr 1; omega)⟩)) | exact Or.inr (Or.inr (Or.inr (Or.inl ⟨by omega, by omega, by omega, by omega, by omega, by first | rfl | (congr 1; omega)⟩))) | (exfalso; omega)
        · refine j_aload_n 36 rfl rfl dX4_get_35 ?_
          refine j_iload 38 rfl rfl dX4_get_36 ?_
          refine jV1i 41 rfl dX4_get_38 lk_X4_126 rfl rfl (by decide) ( rfl) ( rfl) (s_finding (by omega)) (fun r38 H1 ⟨e, hr38⟩ => ?_)
          subst e
          refine j_pop 42 rfl rfl dX4_get_41 ?_
          refine j_ldc 44 rfl kc_X4_234 dX4_get_42 ?_
          refine j_ireti dX4_get_44 rfl ?_
          (try rcases hw with hw | hw | hw | hw) <;> first | exact Or.inl ⟨by omega, rfl, rfl⟩ | exact Or.inr (Or.inr (Or.inr (Or.inr ⟨by omega, by omega, by omega, rfl, rfl⟩))) | exact Or.inr (Or.inl ⟨by omega, by omega, by omega, by first | rfl | (congr 1; omega)⟩) | exact Or.inr (Or.inr (Or.inl ⟨by omega, by omega, by omega, by omega, by first | rfl | (congr 1; omega)⟩)) | exact Or.inr (Or.inr (Or.inr (Or.inl ⟨by omega, by omega, by omega, by omega, by omega, by first | rfl | (congr 1; omega)⟩))) | (exfalso; omega)
      · refine j_ldc 16 rfl kc_X4_234 dX4_get_14 ?_
        refine j_ireti dX4_get_16 rfl ?_
        (try rcases hw with hw | hw | hw | hw) <;> first | exact Or.inl ⟨by omega, rfl, rfl⟩ | exact Or.inr (Or.inr (Or.inr (Or.inr ⟨by omega, by omega, by omega, rfl, rfl⟩))) | exact Or.inr (Or.inl ⟨by omega, by omega, by omega, by first | rfl | (congr 1; omega)⟩) | exact Or.inr (Or.inr (Or.inl ⟨by omega, by omega, by omega, by omega, by first | rfl | (congr 1; omega)⟩)) | exact Or.inr (Or.inr (Or.inr (Or.inl ⟨by omega, by omega, by omega, by omega, by omega, by first | rfl | (congr 1; omega)⟩))) | (exfalso; omega)
  · refine jOk.rng (fun hR0 => ?_)
    refine jOk.ofe rfl (Nat.le_of_ble_eq_true rfl) (en_aiii_5 (E := E)) ?_
    refine j_iload_n 1 rfl rfl dX4_get_0 ?_
    refine jS1i 4 rfl dX4_get_1 lk_X4_120 rfl rfl (s_isSheet hs) (fun r1 H1 ⟨eh_, hr1⟩ => ?_)
    obtain rfl := eh_.symm
    refine j_if_eq 14 7 (by decide) rfl dX4_get_4 (by intro hR; first | omega | exact hR _ _ | exact jb_r _ | exact hR0 _ _ | assumption) (fun h4 => ?_) (fun h4 => ?_)
    · refine j_ldc 16 rfl kc_X4_234 dX4_get_14 ?_
      refine j_ireti dX4_get_16 rfl ?_
      (try rcases hw with hw | hw | hw | hw) <;> first | exact Or.inl ⟨by omega, rfl, rfl⟩ | exact Or.inr (Or.inr (Or.inr (Or.inr ⟨by omega, by omega, by omega, rfl, rfl⟩))) | exact Or.inr (Or.inl ⟨by omega, by omega, by omega, by first | rfl | (congr 1; omega)⟩) | exact Or.inr (Or.inr (Or.inl ⟨by omega, by omega, by omega, by omega, by first | rfl | (congr 1; omega)⟩)) | exact Or.inr (Or.inr (Or.inr (Or.inl ⟨by omega, by omega, by omega, by omega, by omega, by first | rfl | (congr 1; omega)⟩))) | (exfalso; omega)
    · exfalso; omega
-- X4_copy
theorem s_copy {s i t j n : Int} {k l k2 l2 : Nat} (hk : jShx s k l) (hk2 : jShx t k2 l2) (hs : -2147483648 ≤ s ∧ s ≤ 2147483647) (ht : -2147483648 ≤ t ∧ t ≤ 2147483647) (hi : -2147483648 ≤ i ∧ i ≤ 2147483647) (hj : -2147483648 ≤ j ∧ j ≤ 2147483647) (hn : -2147483648 ≤ n ∧ n ≤ 2147483647) (hz : 0 ≤ H k 2 ∧ H k 2 ≤ 60) (hz2 : 0 ≤ H k2 2 ∧ H k2 2 ≤ 60) : jOk E mX4_copy [jRF E 0, .int (jI s), .int (jI i), .int (jI t), .int (jI j), .int (jI n)] H (jQi fun r H' =>
    (¬ (0 ≤ s ∧ s < 4 ∧ 0 ≤ t ∧ t < 4) ∧ r = -2 ∧ H' = H) ∨ ((0 ≤ s ∧ s < 4 ∧ 0 ≤ t ∧ t < 4) ∧ (H k 0 ≠ 0 ∨ H k2 0 ≠ 0) ∧ r = -11 ∧ H' = jU H 0 8 1) ∨ ((0 ≤ s ∧ s < 4 ∧ 0 ≤ t ∧ t < 4) ∧ (H k 0 = 0 ∧ H k2 0 = 0) ∧ H k 1 ≠ H k2 1 ∧ r = -14 ∧ H' = jU H 0 8 4) ∨
    ((0 ≤ s ∧ s < 4 ∧ 0 ≤ t ∧ t < 4) ∧ (H k 0 = 0 ∧ H k2 0 = 0 ∧ H k 1 = H k2 1) ∧ ¬ (0 ≤ i ∧ 0 ≤ j ∧ 0 ≤ n ∧ i + n ≤ H k 2 ∧ j + n ≤ H k2 2) ∧ r = -12 ∧ H' = jU H 0 8 2) ∨ ((0 ≤ s ∧ s < 4 ∧ 0 ≤ t ∧ t < 4) ∧ (H k 0 = 0 ∧ H k2 0 = 0 ∧ H k 1 = H k2 1) ∧ (0 ≤ i ∧ 0 ≤ j ∧ 0 ≤ n ∧ i + n ≤ H k 2 ∧ j + n ≤ H k2 2) ∧ r = 1 ∧ H' = jCpy H l l2 i j n)) := by
  by_cases hb : (0 ≤ s ∧ s < 4) ∧ (0 ≤ t ∧ t < 4)
  · rcases hk with ⟨rfl, rfl, rfl⟩ | ⟨rfl, rfl, rfl⟩ | ⟨rfl, rfl, rfl⟩ | ⟨rfl, rfl, rfl⟩ | hx
    · rcases hk2 with ⟨rfl, rfl, rfl⟩ | ⟨rfl, rfl, rfl⟩ | ⟨rfl, rfl, rfl⟩ | ⟨rfl, rfl, rfl⟩ | hx
      · refine jOk.rng (fun hR0 => ?_)
        refine jOk.ofe rfl (Nat.le_of_ble_eq_true rfl) (en_aiiiii_8 (E := E)) ?_
        refine j_iload_n 1 rfl rfl dX4_copy_0 ?_
        refine jS1i 4 rfl dX4_copy_1 lk_X4_120 rfl rfl (s_isSheet (by omega)) (fun r1 H1 ⟨eh_, hr1⟩ => ?_)
        obtain rfl := eh_.symm
        refine j_if_eq 14 7 (by decide) rfl dX4_copy_4 (by intro hR; first | omega | exact hR _ _ | exact jb_r _ | exact hR0 _ _ | assumption) (fun h4 => ?_) (fun h4 => ?_)
        · refine j_bipush 16 rfl rfl dX4_copy_14 ?_
          refine j_ireti dX4_copy_16 rfl ?_
          first | exact Or.inl ⟨by omega, rfl, rfl⟩ | exact Or.inr (Or.inr (Or.inr (Or.inr ⟨by omega, by omega, by omega, rfl, rfl⟩))) | exact Or.inr (Or.inl ⟨by omega, by omega, by omega, rfl⟩) | exact Or.inr (Or.inr (Or.inl ⟨by omega, by omega, by omega, by omega, rfl⟩)) | exact Or.inr (Or.inr (Or.inr (Or.inl ⟨by omega, by omega, by omega, by omega, rfl⟩))) | (exfalso; omega)
        · refine j_iload_n 8 rfl rfl dX4_copy_7 ?_
          refine jS1i 11 rfl dX4_copy_8 lk_X4_120 rfl rfl (s_isSheet (by omega)) (fun r8 H1 ⟨eh_, hr8⟩ => ?_)
          obtain rfl := eh_.symm
          refine j_if_ne 17 14 (by decide) rfl dX4_copy_11 (by intro hR; first | omega | exact hR _ _ | exact jb_r _ | exact hR0 _ _ | assumption) (fun h11 => ?_) (fun h11 => ?_)
          · refine j_aload_n 18 rfl rfl dX4_copy_17 ?_
            refine j_getr 21 rfl 7 fl_X4_42 dX4_copy_18 (by decide) ( rfl) ( rfl) ?_
            refine j_iload_n 22 rfl rfl dX4_copy_21 ?_
            refine j_aald 23 rfl dX4_copy_22 (by decide) rfl (by decide) rfl (by omega) (rfl)  ?_
            refine j_astore 25 rfl st_8_6 (by decide) rfl dX4_copy_23 ?_
            refine j_aload_n 26 rfl rfl dX4_copy_25 ?_
            refine j_getr 29 rfl 7 fl_X4_42 dX4_copy_26 (by decide) ( rfl) ( rfl) ?_
            refine j_iload_n 30 rfl rfl dX4_copy_29 ?_
            refine j_aald 31 rfl dX4_copy_30 (by decide) rfl (by decide) rfl (by omega) (rfl)  ?_
            refine j_astore 33 rfl st_8_7 (by decide) rfl dX4_copy_31 ?_
            refine j_aload 35 rfl rfl dX4_copy_33 ?_
            refine g_geti 38 rfl 0 0 rfl fl_X4_123 dX4_copy_35 (by decide) ( rfl) ( rfl) ?_
            refine j_if_ne 49 41 (by decide) rfl dX4_copy_38 (by intro hR; first | omega | exact hR _ _ | exact jb_r _ | exact hR0 _ _ | assumption) (fun h38 => ?_) (fun h38 => ?_)
            · refine j_aload_n 50 rfl rfl dX4_copy_49 ?_
              refine j_iconst 51 rfl dX4_copy_50 ?_
              refine jV1i 54 rfl dX4_copy_51 lk_X4_126 rfl rfl (by decide) ( rfl) ( rfl) (s_finding (by omega)) (fun r51 H1 ⟨e, hr51⟩ => ?_)
              subst e
              refine j_ireti dX4_copy_54 rfl ?_
              first | exact Or.inl ⟨by omega, rfl, rfl⟩ | exact Or.inr (Or.inr (Or.inr (Or.inr ⟨by omega, by omega, by omega, rfl, rfl⟩))) | exact Or.inr (Or.inl ⟨by omega, by omega, by omega, rfl⟩) | exact Or.inr (Or.inr (Or.inl ⟨by omega, by omega, by omega, by omega, rfl⟩)) | exact Or.inr (Or.inr (Or.inr (Or.inl ⟨by omega, by omega, by omega, by omega, rfl⟩))) | (exfalso; omega)
            · refine j_aload 43 rfl rfl dX4_copy_41 ?_
              refine g_geti 46 rfl 0 0 rfl fl_X4_123 dX4_copy_43 (by decide) ( rfl) ( rfl) ?_
              refine j_if_eq 55 49 (by decide) rfl dX4_copy_46 (by intro hR; first | omega | exact hR _ _ | exact jb_r _ | exact hR0 _ _ | assumption) (fun h46 => ?_) (fun h46 => ?_)
              · refine j_aload 57 rfl rfl dX4_copy_55 ?_
                refine g_geti 60 rfl 1 1 rfl fl_X4_235 dX4_copy_57 (by decide) ( rfl) ( rfl) ?_
                refine j_aload 62 rfl rfl dX4_copy_60 ?_
                refine g_geti 65 rfl 1 1 rfl fl_X4_235 dX4_copy_62 (by decide) ( rfl) ( rfl) ?_
                refine j_icmp_eq 74 68 (by decide) rfl dX4_copy_65 (by intro hR; first | omega | exact hR _ _ | exact jb_r _ | exact hR0 _ _ | assumption) (by intro hR; first | omega | exact hR _ _ | exact jb_r _ | exact hR0 _ _ | assumption) (fun h65 => ?_) (fun h65 => ?_)
                · refine j_aload 76 rfl rfl dX4_copy_74 ?_
                  refine j_iload_n 77 rfl rfl dX4_copy_76 ?_
                  refine j_iload 79 rfl rfl dX4_copy_77 ?_
                  refine jV2i 82 rfl dX4_copy_79 lk_X4_238 rfl rfl (by decide) ( rfl) ( rfl) (s_has sh0 hi hn hz) (fun r79 H1 ⟨eh_, hr79⟩ => ?_)
                  obtain rfl := eh_.symm
                  refine j_if_eq 97 85 (by decide) rfl dX4_copy_82 (by intro hR; first | omega | exact hR _ _ | exact jb_r _ | exact hR0 _ _ | assumption) (fun h82 => ?_) (fun h82 => ?_)
                  · refine j_aload_n 98 rfl rfl dX4_copy_97 ?_
                    refine j_iconst 99 rfl dX4_copy_98 ?_
                    refine jV1i 102 rfl dX4_copy_99 lk_X4_126 rfl rfl (by decide) ( rfl) ( rfl) (s_finding (by omega)) (fun r99 H1 ⟨e, hr99⟩ => ?_)
                    subst e
                    refine j_ireti dX4_copy_102 rfl ?_
                    first | exact Or.inl ⟨by omega, rfl, rfl⟩ | exact Or.inr (Or.inr (Or.inr (Or.inr ⟨by omega, by omega, by omega, rfl, rfl⟩))) | exact Or.inr (Or.inl ⟨by omega, by omega, by omega, rfl⟩) | exact Or.inr (Or.inr (Or.inl ⟨by omega, by omega, by omega, by omega, rfl⟩)) | exact Or.inr (Or.inr (Or.inr (Or.inl ⟨by omega, by omega, by omega, by omega, rfl⟩))) | (exfalso; omega)
                  · refine j_aload 87 rfl rfl dX4_copy_85 ?_
                    refine j_iload 89 rfl rfl dX4_copy_87 ?_
                    refine j_iload 91 rfl rfl dX4_copy_89 ?_
                    refine jV2i 94 rfl dX4_copy_91 lk_X4_238 rfl rfl (by decide) ( rfl) ( rfl) (s_has sh0 hj hn hz2) (fun r91 H1 ⟨eh_, hr91⟩ => ?_)
                    obtain rfl := eh_.symm
                    refine j_if_ne 103 97 (by decide) rfl dX4_copy_94 (by intro hR; first | omega | exact hR _ _ | exact jb_r _ | exact hR0 _ _ | assumption) (fun h94 => ?_) (fun h94 => ?_)
                    · refine j_aload 105 rfl rfl dX4_copy_103 ?_
                      refine j_getr 108 rfl 3 fl_X4_130 dX4_copy_105 (by decide) ( rfl) ( rfl) ?_
                      refine j_iload_n 109 rfl rfl dX4_copy_108 ?_
                      refine j_aload 111 rfl rfl dX4_copy_109 ?_
                      refine j_getr 114 rfl 3 fl_X4_130 dX4_copy_111 (by decide) ( rfl) ( rfl) ?_
                      refine j_iload 116 rfl rfl dX4_copy_114 ?_
                      refine j_iload 118 rfl rfl dX4_copy_116 ?_
                      refine j_copy 121 rfl lc_X4_241 dX4_copy_118 (by decide) (by decide) rfl rfl rfl rfl (by decide) (by decide) (by omega) (by omega) (by omega) (by decide) (Nat.le_of_ble_eq_true rfl) ?_
                      refine j_iconst 122 rfl dX4_copy_121 ?_
                      refine j_ireti dX4_copy_122 rfl ?_
                      first | exact Or.inl ⟨by omega, rfl, rfl⟩ | exact Or.inr (Or.inr (Or.inr (Or.inr ⟨by omega, by omega, by omega, rfl, rfl⟩))) | exact Or.inr (Or.inl ⟨by omega, by omega, by omega, rfl⟩) | exact Or.inr (Or.inr (Or.inl ⟨by omega, by omega, by omega, by omega, rfl⟩)) | exact Or.inr (Or.inr (Or.inr (Or.inl ⟨by omega, by omega, by omega, by omega, rfl⟩))) | (exfalso; omega)
                    · refine j_aload_n 98 rfl rfl dX4_copy_97 ?_
                      refine j_iconst 99 rfl dX4_copy_98 ?_
                      refine jV1i 102 rfl dX4_copy_99 lk_X4_126 rfl rfl (by decide) ( rfl) ( rfl) (s_finding (by omega)) (fun r99 H1 ⟨e, hr99⟩ => ?_)
                      subst e
                      refine j_ireti dX4_copy_102 rfl ?_
                      first | exact Or.inl ⟨by omega, rfl, rfl⟩ | exact Or.inr (Or.inr (Or.inr (Or.inr ⟨by omega, by omega, by omega, rfl, rfl⟩))) | exact Or.inr (Or.inl ⟨by omega, by omega, by omega, rfl⟩) | exact Or.inr (Or.inr (Or.inl ⟨by omega, by omega, by omega, by omega, rfl⟩)) | exact Or.inr (Or.inr (Or.inr (Or.inl ⟨by omega, by omega, by omega, by omega, rfl⟩))) | (exfalso; omega)
                · refine j_aload_n 69 rfl rfl dX4_copy_68 ?_
                  refine j_iconst 70 rfl dX4_copy_69 ?_
                  refine jV1i 73 rfl dX4_copy_70 lk_X4_126 rfl rfl (by decide) ( rfl) ( rfl) (s_finding (by omega)) (fun r70 H1 ⟨e, hr70⟩ => ?_)
                  subst e
                  refine j_ireti dX4_copy_73 rfl ?_
                  first | exact Or.inl ⟨by omega, rfl, rfl⟩ | exact Or.inr (Or.inr (Or.inr (Or.inr ⟨by omega, by omega, by omega, rfl, rfl⟩))) | exact Or.inr (Or.inl ⟨by omega, by omega, by omega, rfl⟩) | exact Or.inr (Or.inr (Or.inl ⟨by omega, by omega, by omega, by omega, rfl⟩)) | exact Or.inr (Or.inr (Or.inr (Or.inl ⟨by omega, by omega, by omega, by omega, rfl⟩))) | (exfalso; omega)
              · refine j_aload_n 50 rfl rfl dX4_copy_49 ?_
                refine j_iconst 51 rfl dX4_copy_50 ?_
                refine jV1i 54 rfl dX4_copy_51 lk_X4_126 rfl rfl (by decide) ( rfl) ( rfl) (s_finding (by omega)) (fun r51 H1 ⟨e, hr51⟩ => ?_)
                subst e
                refine j_ireti dX4_copy_54 rfl ?_
                first | exact Or.inl ⟨by omega, rfl, rfl⟩ | exact Or.inr (Or.inr (Or.inr (Or.inr ⟨by omega, by omega, by omega, rfl, rfl⟩))) | exact Or.inr (Or.inl ⟨by omega, by omega, by omega, rfl⟩) | exact Or.inr (Or.inr (Or.inl ⟨by omega, by omega, by omega, by omega, rfl⟩)) | exact Or.inr (Or.inr (Or.inr (Or.inl ⟨by omega, by omega, by omega, by omega, rfl⟩))) | (exfalso; omega)
          · refine j_bipush 16 rfl rfl dX4_copy_14 ?_
            refine j_ireti dX4_copy_16 rfl ?_
            first | exact Or.inl ⟨by omega, rfl, rfl⟩ | exact Or.inr (Or.inr (Or.inr (Or.inr ⟨by omega, by omega, by omega, rfl, rfl⟩))) | exact Or.inr (Or.inl ⟨by omega, by omega, by omega, rfl⟩) | exact Or.inr (Or.inr (Or.inl ⟨by omega, by omega, by omega, by omega, rfl⟩)) | exact Or.inr (Or.inr (Or.inr (Or.inl ⟨by omega, by omega, by omega, by omega, rfl⟩))) | (exfalso; omega)
      · refine jOk.rng (fun hR0 => ?_)
        refine jOk.ofe rfl (Nat.le_of_ble_eq_true rfl) (en_aiiiii_8 (E := E)) ?_
        refine j_iload_n 1 rfl rfl dX4_copy_0 ?_
        refine jS1i 4 rfl dX4_copy_1 lk_X4_120 rfl rfl (s_isSheet (by omega)) (fun r1 H1 ⟨eh_, hr1⟩ => ?_)
        obtain rfl := eh_.symm
        refine j_if_eq 14 7 (by decide) rfl dX4_copy_4 (by intro hR; first | omega | exact hR _ _ | exact jb_r _ | exact hR0 _ _ | assumption) (fun h4 => ?_) (fun h4 => ?_)
        · refine j_bipush 16 rfl rfl dX4_copy_14 ?_
          refine j_ireti dX4_copy_16 rfl ?_
          first | exact Or.inl ⟨by omega, rfl, rfl⟩ | exact Or.inr (Or.inr (Or.inr (Or.inr ⟨by omega, by omega, by omega, rfl, rfl⟩))) | exact Or.inr (Or.inl ⟨by omega, by omega, by omega, rfl⟩) | exact Or.inr (Or.inr (Or.inl ⟨by omega, by omega, by omega, by omega, rfl⟩)) | exact Or.inr (Or.inr (Or.inr (Or.inl ⟨by omega, by omega, by omega, by omega, rfl⟩))) | (exfalso; omega)
        · refine j_iload_n 8 rfl rfl dX4_copy_7 ?_
          refine jS1i 11 rfl dX4_copy_8 lk_X4_120 rfl rfl (s_isSheet (by omega)) (fun r8 H1 ⟨eh_, hr8⟩ => ?_)
          obtain rfl := eh_.symm
          refine j_if_ne 17 14 (by decide) rfl dX4_copy_11 (by intro hR; first | omega | exact hR _ _ | exact jb_r _ | exact hR0 _ _ | assumption) (fun h11 => ?_) (fun h11 => ?_)
          · refine j_aload_n 18 rfl rfl dX4_copy_17 ?_
            refine j_getr 21 rfl 7 fl_X4_42 dX4_copy_18 (by decide) ( rfl) ( rfl) ?_
            refine j_iload_n 22 rfl rfl dX4_copy_21 ?_
            refine j_aald 23 rfl dX4_copy_22 (by decide) rfl (by decide) rfl (by omega) (rfl)  ?_
            refine j_astore 25 rfl st_8_6 (by decide) rfl dX4_copy_23 ?_
            refine j_aload_n 26 rfl rfl dX4_copy_25 ?_
            refine j_getr 29 rfl 7 fl_X4_42 dX4_copy_26 (by decide) ( rfl) ( rfl) ?_
            refine j_iload_n 30 rfl rfl dX4_copy_29 ?_
            refine j_aald 31 rfl dX4_copy_30 (by decide) rfl (by decide) rfl (by omega) (rfl)  ?_
            refine j_astore 33 rfl st_8_7 (by decide) rfl dX4_copy_31 ?_
            refine j_aload 35 rfl rfl dX4_copy_33 ?_
            refine g_geti 38 rfl 0 0 rfl fl_X4_123 dX4_copy_35 (by decide) ( rfl) ( rfl) ?_
            refine j_if_ne 49 41 (by decide) rfl dX4_copy_38 (by intro hR; first | omega | exact hR _ _ | exact jb_r _ | exact hR0 _ _ | assumption) (fun h38 => ?_) (fun h38 => ?_)
            · refine j_aload_n 50 rfl rfl dX4_copy_49 ?_
              refine j_iconst 51 rfl dX4_copy_50 ?_
              refine jV1i 54 rfl dX4_copy_51 lk_X4_126 rfl rfl (by decide) ( rfl) ( rfl) (s_finding (by omega)) (fun r51 H1 ⟨e, hr51⟩ => ?_)
              subst e
              refine j_ireti dX4_copy_54 rfl ?_
              first | exact Or.inl ⟨by omega, rfl, rfl⟩ | exact Or.inr (Or.inr (Or.inr (Or.inr ⟨by omega, by omega, by omega, rfl, rfl⟩))) | exact Or.inr (Or.inl ⟨by omega, by omega, by omega, rfl⟩) | exact Or.inr (Or.inr (Or.inl ⟨by omega, by omega, by omega, by omega, rfl⟩)) | exact Or.inr (Or.inr (Or.inr (Or.inl ⟨by omega, by omega, by omega, by omega, rfl⟩))) | (exfalso; omega)
            · refine j_aload 43 rfl rfl dX4_copy_41 ?_
              refine g_geti 46 rfl 0 0 rfl fl_X4_123 dX4_copy_43 (by decide) ( rfl) ( rfl) ?_
              refine j_if_eq 55 49 (by decide) rfl dX4_copy_46 (by intro hR; first | omega | exact hR _ _ | exact jb_r _ | exact hR0 _ _ | assumption) (fun h46 => ?_) (fun h46 => ?_)
              · refine j_aload 57 rfl rfl dX4_copy_55 ?_
                refine g_geti 60 rfl 1 1 rfl fl_X4_235 dX4_copy_57 (by decide) ( rfl) ( rfl) ?_
                refine j_aload 62 rfl rfl dX4_copy_60 ?_
                refine g_geti 65 rfl 1 1 rfl fl_X4_235 dX4_copy_62 (by decide) ( rfl) ( rfl) ?_
                refine j_icmp_eq 74 68 (by decide) rfl dX4_copy_65 (by intro hR; first | omega | exact hR _ _ | exact jb_r _ | exact hR0 _ _ | assumption) (by intro hR; first | omega | exact hR _ _ | exact jb_r _ | exact hR0 _ _ | assumption) (fun h65 => ?_) (fun h65 => ?_)
                · refine j_aload 76 rfl rfl dX4_copy_74 ?_
                  refine j_iload_n 77 rfl rfl dX4_copy_76 ?_
                  refine j_iload 79 rfl rfl dX4_copy_77 ?_
                  refine jV2i 82 rfl dX4_copy_79 lk_X4_238 rfl rfl (by decide) ( rfl) ( rfl) (s_has sh0 hi hn hz) (fun r79 H1 ⟨eh_, hr79⟩ => ?_)
                  obtain rfl := eh_.symm
                  refine j_if_eq 97 85 (by decide) rfl dX4_copy_82 (by intro hR; first | omega | exact hR _ _ | exact jb_r _ | exact hR0 _ _ | assumption) (fun h82 => ?_) (fun h82 => ?_)
                  · refine j_aload_n 98 rfl rfl dX4_copy_97 ?_
                    refine j_iconst 99 rfl dX4_copy_98 ?_
                    refine jV1i 102 rfl dX4_copy_99 lk_X4_126 rfl rfl (by decide) ( rfl) ( rfl) (s_finding (by omega)) (fun r99 H1 ⟨e, hr99⟩ => ?_)
                    subst e
                    refine j_ireti dX4_copy_102 rfl ?_
                    first | exact Or.inl ⟨by omega, rfl, rfl⟩ | exact Or.inr (Or.inr (Or.inr (Or.inr ⟨by omega, by omega, by omega, rfl, rfl⟩))) | exact Or.inr (Or.inl ⟨by omega, by omega, by omega, rfl⟩) | exact Or.inr (Or.inr (Or.inl ⟨by omega, by omega, by omega, by omega, rfl⟩)) | exact Or.inr (Or.inr (Or.inr (Or.inl ⟨by omega, by omega, by omega, by omega, rfl⟩))) | (exfalso; omega)
                  · refine j_aload 87 rfl rfl dX4_copy_85 ?_
                    refine j_iload 89 rfl rfl dX4_copy_87 ?_
                    refine j_iload 91 rfl rfl dX4_copy_89 ?_
                    refine jV2i 94 rfl dX4_copy_91 lk_X4_238 rfl rfl (by decide) ( rfl) ( rfl) (s_has sh1 hj hn hz2) (fun r91 H1 ⟨eh_, hr91⟩ => ?_)
                    obtain rfl := eh_.symm
                    refine j_if_ne 103 97 (by decide) rfl dX4_copy_94 (by intro hR; first | omega | exact hR _ _ | exact jb_r _ | exact hR0 _ _ | assumption) (fun h94 => ?_) (fun h94 => ?_)
                    · refine j_aload 105 rfl rfl dX4_copy_103 ?_
                      refine j_getr 108 rfl 3 fl_X4_130 dX4_copy_105 (by decide) ( rfl) ( rfl) ?_
                      refine j_iload_n 109 rfl rfl dX4_copy_108 ?_
                      refine j_aload 111 rfl rfl dX4_copy_109 ?_
                      refine j_getr 114 rfl 3 fl_X4_130 dX4_copy_111 (by decide) ( rfl) ( rfl) ?_
                      refine j_iload 116 rfl rfl dX4_copy_114 ?_
                      refine j_iload 118 rfl rfl dX4_copy_116 ?_
                      refine j_copy 121 rfl lc_X4_241 dX4_copy_118 (by decide) (by decide) rfl rfl rfl rfl (by decide) (by decide) (by omega) (by omega) (by omega) (by decide) (Nat.le_of_ble_eq_true rfl) ?_
                      refine j_iconst 122 rfl dX4_copy_121 ?_
                      refine j_ireti dX4_copy_122 rfl ?_
                      first | exact Or.inl ⟨by omega, rfl, rfl⟩ | exact Or.inr (Or.inr (Or.inr (Or.inr ⟨by omega, by omega, by omega, rfl, rfl⟩))) | exact Or.inr (Or.inl ⟨by omega, by omega, by omega, rfl⟩) | exact Or.inr (Or.inr (Or.inl ⟨by omega, by omega, by omega, by omega, rfl⟩)) | exact Or.inr (Or.inr (Or.inr (Or.inl ⟨by omega, by omega, by omega, by omega, rfl⟩))) | (exfalso; omega)
                    · refine j_aload_n 98 rfl rfl dX4_copy_97 ?_
                      refine j_iconst 99 rfl dX4_copy_98 ?_
                      refine jV1i 102 rfl dX4_copy_99 lk_X4_126 rfl rfl (by decide) ( rfl) ( rfl) (s_finding (by omega)) (fun r99 H1 ⟨e, hr99⟩ => ?_)
                      subst e
                      refine j_ireti dX4_copy_102 rfl ?_
                      first | exact Or.inl ⟨by omega, rfl, rfl⟩ | exact Or.inr (Or.inr (Or.inr (Or.inr ⟨by omega, by omega, by omega, rfl, rfl⟩))) | exact Or.inr (Or.inl ⟨by omega, by omega, by omega, rfl⟩) | exact Or.inr (Or.inr (Or.inl ⟨by omega, by omega, by omega, by omega, rfl⟩)) | exact Or.inr (Or.inr (Or.inr (Or.inl ⟨by omega, by omega, by omega, by omega, rfl⟩))) | (exfalso; omega)
                · refine j_aload_n 69 rfl rfl dX4_copy_68 ?_
                  refine j_iconst 70 rfl dX4_copy_69 ?_
                  refine jV1i 73 rfl dX4_copy_70 lk_X4_126 rfl rfl (by decide) ( rfl) ( rfl) (s_finding (by omega)) (fun r70 H1 ⟨e, hr70⟩ => ?_)
                  subst e
                  refine j_ireti dX4_copy_73 rfl ?_
                  first | exact Or.inl ⟨by omega, rfl, rfl⟩ | exact Or.inr (Or.inr (Or.inr (Or.inr ⟨by omega, by omega, by omega, rfl, rfl⟩))) | exact Or.inr (Or.inl ⟨by omega, by omega, by omega, rfl⟩) | exact Or.inr (Or.inr (Or.inl ⟨by omega, by omega, by omega, by omega, rfl⟩)) | exact Or.inr (Or.inr (Or.inr (Or.inl ⟨by omega, by omega, by omega, by omega, rfl⟩))) | (exfalso; omega)
              · refine j_aload_n 50 rfl rfl dX4_copy_49 ?_
                refine j_iconst 51 rfl dX4_copy_50 ?_
                refine jV1i 54 rfl dX4_copy_51 lk_X4_126 rfl rfl (by decide) ( rfl) ( rfl) (s_finding (by omega)) (fun r51 H1 ⟨e, hr51⟩ => ?_)
                subst e
                refine j_ireti dX4_copy_54 rfl ?_
                first | exact Or.inl ⟨by omega, rfl, rfl⟩ | exact Or.inr (Or.inr (Or.inr (Or.inr ⟨by omega, by omega, by omega, rfl, rfl⟩))) | exact Or.inr (Or.inl ⟨by omega, by omega, by omega, rfl⟩) | exact Or.inr (Or.inr (Or.inl ⟨by omega, by omega, by omega, by omega, rfl⟩)) | exact Or.inr (Or.inr (Or.inr (Or.inl ⟨by omega, by omega, by omega, by omega, rfl⟩))) | (exfalso; omega)
          · refine j_bipush 16 rfl rfl dX4_copy_14 ?_
            refine j_ireti dX4_copy_16 rfl ?_
            first | exact Or.inl ⟨by omega, rfl, rfl⟩ | exact Or.inr (Or.inr (Or.inr (Or.inr ⟨by omega, by omega, by omega, rfl, rfl⟩))) | exact Or.inr (Or.inl ⟨by omega, by omega, by omega, rfl⟩) | exact Or.inr (Or.inr (Or.inl ⟨by omega, by omega, by omega, by omega, rfl⟩)) | exact Or.inr (Or.inr (Or.inr (Or.inl ⟨by omega, by omega, by omega, by omega, rfl⟩))) | (exfalso; omega)
      · refine jOk.rng (fun hR0 => ?_)
        refine jOk.ofe rfl (Nat.le_of_ble_eq_true rfl) (en_aiiiii_8 (E := E)) ?_
        refine j_iload_n 1 rfl rfl dX4_copy_0 ?_
        refine jS1i 4 rfl dX4_copy_1 lk_X4_120 rfl rfl (s_isSheet (by omega)) (fun r1 H1 ⟨eh_, hr1⟩ => ?_)
        obtain rfl := eh_.symm
        refine j_if_eq 14 7 (by decide) rfl dX4_copy_4 (by intro hR; first | omega | exact hR _ _ | exact jb_r _ | exact hR0 _ _ | assumption) (fun h4 => ?_) (fun h4 => ?_)
        · refine j_bipush 16 rfl rfl dX4_copy_14 ?_
          refine j_ireti dX4_copy_16 rfl ?_
          first | exact Or.inl ⟨by omega, rfl, rfl⟩ | exact Or.inr (Or.inr (Or.inr (Or.inr ⟨by omega, by omega, by omega, rfl, rfl⟩))) | exact Or.inr (Or.inl ⟨by omega, by omega, by omega, rfl⟩) | exact Or.inr (Or.inr (Or.inl ⟨by omega, by omega, by omega, by omega, rfl⟩)) | exact Or.inr (Or.inr (Or.inr (Or.inl ⟨by omega, by omega, by omega, by omega, rfl⟩))) | (exfalso; omega)
        · refine j_iload_n 8 rfl rfl dX4_copy_7 ?_
          refine jS1i 11 rfl dX4_copy_8 lk_X4_120 rfl rfl (s_isSheet (by omega)) (fun r8 H1 ⟨eh_, hr8⟩ => ?_)
          obtain rfl := eh_.symm
          refine j_if_ne 17 14 (by decide) rfl dX4_copy_11 (by intro hR; first | omega | exact hR _ _ | exact jb_r _ | exact hR0 _ _ | assumption) (fun h11 => ?_) (fun h11 => ?_)
          · refine j_aload_n 18 rfl rfl dX4_copy_17 ?_
            refine j_getr 21 rfl 7 fl_X4_42 dX4_copy_18 (by decide) ( rfl) ( rfl) ?_
            refine j_iload_n 22 rfl rfl dX4_copy_21 ?_
            refine j_aald 23 rfl dX4_copy_22 (by decide) rfl (by decide) rfl (by omega) (rfl)  ?_
            refine j_astore 25 rfl st_8_6 (by decide) rfl dX4_copy_23 ?_
            refine j_aload_n 26 rfl rfl dX4_copy_25 ?_
            refine j_getr 29 rfl 7 fl_X4_42 dX4_copy_26 (by decide) ( rfl) ( rfl) ?_
            refine j_iload_n 30 rfl rfl dX4_copy_29 ?_
            refine j_aald 31 rfl dX4_copy_30 (by decide) rfl (by decide) rfl (by omega) (rfl)  ?_
            refine j_astore 33 rfl st_8_7 (by decide) rfl dX4_copy_31 ?_
            refine j_aload 35 rfl rfl dX4_copy_33 ?_
            refine g_geti 38 rfl 0 0 rfl fl_X4_123 dX4_copy_35 (by decide) ( rfl) ( rfl) ?_
            refine j_if_ne 49 41 (by decide) rfl dX4_copy_38 (by intro hR; first | omega | exact hR _ _ | exact jb_r _ | exact hR0 _ _ | assumption) (fun h38 => ?_) (fun h38 => ?_)
            · refine j_aload_n 50 rfl rfl dX4_copy_49 ?_
              refine j_iconst 51 rfl dX4_copy_50 ?_
              refine jV1i 54 rfl dX4_copy_51 lk_X4_126 rfl rfl (by decide) ( rfl) ( rfl) (s_finding (by omega)) (fun r51 H1 ⟨e, hr51⟩ => ?_)
              subst e
              refine j_ireti dX4_copy_54 rfl ?_
              first | exact Or.inl ⟨by omega, rfl, rfl⟩ | exact Or.inr (Or.inr (Or.inr (Or.inr ⟨by omega, by omega, by omega, rfl, rfl⟩))) | exact Or.inr (Or.inl ⟨by omega, by omega, by omega, rfl⟩) | exact Or.inr (Or.inr (Or.inl ⟨by omega, by omega, by omega, by omega, rfl⟩)) | exact Or.inr (Or.inr (Or.inr (Or.inl ⟨by omega, by omega, by omega, by omega, rfl⟩))) | (exfalso; omega)
            · refine j_aload 43 rfl rfl dX4_copy_41 ?_
              refine g_geti 46 rfl 0 0 rfl fl_X4_123 dX4_copy_43 (by decide) ( rfl) ( rfl) ?_
              refine j_if_eq 55 49 (by decide) rfl dX4_copy_46 (by intro hR; first | omega | exact hR _ _ | exact jb_r _ | exact hR0 _ _ | assumption) (fun h46 => ?_) (fun h46 => ?_)
              · refine j_aload 57 rfl rfl dX4_copy_55 ?_
                refine g_geti 60 rfl 1 1 rfl fl_X4_235 dX4_copy_57 (by decide) ( rfl) ( rfl) ?_
                refine j_aload 62 rfl rfl dX4_copy_60 ?_
                refine g_geti 65 rfl 1 1 rfl fl_X4_235 dX4_copy_62 (by decide) ( rfl) ( rfl) ?_
                refine j_icmp_eq 74 68 (by decide) rfl dX4_copy_65 (by intro hR; first | omega | exact hR _ _ | exact jb_r _ | exact hR0 _ _ | assumption) (by intro hR; first | omega | exact hR _ _ | exact jb_r _ | exact hR0 _ _ | assumption) (fun h65 => ?_) (fun h65 => ?_)
                · refine j_aload 76 rfl rfl dX4_copy_74 ?_
                  refine j_iload_n 77 rfl rfl dX4_copy_76 ?_
                  refine j_iload 79 rfl rfl dX4_copy_77 ?_
                  refine jV2i 82 rfl dX4_copy_79 lk_X4_238 rfl rfl (by decide) ( rfl) ( rfl) (s_has sh0 hi hn hz) (fun r79 H1 ⟨eh_, hr79⟩ => ?_)
                  obtain rfl := eh_.symm
                  refine j_if_eq 97 85 (by decide) rfl dX4_copy_82 (by intro hR; first | omega | exact hR _ _ | exact jb_r _ | exact hR0 _ _ | assumption) (fun h82 => ?_) (fun h82 => ?_)
                  · refine j_aload_n 98 rfl rfl dX4_copy_97 ?_
                    refine j_iconst 99 rfl dX4_copy_98 ?_
                    refine jV1i 102 rfl dX4_copy_99 lk_X4_126 rfl rfl (by decide) ( rfl) ( rfl) (s_finding (by omega)) (fun r99 H1 ⟨e, hr99⟩ => ?_)
                    subst e
                    refine j_ireti dX4_copy_102 rfl ?_
                    first | exact Or.inl ⟨by omega, rfl, rfl⟩ | exact Or.inr (Or.inr (Or.inr (Or.inr ⟨by omega, by omega, by omega, rfl, rfl⟩))) | exact Or.inr (Or.inl ⟨by omega, by omega, by omega, rfl⟩) | exact Or.inr (Or.inr (Or.inl ⟨by omega, by omega, by omega, by omega, rfl⟩)) | exact Or.inr (Or.inr (Or.inr (Or.inl ⟨by omega, by omega, by omega, by omega, rfl⟩))) | (exfalso; omega)
                  · refine j_aload 87 rfl rfl dX4_copy_85 ?_
                    refine j_iload 89 rfl rfl dX4_copy_87 ?_
                    refine j_iload 91 rfl rfl dX4_copy_89 ?_
                    refine jV2i 94 rfl dX4_copy_91 lk_X4_238 rfl rfl (by decide) ( rfl) ( rfl) (s_has sh2 hj hn hz2) (fun r91 H1 ⟨eh_, hr91⟩ => ?_)
                    obtain rfl := eh_.symm
                    refine j_if_ne 103 97 (by decide) rfl dX4_copy_94 (by intro hR; first | omega | exact hR _ _ | exact jb_r _ | exact hR0 _ _ | assumption) (fun h94 => ?_) (fun h94 => ?_)
                    · refine j_aload 105 rfl rfl dX4_copy_103 ?_
                      refine j_getr 108 rfl 3 fl_X4_130 dX4_copy_105 (by decide) ( rfl) ( rfl) ?_
                      refine j_iload_n 109 rfl rfl dX4_copy_108 ?_
                      refine j_aload 111 rfl rfl dX4_copy_109 ?_
                      refine j_getr 114 rfl 3 fl_X4_130 dX4_copy_111 (by decide) ( rfl) ( rfl) ?_
                      refine j_iload 116 rfl rfl dX4_copy_114 ?_
                      refine j_iload 118 rfl rfl dX4_copy_116 ?_
                      refine j_copy 121 rfl lc_X4_241 dX4_copy_118 (by decide) (by decide) rfl rfl rfl rfl (by decide) (by decide) (by omega) (by omega) (by omega) (by decide) (Nat.le_of_ble_eq_true rfl) ?_
                      refine j_iconst 122 rfl dX4_copy_121 ?_
                      refine j_ireti dX4_copy_122 rfl ?_
                      first | exact Or.inl ⟨by omega, rfl, rfl⟩ | exact Or.inr (Or.inr (Or.inr (Or.inr ⟨by omega, by omega, by omega, rfl, rfl⟩))) | exact Or.inr (Or.inl ⟨by omega, by omega, by omega, rfl⟩) | exact Or.inr (Or.inr (Or.inl ⟨by omega, by omega, by omega, by omega, rfl⟩)) | exact Or.inr (Or.inr (Or.inr (Or.inl ⟨by omega, by omega, by omega, by omega, rfl⟩))) | (exfalso; omega)
                    · refine j_aload_n 98 rfl rfl dX4_copy_97 ?_
                      refine j_iconst 99 rfl dX4_copy_98 ?_
                      refine jV1i 102 rfl dX4_copy_99 lk_X4_126 rfl rfl (by decide) ( rfl) ( rfl) (s_finding (by omega)) (fun r99 H1 ⟨e, hr99⟩ => ?_)
                      subst e
                      refine j_ireti dX4_copy_102 rfl ?_
                      first | exact Or.inl ⟨by omega, rfl, rfl⟩ | exact Or.inr (Or.inr (Or.inr (Or.inr ⟨by omega, by omega, by omega, rfl, rfl⟩))) | exact Or.inr (Or.inl ⟨by omega, by omega, by omega, rfl⟩) | exact Or.inr (Or.inr (Or.inl ⟨by omega, by omega, by omega, by omega, rfl⟩)) | exact Or.inr (Or.inr (Or.inr (Or.inl ⟨by omega, by omega, by omega, by omega, rfl⟩))) | (exfalso; omega)
                · refine j_aload_n 69 rfl rfl dX4_copy_68 ?_
                  refine j_iconst 70 rfl dX4_copy_69 ?_
                  refine jV1i 73 rfl dX4_copy_70 lk_X4_126 rfl rfl (by decide) ( rfl) ( rfl) (s_finding (by omega)) (fun r70 H1 ⟨e, hr70⟩ => ?_)
                  subst e
                  refine j_ireti dX4_copy_73 rfl ?_
                  first | exact Or.inl ⟨by omega, rfl, rfl⟩ | exact Or.inr (Or.inr (Or.inr (Or.inr ⟨by omega, by omega, by omega, rfl, rfl⟩))) | exact Or.inr (Or.inl ⟨by omega, by omega, by omega, rfl⟩) | exact Or.inr (Or.inr (Or.inl ⟨by omega, by omega, by omega, by omega, rfl⟩)) | exact Or.inr (Or.inr (Or.inr (Or.inl ⟨by omega, by omega, by omega, by omega, rfl⟩))) | (exfalso; omega)
              · refine j_aload_n 50 rfl rfl dX4_copy_49 ?_
                refine j_iconst 51 rfl dX4_copy_50 ?_
                refine jV1i 54 rfl dX4_copy_51 lk_X4_126 rfl rfl (by decide) ( rfl) ( rfl) (s_finding (by omega)) (fun r51 H1 ⟨e, hr51⟩ => ?_)
                subst e
                refine j_ireti dX4_copy_54 rfl ?_
                first | exact Or.inl ⟨by omega, rfl, rfl⟩ | exact Or.inr (Or.inr (Or.inr (Or.inr ⟨by omega, by omega, by omega, rfl, rfl⟩))) | exact Or.inr (Or.inl ⟨by omega, by omega, by omega, rfl⟩) | exact Or.inr (Or.inr (Or.inl ⟨by omega, by omega, by omega, by omega, rfl⟩)) | exact Or.inr (Or.inr (Or.inr (Or.inl ⟨by omega, by omega, by omega, by omega, rfl⟩))) | (exfalso; omega)
          · refine j_bipush 16 rfl rfl dX4_copy_14 ?_
            refine j_ireti dX4_copy_16 rfl ?_
            first | exact Or.inl ⟨by omega, rfl, rfl⟩ | exact Or.inr (Or.inr (Or.inr (Or.inr ⟨by omega, by omega, by omega, rfl, rfl⟩))) | exact Or.inr (Or.inl ⟨by omega, by omega, by omega, rfl⟩) | exact Or.inr (Or.inr (Or.inl ⟨by omega, by omega, by omega, by omega, rfl⟩)) | exact Or.inr (Or.inr (Or.inr (Or.inl ⟨by omega, by omega, by omega, by omega, rfl⟩))) | (exfalso; omega)
      · refine jOk.rng (fun hR0 => ?_)
        refine jOk.ofe rfl (Nat.le_of_ble_eq_true rfl) (en_aiiiii_8 (E := E)) ?_
        refine j_iload_n 1 rfl rfl dX4_copy_0 ?_
        refine jS1i 4 rfl dX4_copy_1 lk_X4_120 rfl rfl (s_isSheet (by omega)) (fun r1 H1 ⟨eh_, hr1⟩ => ?_)
        obtain rfl := eh_.symm
        refine j_if_eq 14 7 (by decide) rfl dX4_copy_4 (by intro hR; first | omega | exact hR _ _ | exact jb_r _ | exact hR0 _ _ | assumption) (fun h4 => ?_) (fun h4 => ?_)
        · refine j_bipush 16 rfl rfl dX4_copy_14 ?_
          refine j_ireti dX4_copy_16 rfl ?_
          first | exact Or.inl ⟨by omega, rfl, rfl⟩ | exact Or.inr (Or.inr (Or.inr (Or.inr ⟨by omega, by omega, by omega, rfl, rfl⟩))) | exact Or.inr (Or.inl ⟨by omega, by omega, by omega, rfl⟩) | exact Or.inr (Or.inr (Or.inl ⟨by omega, by omega, by omega, by omega, rfl⟩)) | exact Or.inr (Or.inr (Or.inr (Or.inl ⟨by omega, by omega, by omega, by omega, rfl⟩))) | (exfalso; omega)
        · refine j_iload_n 8 rfl rfl dX4_copy_7 ?_
          refine jS1i 11 rfl dX4_copy_8 lk_X4_120 rfl rfl (s_isSheet (by omega)) (fun r8 H1 ⟨eh_, hr8⟩ => ?_)
          obtain rfl := eh_.symm
          refine j_if_ne 17 14 (by decide) rfl dX4_copy_11 (by intro hR; first | omega | exact hR _ _ | exact jb_r _ | exact hR0 _ _ | assumption) (fun h11 => ?_) (fun h11 => ?_)
          · refine j_aload_n 18 rfl rfl dX4_copy_17 ?_
            refine j_getr 21 rfl 7 fl_X4_42 dX4_copy_18 (by decide) ( rfl) ( rfl) ?_
            refine j_iload_n 22 rfl rfl dX4_copy_21 ?_
            refine j_aald 23 rfl dX4_copy_22 (by decide) rfl (by decide) rfl (by omega) (rfl)  ?_
            refine j_astore 25 rfl st_8_6 (by decide) rfl dX4_copy_23 ?_
            refine j_aload_n 26 rfl rfl dX4_copy_25 ?_
            refine j_getr 29 rfl 7 fl_X4_42 dX4_copy_26 (by decide) ( rfl) ( rfl) ?_
            refine j_iload_n 30 rfl rfl dX4_copy_29 ?_
            refine j_aald 31 rfl dX4_copy_30 (by decide) rfl (by decide) rfl (by omega) (rfl)  ?_
            refine j_astore 33 rfl st_8_7 (by decide) rfl dX4_copy_31 ?_
            refine j_aload 35 rfl rfl dX4_copy_33 ?_
            refine g_geti 38 rfl 0 0 rfl fl_X4_123 dX4_copy_35 (by decide) ( rfl) ( rfl) ?_
            refine j_if_ne 49 41 (by decide) rfl dX4_copy_38 (by intro hR; first | omega | exact hR _ _ | exact jb_r _ | exact hR0 _ _ | assumption) (fun h38 => ?_) (fun h38 => ?_)
            · refine j_aload_n 50 rfl rfl dX4_copy_49 ?_
              refine j_iconst 51 rfl dX4_copy_50 ?_
              refine jV1i 54 rfl dX4_copy_51 lk_X4_126 rfl rfl (by decide) ( rfl) ( rfl) (s_finding (by omega)) (fun r51 H1 ⟨e, hr51⟩ => ?_)
              subst e
              refine j_ireti dX4_copy_54 rfl ?_
              first | exact Or.inl ⟨by omega, rfl, rfl⟩ | exact Or.inr (Or.inr (Or.inr (Or.inr ⟨by omega, by omega, by omega, rfl, rfl⟩))) | exact Or.inr (Or.inl ⟨by omega, by omega, by omega, rfl⟩) | exact Or.inr (Or.inr (Or.inl ⟨by omega, by omega, by omega, by omega, rfl⟩)) | exact Or.inr (Or.inr (Or.inr (Or.inl ⟨by omega, by omega, by omega, by omega, rfl⟩))) | (exfalso; omega)
            · refine j_aload 43 rfl rfl dX4_copy_41 ?_
              refine g_geti 46 rfl 0 0 rfl fl_X4_123 dX4_copy_43 (by decide) ( rfl) ( rfl) ?_
              refine j_if_eq 55 49 (by decide) rfl dX4_copy_46 (by intro hR; first | omega | exact hR _ _ | exact jb_r _ | exact hR0 _ _ | assumption) (fun h46 => ?_) (fun h46 => ?_)
              · refine j_aload 57 rfl rfl dX4_copy_55 ?_
                refine g_geti 60 rfl 1 1 rfl fl_X4_235 dX4_copy_57 (by decide) ( rfl) ( rfl) ?_
                refine j_aload 62 rfl rfl dX4_copy_60 ?_
                refine g_geti 65 rfl 1 1 rfl fl_X4_235 dX4_copy_62 (by decide) ( rfl) ( rfl) ?_
                refine j_icmp_eq 74 68 (by decide) rfl dX4_copy_65 (by intro hR; first | omega | exact hR _ _ | exact jb_r _ | exact hR0 _ _ | assumption) (by intro hR; first | omega | exact hR _ _ | exact jb_r _ | exact hR0 _ _ | assumption) (fun h65 => ?_) (fun h65 => ?_)
                · refine j_aload 76 rfl rfl dX4_copy_74 ?_
                  refine j_iload_n 77 rfl rfl dX4_copy_76 ?_
                  refine j_iload 79 rfl rfl dX4_copy_77 ?_
                  refine jV2i 82 rfl dX4_copy_79 lk_X4_238 rfl rfl (by decide) ( rfl) ( rfl) (s_has sh0 hi hn hz) (fun r79 H1 ⟨eh_, hr79⟩ => ?_)
                  obtain rfl := eh_.symm
                  refine j_if_eq 97 85 (by decide) rfl dX4_copy_82 (by intro hR; first | omega | exact hR _ _ | exact jb_r _ | exact hR0 _ _ | assumption) (fun h82 => ?_) (fun h82 => ?_)
                  · refine j_aload_n 98 rfl rfl dX4_copy_97 ?_
                    refine j_iconst 99 rfl dX4_copy_98 ?_
                    refine jV1i 102 rfl dX4_copy_99 lk_X4_126 rfl rfl (by decide) ( rfl) ( rfl) (s_finding (by omega)) (fun r99 H1 ⟨e, hr99⟩ => ?_)
                    subst e
                    refine j_ireti dX4_copy_102 rfl ?_
                    first | exact Or.inl ⟨by omega, rfl, rfl⟩ | exact Or.inr (Or.inr (Or.inr (Or.inr ⟨by omega, by omega, by omega, rfl, rfl⟩))) | exact Or.inr (Or.inl ⟨by omega, by omega, by omega, rfl⟩) | exact Or.inr (Or.inr (Or.inl ⟨by omega, by omega, by omega, by omega, rfl⟩)) | exact Or.inr (Or.inr (Or.inr (Or.inl ⟨by omega, by omega, by omega, by omega, rfl⟩))) | (exfalso; omega)
                  · refine j_aload 87 rfl rfl dX4_copy_85 ?_
                    refine j_iload 89 rfl rfl dX4_copy_87 ?_
                    refine j_iload 91 rfl rfl dX4_copy_89 ?_
                    refine jV2i 94 rfl dX4_copy_91 lk_X4_238 rfl rfl (by decide) ( rfl) ( rfl) (s_has sh3 hj hn hz2) (fun r91 H1 ⟨eh_, hr91⟩ => ?_)
                    obtain rfl := eh_.symm
                    refine j_if_ne 103 97 (by decide) rfl dX4_copy_94 (by intro hR; first | omega | exact hR _ _ | exact jb_r _ | exact hR0 _ _ | assumption) (fun h94 => ?_) (fun h94 => ?_)
                    · refine j_aload 105 rfl rfl dX4_copy_103 ?_
                      refine j_getr 108 rfl 3 fl_X4_130 dX4_copy_105 (by decide) ( rfl) ( rfl) ?_
                      refine j_iload_n 109 rfl rfl dX4_copy_108 ?_
                      refine j_aload 111 rfl rfl dX4_copy_109 ?_
                      refine j_getr 114 rfl 3 fl_X4_130 dX4_copy_111 (by decide) ( rfl) ( rfl) ?_
                      refine j_iload 116 rfl rfl dX4_copy_114 ?_
                      refine j_iload 118 rfl rfl dX4_copy_116 ?_
                      refine j_copy 121 rfl lc_X4_241 dX4_copy_118 (by decide) (by decide) rfl rfl rfl rfl (by decide) (by decide) (by omega) (by omega) (by omega) (by decide) (Nat.le_of_ble_eq_true rfl) ?_
                      refine j_iconst 122 rfl dX4_copy_121 ?_
                      refine j_ireti dX4_copy_122 rfl ?_
                      first | exact Or.inl ⟨by omega, rfl, rfl⟩ | exact Or.inr (Or.inr (Or.inr (Or.inr ⟨by omega, by omega, by omega, rfl, rfl⟩))) | exact Or.inr (Or.inl ⟨by omega, by omega, by omega, rfl⟩) | exact Or.inr (Or.inr (Or.inl ⟨by omega, by omega, by omega, by omega, rfl⟩)) | exact Or.inr (Or.inr (Or.inr (Or.inl ⟨by omega, by omega, by omega, by omega, rfl⟩))) | (exfalso; omega)
                    · refine j_aload_n 98 rfl rfl dX4_copy_97 ?_
                      refine j_iconst 99 rfl dX4_copy_98 ?_
                      refine jV1i 102 rfl dX4_copy_99 lk_X4_126 rfl rfl (by decide) ( rfl) ( rfl) (s_finding (by omega)) (fun r99 H1 ⟨e, hr99⟩ => ?_)
                      subst e
                      refine j_ireti dX4_copy_102 rfl ?_
                      first | exact Or.inl ⟨by omega, rfl, rfl⟩ | exact Or.inr (Or.inr (Or.inr (Or.inr ⟨by omega, by omega, by omega, rfl, rfl⟩))) | exact Or.inr (Or.inl ⟨by omega, by omega, by omega, rfl⟩) | exact Or.inr (Or.inr (Or.inl ⟨by omega, by omega, by omega, by omega, rfl⟩)) | exact Or.inr (Or.inr (Or.inr (Or.inl ⟨by omega, by omega, by omega, by omega, rfl⟩))) | (exfalso; omega)
                · refine j_aload_n 69 rfl rfl dX4_copy_68 ?_
                  refine j_iconst 70 rfl dX4_copy_69 ?_
                  refine jV1i 73 rfl dX4_copy_70 lk_X4_126 rfl rfl (by decide) ( rfl) ( rfl) (s_finding (by omega)) (fun r70 H1 ⟨e, hr70⟩ => ?_)
                  subst e
                  refine j_ireti dX4_copy_73 rfl ?_
                  first | exact Or.inl ⟨by omega, rfl, rfl⟩ | exact Or.inr (Or.inr (Or.inr (Or.inr ⟨by omega, by omega, by omega, rfl, rfl⟩))) | exact Or.inr (Or.inl ⟨by omega, by omega, by omega, rfl⟩) | exact Or.inr (Or.inr (Or.inl ⟨by omega, by omega, by omega, by omega, rfl⟩)) | exact Or.inr (Or.inr (Or.inr (Or.inl ⟨by omega, by omega, by omega, by omega, rfl⟩))) | (exfalso; omega)
              · refine j_aload_n 50 rfl rfl dX4_copy_49 ?_
                refine j_iconst 51 rfl dX4_copy_50 ?_
                refine jV1i 54 rfl dX4_copy_51 lk_X4_126 rfl rfl (by decide) ( rfl) ( rfl) (s_finding (by omega)) (fun r51 H1 ⟨e, hr51⟩ => ?_)
                subst e
                refine j_ireti dX4_copy_54 rfl ?_
                first | exact Or.inl ⟨by omega, rfl, rfl⟩ | exact Or.inr (Or.inr (Or.inr (Or.inr ⟨by omega, by omega, by omega, rfl, rfl⟩))) | exact Or.inr (Or.inl ⟨by omega, by omega, by omega, rfl⟩) | exact Or.inr (Or.inr (Or.inl ⟨by omega, by omega, by omega, by omega, rfl⟩)) | exact Or.inr (Or.inr (Or.inr (Or.inl ⟨by omega, by omega, by omega, by omega, rfl⟩))) | (exfalso; omega)
          · refine j_bipush 16 rfl rfl dX4_copy_14 ?_
            refine j_ireti dX4_copy_16 rfl ?_
            first | exact Or.inl ⟨by omega, rfl, rfl⟩ | exact Or.inr (Or.inr (Or.inr (Or.inr ⟨by omega, by omega, by omega, rfl, rfl⟩))) | exact Or.inr (Or.inl ⟨by omega, by omega, by omega, rfl⟩) | exact Or.inr (Or.inr (Or.inl ⟨by omega, by omega, by omega, by omega, rfl⟩)) | exact Or.inr (Or.inr (Or.inr (Or.inl ⟨by omega, by omega, by omega, by omega, rfl⟩))) | (exfalso; omega)
      · exfalso; omega
    · rcases hk2 with ⟨rfl, rfl, rfl⟩ | ⟨rfl, rfl, rfl⟩ | ⟨rfl, rfl, rfl⟩ | ⟨rfl, rfl, rfl⟩ | hx
      · refine jOk.rng (fun hR0 => ?_)
        refine jOk.ofe rfl (Nat.le_of_ble_eq_true rfl) (en_aiiiii_8 (E := E)) ?_
        refine j_iload_n 1 rfl rfl dX4_copy_0 ?_
        refine jS1i 4 rfl dX4_copy_1 lk_X4_120 rfl rfl (s_isSheet (by omega)) (fun r1 H1 ⟨eh_, hr1⟩ => ?_)
        obtain rfl := eh_.symm
        refine j_if_eq 14 7 (by decide) rfl dX4_copy_4 (by intro hR; first | omega | exact hR _ _ | exact jb_r _ | exact hR0 _ _ | assumption) (fun h4 => ?_) (fun h4 => ?_)
        · refine j_bipush 16 rfl rfl dX4_copy_14 ?_
          refine j_ireti dX4_copy_16 rfl ?_
          first | exact Or.inl ⟨by omega, rfl, rfl⟩ | exact Or.inr (Or.inr (Or.inr (Or.inr ⟨by omega, by omega, by omega, rfl, rfl⟩))) | exact Or.inr (Or.inl ⟨by omega, by omega, by omega, rfl⟩) | exact Or.inr (Or.inr (Or.inl ⟨by omega, by omega, by omega, by omega, rfl⟩)) | exact Or.inr (Or.inr (Or.inr (Or.inl ⟨by omega, by omega, by omega, by omega, rfl⟩))) | (exfalso; omega)
        · refine j_iload_n 8 rfl rfl dX4_copy_7 ?_
          refine jS1i 11 rfl dX4_copy_8 lk_X4_120 rfl rfl (s_isSheet (by omega)) (fun r8 H1 ⟨eh_, hr8⟩ => ?_)
          obtain rfl := eh_.symm
          refine j_if_ne 17 14 (by decide) rfl dX4_copy_11 (by intro hR; first | omega | exact hR _ _ | exact jb_r _ | exact hR0 _ _ | assumption) (fun h11 => ?_) (fun h11 => ?_)
          · refine j_aload_n 18 rfl rfl dX4_copy_17 ?_
            refine j_getr 21 rfl 7 fl_X4_42 dX4_copy_18 (by decide) ( rfl) ( rfl) ?_
            refine j_iload_n 22 rfl rfl dX4_copy_21 ?_
            refine j_aald 23 rfl dX4_copy_22 (by decide) rfl (by decide) rfl (by omega) (rfl)  ?_
            refine j_astore 25 rfl st_8_6 (by decide) rfl dX4_copy_23 ?_
            refine j_aload_n 26 rfl rfl dX4_copy_25 ?_
            refine j_getr 29 rfl 7 fl_X4_42 dX4_copy_26 (by decide) ( rfl) ( rfl) ?_
            refine j_iload_n 30 rfl rfl dX4_copy_29 ?_
            refine j_aald 31 rfl dX4_copy_30 (by decide) rfl (by decide) rfl (by omega) (rfl)  ?_
            refine j_astore 33 rfl st_8_7 (by decide) rfl dX4_copy_31 ?_
            refine j_aload 35 rfl rfl dX4_copy_33 ?_
            refine g_geti 38 rfl 0 0 rfl fl_X4_123 dX4_copy_35 (by decide) ( rfl) ( rfl) ?_
            refine j_if_ne 49 41 (by decide) rfl dX4_copy_38 (by intro hR; first | omega | exact hR _ _ | exact jb_r _ | exact hR0 _ _ | assumption) (fun h38 => ?_) (fun h38 => ?_)
            · refine j_aload_n 50 rfl rfl dX4_copy_49 ?_
              refine j_iconst 51 rfl dX4_copy_50 ?_
              refine jV1i 54 rfl dX4_copy_51 lk_X4_126 rfl rfl (by decide) ( rfl) ( rfl) (s_finding (by omega)) (fun r51 H1 ⟨e, hr51⟩ => ?_)
              subst e
              refine j_ireti dX4_copy_54 rfl ?_
              first | exact Or.inl ⟨by omega, rfl, rfl⟩ | exact Or.inr (Or.inr (Or.inr (Or.inr ⟨by omega, by omega, by omega, rfl, rfl⟩))) | exact Or.inr (Or.inl ⟨by omega, by omega, by omega, rfl⟩) | exact Or.inr (Or.inr (Or.inl ⟨by omega, by omega, by omega, by omega, rfl⟩)) | exact Or.inr (Or.inr (Or.inr (Or.inl ⟨by omega, by omega, by omega, by omega, rfl⟩))) | (exfalso; omega)
            · refine j_aload 43 rfl rfl dX4_copy_41 ?_
              refine g_geti 46 rfl 0 0 rfl fl_X4_123 dX4_copy_43 (by decide) ( rfl) ( rfl) ?_
              refine j_if_eq 55 49 (by decide) rfl dX4_copy_46 (by intro hR; first | omega | exact hR _ _ | exact jb_r _ | exact hR0 _ _ | assumption) (fun h46 => ?_) (fun h46 => ?_)
              · refine j_aload 57 rfl rfl dX4_copy_55 ?_
                refine g_geti 60 rfl 1 1 rfl fl_X4_235 dX4_copy_57 (by decide) ( rfl) ( rfl) ?_
                refine j_aload 62 rfl rfl dX4_copy_60 ?_
                refine g_geti 65 rfl 1 1 rfl fl_X4_235 dX4_copy_62 (by decide) ( rfl) ( rfl) ?_
                refine j_icmp_eq 74 68 (by decide) rfl dX4_copy_65 (by intro hR; first | omega | exact hR _ _ | exact jb_r _ | exact hR0 _ _ | assumption) (by intro hR; first | omega | exact hR _ _ | exact jb_r _ | exact hR0 _ _ | assumption) (fun h65 => ?_) (fun h65 => ?_)
                · refine j_aload 76 rfl rfl dX4_copy_74 ?_
                  refine j_iload_n 77 rfl rfl dX4_copy_76 ?_
                  refine j_iload 79 rfl rfl dX4_copy_77 ?_
                  refine jV2i 82 rfl dX4_copy_79 lk_X4_238 rfl rfl (by decide) ( rfl) ( rfl) (s_has sh1 hi hn hz) (fun r79 H1 ⟨eh_, hr79⟩ => ?_)
                  obtain rfl := eh_.symm
                  refine j_if_eq 97 85 (by decide) rfl dX4_copy_82 (by intro hR; first | omega | exact hR _ _ | exact jb_r _ | exact hR0 _ _ | assumption) (fun h82 => ?_) (fun h82 => ?_)
                  · refine j_aload_n 98 rfl rfl dX4_copy_97 ?_
                    refine j_iconst 99 rfl dX4_copy_98 ?_
                    refine jV1i 102 rfl dX4_copy_99 lk_X4_126 rfl rfl (by decide) ( rfl) ( rfl) (s_finding (by omega)) (fun r99 H1 ⟨e, hr99⟩ => ?_)
                    subst e
                    refine j_ireti dX4_copy_102 rfl ?_
                    first | exact Or.inl ⟨by omega, rfl, rfl⟩ | exact Or.inr (Or.inr (Or.inr (Or.inr ⟨by omega, by omega, by omega, rfl, rfl⟩))) | exact Or.inr (Or.inl ⟨by omega, by omega, by omega, rfl⟩) | exact Or.inr (Or.inr (Or.inl ⟨by omega, by omega, by omega, by omega, rfl⟩)) | exact Or.inr (Or.inr (Or.inr (Or.inl ⟨by omega, by omega, by omega, by omega, rfl⟩))) | (exfalso; omega)
                  · refine j_aload 87 rfl rfl dX4_copy_85 ?_
                    refine j_iload 89 rfl rfl dX4_copy_87 ?_
                    refine j_iload 91 rfl rfl dX4_copy_89 ?_
                    refine jV2i 94 rfl dX4_copy_91 lk_X4_238 rfl rfl (by decide) ( rfl) ( rfl) (s_has sh0 hj hn hz2) (fun r91 H1 ⟨eh_, hr91⟩ => ?_)
                    obtain rfl := eh_.symm
                    refine j_if_ne 103 97 (by decide) rfl dX4_copy_94 (by intro hR; first | omega | exact hR _ _ | exact jb_r _ | exact hR0 _ _ | assumption) (fun h94 => ?_) (fun h94 => ?_)
                    · refine j_aload 105 rfl rfl dX4_copy_103 ?_
                      refine j_getr 108 rfl 3 fl_X4_130 dX4_copy_105 (by decide) ( rfl) ( rfl) ?_
                      refine j_iload_n 109 rfl rfl dX4_copy_108 ?_
                      refine j_aload 111 rfl rfl dX4_copy_109 ?_
                      refine j_getr 114 rfl 3 fl_X4_130 dX4_copy_111 (by decide) ( rfl) ( rfl) ?_
                      refine j_iload 116 rfl rfl dX4_copy_114 ?_
                      refine j_iload 118 rfl rfl dX4_copy_116 ?_
                      refine j_copy 121 rfl lc_X4_241 dX4_copy_118 (by decide) (by decide) rfl rfl rfl rfl (by decide) (by decide) (by omega) (by omega) (by omega) (by decide) (Nat.le_of_ble_eq_true rfl) ?_
                      refine j_iconst 122 rfl dX4_copy_121 ?_
                      refine j_ireti dX4_copy_122 rfl ?_
                      first | exact Or.inl ⟨by omega, rfl, rfl⟩ | exact Or.inr (Or.inr (Or.inr (Or.inr ⟨by omega, by omega, by omega, rfl, rfl⟩))) | exact Or.inr (Or.inl ⟨by omega, by omega, by omega, rfl⟩) | exact Or.inr (Or.inr (Or.inl ⟨by omega, by omega, by omega, by omega, rfl⟩)) | exact Or.inr (Or.inr (Or.inr (Or.inl ⟨by omega, by omega, by omega, by omega, rfl⟩))) | (exfalso; omega)
                    · refine j_aload_n 98 rfl rfl dX4_copy_97 ?_
                      refine j_iconst 99 rfl dX4_copy_98 ?_
                      refine jV1i 102 rfl dX4_copy_99 lk_X4_126 rfl rfl (by decide) ( rfl) ( rfl) (s_finding (by omega)) (fun r99 H1 ⟨e, hr99⟩ => ?_)
                      subst e
                      refine j_ireti dX4_copy_102 rfl ?_
                      first | exact Or.inl ⟨by omega, rfl, rfl⟩ | exact Or.inr (Or.inr (Or.inr (Or.inr ⟨by omega, by omega, by omega, rfl, rfl⟩))) | exact Or.inr (Or.inl ⟨by omega, by omega, by omega, rfl⟩) | exact Or.inr (Or.inr (Or.inl ⟨by omega, by omega, by omega, by omega, rfl⟩)) | exact Or.inr (Or.inr (Or.inr (Or.inl ⟨by omega, by omega, by omega, by omega, rfl⟩))) | (exfalso; omega)
                · refine j_aload_n 69 rfl rfl dX4_copy_68 ?_
                  refine j_iconst 70 rfl dX4_copy_69 ?_
                  refine jV1i 73 rfl dX4_copy_70 lk_X4_126 rfl rfl (by decide) ( rfl) ( rfl) (s_finding (by omega)) (fun r70 H1 ⟨e, hr70⟩ => ?_)
                  subst e
                  refine j_ireti dX4_copy_73 rfl ?_
                  first | exact Or.inl ⟨by omega, rfl, rfl⟩ | exact Or.inr (Or.inr (Or.inr (Or.inr ⟨by omega, by omega, by omega, rfl, rfl⟩))) | exact Or.inr (Or.inl ⟨by omega, by omega, by omega, rfl⟩) | exact Or.inr (Or.inr (Or.inl ⟨by omega, by omega, by omega, by omega, rfl⟩)) | exact Or.inr (Or.inr (Or.inr (Or.inl ⟨by omega, by omega, by omega, by omega, rfl⟩))) | (exfalso; omega)
              · refine j_aload_n 50 rfl rfl dX4_copy_49 ?_
                refine j_iconst 51 rfl dX4_copy_50 ?_
                refine jV1i 54 rfl dX4_copy_51 lk_X4_126 rfl rfl (by decide) ( rfl) ( rfl) (s_finding (by omega)) (fun r51 H1 ⟨e, hr51⟩ => ?_)
                subst e
                refine j_ireti dX4_copy_54 rfl ?_
                first | exact Or.inl ⟨by omega, rfl, rfl⟩ | exact Or.inr (Or.inr (Or.inr (Or.inr ⟨by omega, by omega, by omega, rfl, rfl⟩))) | exact Or.inr (Or.inl ⟨by omega, by omega, by omega, rfl⟩) | exact Or.inr (Or.inr (Or.inl ⟨by omega, by omega, by omega, by omega, rfl⟩)) | exact Or.inr (Or.inr (Or.inr (Or.inl ⟨by omega, by omega, by omega, by omega, rfl⟩))) | (exfalso; omega)
          · refine j_bipush 16 rfl rfl dX4_copy_14 ?_
            refine j_ireti dX4_copy_16 rfl ?_
            first | exact Or.inl ⟨by omega, rfl, rfl⟩ | exact Or.inr (Or.inr (Or.inr (Or.inr ⟨by omega, by omega, by omega, rfl, rfl⟩))) | exact Or.inr (Or.inl ⟨by omega, by omega, by omega, rfl⟩) | exact Or.inr (Or.inr (Or.inl ⟨by omega, by omega, by omega, by omega, rfl⟩)) | exact Or.inr (Or.inr (Or.inr (Or.inl ⟨by omega, by omega, by omega, by omega, rfl⟩))) | (exfalso; omega)
      · refine jOk.rng (fun hR0 => ?_)
        refine jOk.ofe rfl (Nat.le_of_ble_eq_true rfl) (en_aiiiii_8 (E := E)) ?_
        refine j_iload_n 1 rfl rfl dX4_copy_0 ?_
        refine jS1i 4 rfl dX4_copy_1 lk_X4_120 rfl rfl (s_isSheet (by omega)) (fun r1 H1 ⟨eh_, hr1⟩ => ?_)
        obtain rfl := eh_.symm
        refine j_if_eq 14 7 (by decide) rfl dX4_copy_4 (by intro hR; first | omega | exact hR _ _ | exact jb_r _ | exact hR0 _ _ | assumption) (fun h4 => ?_) (fun h4 => ?_)
        · refine j_bipush 16 rfl rfl dX4_copy_14 ?_
          refine j_ireti dX4_copy_16 rfl ?_
          first | exact Or.inl ⟨by omega, rfl, rfl⟩ | exact Or.inr (Or.inr (Or.inr (Or.inr ⟨by omega, by omega, by omega, rfl, rfl⟩))) | exact Or.inr (Or.inl ⟨by omega, by omega, by omega, rfl⟩) | exact Or.inr (Or.inr (Or.inl ⟨by omega, by omega, by omega, by omega, rfl⟩)) | exact Or.inr (Or.inr (Or.inr (Or.inl ⟨by omega, by omega, by omega, by omega, rfl⟩))) | (exfalso; omega)
        · refine j_iload_n 8 rfl rfl dX4_copy_7 ?_
          refine jS1i 11 rfl dX4_copy_8 lk_X4_120 rfl rfl (s_isSheet (by omega)) (fun r8 H1 ⟨eh_, hr8⟩ => ?_)
          obtain rfl := eh_.symm
          refine j_if_ne 17 14 (by decide) rfl dX4_copy_11 (by intro hR; first | omega | exact hR _ _ | exact jb_r _ | exact hR0 _ _ | assumption) (fun h11 => ?_) (fun h11 => ?_)
          · refine j_aload_n 18 rfl rfl dX4_copy_17 ?_
            refine j_getr 21 rfl 7 fl_X4_42 dX4_copy_18 (by decide) ( rfl) ( rfl) ?_
            refine j_iload_n 22 rfl rfl dX4_copy_21 ?_
            refine j_aald 23 rfl dX4_copy_22 (by decide) rfl (by decide) rfl (by omega) (rfl)  ?_
            refine j_astore 25 rfl st_8_6 (by decide) rfl dX4_copy_23 ?_
            refine j_aload_n 26 rfl rfl dX4_copy_25 ?_
            refine j_getr 29 rfl 7 fl_X4_42 dX4_copy_26 (by decide) ( rfl) ( rfl) ?_
            refine j_iload_n 30 rfl rfl dX4_copy_29 ?_
            refine j_aald 31 rfl dX4_copy_30 (by decide) rfl (by decide) rfl (by omega) (rfl)  ?_
            refine j_astore 33 rfl st_8_7 (by decide) rfl dX4_copy_31 ?_
            refine j_aload 35 rfl rfl dX4_copy_33 ?_
            refine g_geti 38 rfl 0 0 rfl fl_X4_123 dX4_copy_35 (by decide) ( rfl) ( rfl) ?_
            refine j_if_ne 49 41 (by decide) rfl dX4_copy_38 (by intro hR; first | omega | exact hR _ _ | exact jb_r _ | exact hR0 _ _ | assumption) (fun h38 => ?_) (fun h38 => ?_)
            · refine j_aload_n 50 rfl rfl dX4_copy_49 ?_
              refine j_iconst 51 rfl dX4_copy_50 ?_
              refine jV1i 54 rfl dX4_copy_51 lk_X4_126 rfl rfl (by decide) ( rfl) ( rfl) (s_finding (by omega)) (fun r51 H1 ⟨e, hr51⟩ => ?_)
              subst e
              refine j_ireti dX4_copy_54 rfl ?_
              first | exact Or.inl ⟨by omega, rfl, rfl⟩ | exact Or.inr (Or.inr (Or.inr (Or.inr ⟨by omega, by omega, by omega, rfl, rfl⟩))) | exact Or.inr (Or.inl ⟨by omega, by omega, by omega, rfl⟩) | exact Or.inr (Or.inr (Or.inl ⟨by omega, by omega, by omega, by omega, rfl⟩)) | exact Or.inr (Or.inr (Or.inr (Or.inl ⟨by omega, by omega, by omega, by omega, rfl⟩))) | (exfalso; omega)
            · refine j_aload 43 rfl rfl dX4_copy_41 ?_
              refine g_geti 46 rfl 0 0 rfl fl_X4_123 dX4_copy_43 (by decide) ( rfl) ( rfl) ?_
              refine j_if_eq 55 49 (by decide) rfl dX4_copy_46 (by intro hR; first | omega | exact hR _ _ | exact jb_r _ | exact hR0 _ _ | assumption) (fun h46 => ?_) (fun h46 => ?_)
              · refine j_aload 57 rfl rfl dX4_copy_55 ?_
                refine g_geti 60 rfl 1 1 rfl fl_X4_235 dX4_copy_57 (by decide) ( rfl) ( rfl) ?_
                refine j_aload 62 rfl rfl dX4_copy_60 ?_
                refine g_geti 65 rfl 1 1 rfl fl_X4_235 dX4_copy_62 (by decide) ( rfl) ( rfl) ?_
                refine j_icmp_eq 74 68 (by decide) rfl dX4_copy_65 (by intro hR; first | omega | exact hR _ _ | exact jb_r _ | exact hR0 _ _ | assumption) (by intro hR; first | omega | exact hR _ _ | exact jb_r _ | exact hR0 _ _ | assumption) (fun h65 => ?_) (fun h65 => ?_)
                · refine j_aload 76 rfl rfl dX4_copy_74 ?_
                  refine j_iload_n 77 rfl rfl dX4_copy_76 ?_
                  refine j_iload 79 rfl rfl dX4_copy_77 ?_
                  refine jV2i 82 rfl dX4_copy_79 lk_X4_238 rfl rfl (by decide) ( rfl) ( rfl) (s_has sh1 hi hn hz) (fun r79 H1 ⟨eh_, hr79⟩ => ?_)
                  obtain rfl := eh_.symm
                  refine j_if_eq 97 85 (by decide) rfl dX4_copy_82 (by intro hR; first | omega | exact hR _ _ | exact jb_r _ | exact hR0 _ _ | assumption) (fun h82 => ?_) (fun h82 => ?_)
                  · refine j_aload_n 98 rfl rfl dX4_copy_97 ?_
                    refine j_iconst 99 rfl dX4_copy_98 ?_
                    refine jV1i 102 rfl dX4_copy_99 lk_X4_126 rfl rfl (by decide) ( rfl) ( rfl) (s_finding (by omega)) (fun r99 H1 ⟨e, hr99⟩ => ?_)
                    subst e
                    refine j_ireti dX4_copy_102 rfl ?_
                    first | exact Or.inl ⟨by omega, rfl, rfl⟩ | exact Or.inr (Or.inr (Or.inr (Or.inr ⟨by omega, by omega, by omega, rfl, rfl⟩))) | exact Or.inr (Or.inl ⟨by omega, by omega, by omega, rfl⟩) | exact Or.inr (Or.inr (Or.inl ⟨by omega, by omega, by omega, by omega, rfl⟩)) | exact Or.inr (Or.inr (Or.inr (Or.inl ⟨by omega, by omega, by omega, by omega, rfl⟩))) | (exfalso; omega)
                  · refine j_aload 87 rfl rfl dX4_copy_85 ?_
                    refine j_iload 89 rfl rfl dX4_copy_87 ?_
                    refine j_iload 91 rfl rfl dX4_copy_89 ?_
                    refine jV2i 94 rfl dX4_copy_91 lk_X4_238 rfl rfl (by decide) ( rfl) ( rfl) (s_has sh1 hj hn hz2) (fun r91 H1 ⟨eh_, hr91⟩ => ?_)
                    obtain rfl := eh_.symm
                    refine j_if_ne 103 97 (by decide) rfl dX4_copy_94 (by intro hR; first | omega | exact hR _ _ | exact jb_r _ | exact hR0 _ _ | assumption) (fun h94 => ?_) (fun h94 => ?_)
                    · refine j_aload 105 rfl rfl dX4_copy_103 ?_
                      refine j_getr 108 rfl 3 fl_X4_130 dX4_copy_105 (by decide) ( rfl) ( rfl) ?_
                      refine j_iload_n 109 rfl rfl dX4_copy_108 ?_
                      refine j_aload 111 rfl rfl dX4_copy_109 ?_
                      refine j_getr 114 rfl 3 fl_X4_130 dX4_copy_111 (by decide) ( rfl) ( rfl) ?_
                      refine j_iload 116 rfl rfl dX4_copy_114 ?_
                      refine j_iload 118 rfl rfl dX4_copy_116 ?_
                      refine j_copy 121 rfl lc_X4_241 dX4_copy_118 (by decide) (by decide) rfl rfl rfl rfl (by decide) (by decide) (by omega) (by omega) (by omega) (by decide) (Nat.le_of_ble_eq_true rfl) ?_
                      refine j_iconst 122 rfl dX4_copy_121 ?_
                      refine j_ireti dX4_copy_122 rfl ?_
                      first | exact Or.inl ⟨by omega, rfl, rfl⟩ | exact Or.inr (Or.inr (Or.inr (Or.inr ⟨by omega, by omega, by omega, rfl, rfl⟩))) | exact Or.inr (Or.inl ⟨by omega, by omega, by omega, rfl⟩) | exact Or.inr (Or.inr (Or.inl ⟨by omega, by omega, by omega, by omega, rfl⟩)) | exact Or.inr (Or.inr (Or.inr (Or.inl ⟨by omega, by omega, by omega, by omega, rfl⟩))) | (exfalso; omega)
                    · refine j_aload_n 98 rfl rfl dX4_copy_97 ?_
                      refine j_iconst 99 rfl dX4_copy_98 ?_
                      refine jV1i 102 rfl dX4_copy_99 lk_X4_126 rfl rfl (by decide) ( rfl) ( rfl) (s_finding (by omega)) (fun r99 H1 ⟨e, hr99⟩ => ?_)
                      subst e
                      refine j_ireti dX4_copy_102 rfl ?_
                      first | exact Or.inl ⟨by omega, rfl, rfl⟩ | exact Or.inr (Or.inr (Or.inr (Or.inr ⟨by omega, by omega, by omega, rfl, rfl⟩))) | exact Or.inr (Or.inl ⟨by omega, by omega, by omega, rfl⟩) | exact Or.inr (Or.inr (Or.inl ⟨by omega, by omega, by omega, by omega, rfl⟩)) | exact Or.inr (Or.inr (Or.inr (Or.inl ⟨by omega, by omega, by omega, by omega, rfl⟩))) | (exfalso; omega)
                · refine j_aload_n 69 rfl rfl dX4_copy_68 ?_
                  refine j_iconst 70 rfl dX4_copy_69 ?_
                  refine jV1i 73 rfl dX4_copy_70 lk_X4_126 rfl rfl (by decide) ( rfl) ( rfl) (s_finding (by omega)) (fun r70 H1 ⟨e, hr70⟩ => ?_)
                  subst e
                  refine j_ireti dX4_copy_73 rfl ?_
                  first | exact Or.inl ⟨by omega, rfl, rfl⟩ | exact Or.inr (Or.inr (Or.inr (Or.inr ⟨by omega, by omega, by omega, rfl, rfl⟩))) | exact Or.inr (Or.inl ⟨by omega, by omega, by omega, rfl⟩) | exact Or.inr (Or.inr (Or.inl ⟨by omega, by omega, by omega, by omega, rfl⟩)) | exact Or.inr (Or.inr (Or.inr (Or.inl ⟨by omega, by omega, by omega, by omega, rfl⟩))) | (exfalso; omega)
              · refine j_aload_n 50 rfl rfl dX4_copy_49 ?_
                refine j_iconst 51 rfl dX4_copy_50 ?_
                refine jV1i 54 rfl dX4_copy_51 lk_X4_126 rfl rfl (by decide) ( rfl) ( rfl) (s_finding (by omega)) (fun r51 H1 ⟨e, hr51⟩ => ?_)
                subst e
                refine j_ireti dX4_copy_54 rfl ?_
                first | exact Or.inl ⟨by omega, rfl, rfl⟩ | exact Or.inr (Or.inr (Or.inr (Or.inr ⟨by omega, by omega, by omega, rfl, rfl⟩))) | exact Or.inr (Or.inl ⟨by omega, by omega, by omega, rfl⟩) | exact Or.inr (Or.inr (Or.inl ⟨by omega, by omega, by omega, by omega, rfl⟩)) | exact Or.inr (Or.inr (Or.inr (Or.inl ⟨by omega, by omega, by omega, by omega, rfl⟩))) | (exfalso; omega)
          · refine j_bipush 16 rfl rfl dX4_copy_14 ?_
            refine j_ireti dX4_copy_16 rfl ?_
            first | exact Or.inl ⟨by omega, rfl, rfl⟩ | exact Or.inr (Or.inr (Or.inr (Or.inr ⟨by omega, by omega, by omega, rfl, rfl⟩))) | exact Or.inr (Or.inl ⟨by omega, by omega, by omega, rfl⟩) | exact Or.inr (Or.inr (Or.inl ⟨by omega, by omega, by omega, by omega, rfl⟩)) | exact Or.inr (Or.inr (Or.inr (Or.inl ⟨by omega, by omega, by omega, by omega, rfl⟩))) | (exfalso; omega)
      · refine jOk.rng (fun hR0 => ?_)
        refine jOk.ofe rfl (Nat.le_of_ble_eq_true rfl) (en_aiiiii_8 (E := E)) ?_
        refine j_iload_n 1 rfl rfl dX4_copy_0 ?_
        refine jS1i 4 rfl dX4_copy_1 lk_X4_120 rfl rfl (s_isSheet (by omega)) (fun r1 H1 ⟨eh_, hr1⟩ => ?_)
        obtain rfl := eh_.symm
        refine j_if_eq 14 7 (by decide) rfl dX4_copy_4 (by intro hR; first | omega | exact hR _ _ | exact jb_r _ | exact hR0 _ _ | assumption) (fun h4 => ?_) (fun h4 => ?_)
        · refine j_bipush 16 rfl rfl dX4_copy_14 ?_
          refine j_ireti dX4_copy_16 rfl ?_
          first | exact Or.inl ⟨by omega, rfl, rfl⟩ | exact Or.inr (Or.inr (Or.inr (Or.inr ⟨by omega, by omega, by omega, rfl, rfl⟩))) | exact Or.inr (Or.inl ⟨by omega, by omega, by omega, rfl⟩) | exact Or.inr (Or.inr (Or.inl ⟨by omega, by omega, by omega, by omega, rfl⟩)) | exact Or.inr (Or.inr (Or.inr (Or.inl ⟨by omega, by omega, by omega, by omega, rfl⟩))) | (exfalso; omega)
        · refine j_iload_n 8 rfl rfl dX4_copy_7 ?_
          refine jS1i 11 rfl dX4_copy_8 lk_X4_120 rfl rfl (s_isSheet (by omega)) (fun r8 H1 ⟨eh_, hr8⟩ => ?_)
          obtain rfl := eh_.symm
          refine j_if_ne 17 14 (by decide) rfl dX4_copy_11 (by intro hR; first | omega | exact hR _ _ | exact jb_r _ | exact hR0 _ _ | assumption) (fun h11 => ?_) (fun h11 => ?_)
          · refine j_aload_n 18 rfl rfl dX4_copy_17 ?_
            refine j_getr 21 rfl 7 fl_X4_42 dX4_copy_18 (by decide) ( rfl) ( rfl) ?_
            refine j_iload_n 22 rfl rfl dX4_copy_21 ?_
            refine j_aald 23 rfl dX4_copy_22 (by decide) rfl (by decide) rfl (by omega) (rfl)  ?_
            refine j_astore 25 rfl st_8_6 (by decide) rfl dX4_copy_23 ?_
            refine j_aload_n 26 rfl rfl dX4_copy_25 ?_
            refine j_getr 29 rfl 7 fl_X4_42 dX4_copy_26 (by decide) ( rfl) ( rfl) ?_
            refine j_iload_n 30 rfl rfl dX4_copy_29 ?_
            refine j_aald 31 rfl dX4_copy_30 (by decide) rfl (by decide) rfl (by omega) (rfl)  ?_
            refine j_astore 33 rfl st_8_7 (by decide) rfl dX4_copy_31 ?_
            refine j_aload 35 rfl rfl dX4_copy_33 ?_
            refine g_geti 38 rfl 0 0 rfl fl_X4_123 dX4_copy_35 (by decide) ( rfl) ( rfl) ?_
            refine j_if_ne 49 41 (by decide) rfl dX4_copy_38 (by intro hR; first | omega | exact hR _ _ | exact jb_r _ | exact hR0 _ _ | assumption) (fun h38 => ?_) (fun h38 => ?_)
            · refine j_aload_n 50 rfl rfl dX4_copy_49 ?_
              refine j_iconst 51 rfl dX4_copy_50 ?_
              refine jV1i 54 rfl dX4_copy_51 lk_X4_126 rfl rfl (by decide) ( rfl) ( rfl) (s_finding (by omega)) (fun r51 H1 ⟨e, hr51⟩ => ?_)
              subst e
              refine j_ireti dX4_copy_54 rfl ?_
              first | exact Or.inl ⟨by omega, rfl, rfl⟩ | exact Or.inr (Or.inr (Or.inr (Or.inr ⟨by omega, by omega, by omega, rfl, rfl⟩))) | exact Or.inr (Or.inl ⟨by omega, by omega, by omega, rfl⟩) | exact Or.inr (Or.inr (Or.inl ⟨by omega, by omega, by omega, by omega, rfl⟩)) | exact Or.inr (Or.inr (Or.inr (Or.inl ⟨by omega, by omega, by omega, by omega, rfl⟩))) | (exfalso; omega)
            · refine j_aload 43 rfl rfl dX4_copy_41 ?_
              refine g_geti 46 rfl 0 0 rfl fl_X4_123 dX4_copy_43 (by decide) ( rfl) ( rfl) ?_
              refine j_if_eq 55 49 (by decide) rfl dX4_copy_46 (by intro hR; first | omega | exact hR _ _ | exact jb_r _ | exact hR0 _ _ | assumption) (fun h46 => ?_) (fun h46 => ?_)
              · refine j_aload 57 rfl rfl dX4_copy_55 ?_
                refine g_geti 60 rfl 1 1 rfl fl_X4_235 dX4_copy_57 (by decide) ( rfl) ( rfl) ?_
                refine j_aload 62 rfl rfl dX4_copy_60 ?_
                refine g_geti 65 rfl 1 1 rfl fl_X4_235 dX4_copy_62 (by decide) ( rfl) ( rfl) ?_
                refine j_icmp_eq 74 68 (by decide) rfl dX4_copy_65 (by intro hR; first | omega | exact hR _ _ | exact jb_r _ | exact hR0 _ _ | assumption) (by intro hR; first | omega | exact hR _ _ | exact jb_r _ | exact hR0 _ _ | assumption) (fun h65 => ?_) (fun h65 => ?_)
                · refine j_aload 76 rfl rfl dX4_copy_74 ?_
                  refine j_iload_n 77 rfl rfl dX4_copy_76 ?_
                  refine j_iload 79 rfl rfl dX4_copy_77 ?_
                  refine jV2i 82 rfl dX4_copy_79 lk_X4_238 rfl rfl (by decide) ( rfl) ( rfl) (s_has sh1 hi hn hz) (fun r79 H1 ⟨eh_, hr79⟩ => ?_)
                  obtain rfl := eh_.symm
                  refine j_if_eq 97 85 (by decide) rfl dX4_copy_82 (by intro hR; first | omega | exact hR _ _ | exact jb_r _ | exact hR0 _ _ | assumption) (fun h82 => ?_) (fun h82 => ?_)
                  · refine j_aload_n 98 rfl rfl dX4_copy_97 ?_
                    refine j_iconst 99 rfl dX4_copy_98 ?_
                    refine jV1i 102 rfl dX4_copy_99 lk_X4_126 rfl rfl (by decide) ( rfl) ( rfl) (s_finding (by omega)) (fun r99 H1 ⟨e, hr99⟩ => ?_)
                    subst e
                    refine j_ireti dX4_copy_102 rfl ?_
                    first | exact Or.inl ⟨by omega, rfl, rfl⟩ | exact Or.inr (Or.inr (Or.inr (Or.inr ⟨by omega, by omega, by omega, rfl, rfl⟩))) | exact Or.inr (Or.inl ⟨by omega, by omega, by omega, rfl⟩) | exact Or.inr (Or.inr (Or.inl ⟨by omega, by omega, by omega, by omega, rfl⟩)) | exact Or.inr (Or.inr (Or.inr (Or.inl ⟨by omega, by omega, by omega, by omega, rfl⟩))) | (exfalso; omega)
                  · refine j_aload 87 rfl rfl dX4_copy_85 ?_
                    refine j_iload 89 rfl rfl dX4_copy_87 ?_
                    refine j_iload 91 rfl rfl dX4_copy_89 ?_
                    refine jV2i 94 rfl dX4_copy_91 lk_X4_238 rfl rfl (by decide) ( rfl) ( rfl) (s_has sh2 hj hn hz2) (fun r91 H1 ⟨eh_, hr91⟩ => ?_)
                    obtain rfl := eh_.symm
                    refine j_if_ne 103 97 (by decide) rfl dX4_copy_94 (by intro hR; first | omega | exact hR _ _ | exact jb_r _ | exact hR0 _ _ | assumption) (fun h94 => ?_) (fun h94 => ?_)
                    · refine j_aload 105 rfl rfl dX4_copy_103 ?_
                      refine j_getr 108 rfl 3 fl_X4_130 dX4_copy_105 (by decide) ( rfl) ( rfl) ?_
                      refine j_iload_n 109 rfl rfl dX4_copy_108 ?_
                      refine j_aload 111 rfl rfl dX4_copy_109 ?_
                      refine j_getr 114 rfl 3 fl_X4_130 dX4_copy_111 (by decide) ( rfl) ( rfl) ?_
                      refine j_iload 116 rfl rfl dX4_copy_114 ?_
                      refine j_iload 118 rfl rfl dX4_copy_116 ?_
                      refine j_copy 121 rfl lc_X4_241 dX4_copy_118 (by decide) (by decide) rfl rfl rfl rfl (by decide) (by decide) (by omega) (by omega) (by omega) (by decide) (Nat.le_of_ble_eq_true rfl) ?_
                      refine j_iconst 122 rfl dX4_copy_121 ?_
                      refine j_ireti dX4_copy_122 rfl ?_
                      first | exact Or.inl ⟨by omega, rfl, rfl⟩ | exact Or.inr (Or.inr (Or.inr (Or.inr ⟨by omega, by omega, by omega, rfl, rfl⟩))) | exact Or.inr (Or.inl ⟨by omega, by omega, by omega, rfl⟩) | exact Or.inr (Or.inr (Or.inl ⟨by omega, by omega, by omega, by omega, rfl⟩)) | exact Or.inr (Or.inr (Or.inr (Or.inl ⟨by omega, by omega, by omega, by omega, rfl⟩))) | (exfalso; omega)
                    · refine j_aload_n 98 rfl rfl dX4_copy_97 ?_
                      refine j_iconst 99 rfl dX4_copy_98 ?_
                      refine jV1i 102 rfl dX4_copy_99 lk_X4_126 rfl rfl (by decide) ( rfl) ( rfl) (s_finding (by omega)) (fun r99 H1 ⟨e, hr99⟩ => ?_)
                      subst e
                      refine j_ireti dX4_copy_102 rfl ?_
                      first | exact Or.inl ⟨by omega, rfl, rfl⟩ | exact Or.inr (Or.inr (Or.inr (Or.inr ⟨by omega, by omega, by omega, rfl, rfl⟩))) | exact Or.inr (Or.inl ⟨by omega, by omega, by omega, rfl⟩) | exact Or.inr (Or.inr (Or.inl ⟨by omega, by omega, by omega, by omega, rfl⟩)) | exact Or.inr (Or.inr (Or.inr (Or.inl ⟨by omega, by omega, by omega, by omega, rfl⟩))) | (exfalso; omega)
                · refine j_aload_n 69 rfl rfl dX4_copy_68 ?_
                  refine j_iconst 70 rfl dX4_copy_69 ?_
                  refine jV1i 73 rfl dX4_copy_70 lk_X4_126 rfl rfl (by decide) ( rfl) ( rfl) (s_finding (by omega)) (fun r70 H1 ⟨e, hr70⟩ => ?_)
                  subst e
                  refine j_ireti dX4_copy_73 rfl ?_
                  first | exact Or.inl ⟨by omega, rfl, rfl⟩ | exact Or.inr (Or.inr (Or.inr (Or.inr ⟨by omega, by omega, by omega, rfl, rfl⟩))) | exact Or.inr (Or.inl ⟨by omega, by omega, by omega, rfl⟩) | exact Or.inr (Or.inr (Or.inl ⟨by omega, by omega, by omega, by omega, rfl⟩)) | exact Or.inr (Or.inr (Or.inr (Or.inl ⟨by omega, by omega, by omega, by omega, rfl⟩))) | (exfalso; omega)
              · refine j_aload_n 50 rfl rfl dX4_copy_49 ?_
                refine j_iconst 51 rfl dX4_copy_50 ?_
                refine jV1i 54 rfl dX4_copy_51 lk_X4_126 rfl rfl (by decide) ( rfl) ( rfl) (s_finding (by omega)) (fun r51 H1 ⟨e, hr51⟩ => ?_)
                subst e
                refine j_ireti dX4_copy_54 rfl ?_
                first | exact Or.inl ⟨by omega, rfl, rfl⟩ | exact Or.inr (Or.inr (Or.inr (Or.inr ⟨by omega, by omega, by omega, rfl, rfl⟩))) | exact Or.inr (Or.inl ⟨by omega, by omega, by omega, rfl⟩) | exact Or.inr (Or.inr (Or.inl ⟨by omega, by omega, by omega, by omega, rfl⟩)) | exact Or.inr (Or.inr (Or.inr (Or.inl ⟨by omega, by omega, by omega, by omega, rfl⟩))) | (exfalso; omega)
          · refine j_bipush 16 rfl rfl dX4_copy_14 ?_
            refine j_ireti dX4_copy_16 rfl ?_
            first | exact Or.inl ⟨by omega, rfl, rfl⟩ | exact Or.inr (Or.inr (Or.inr (Or.inr ⟨by omega, by omega, by omega, rfl, rfl⟩))) | exact Or.inr (Or.inl ⟨by omega, by omega, by omega, rfl⟩) | exact Or.inr (Or.inr (Or.inl ⟨by omega, by omega, by omega, by omega, rfl⟩)) | exact Or.inr (Or.inr (Or.inr (Or.inl ⟨by omega, by omega, by omega, by omega, rfl⟩))) | (exfalso; omega)
      · refine jOk.rng (fun hR0 => ?_)
        refine jOk.ofe rfl (Nat.le_of_ble_eq_true rfl) (en_aiiiii_8 (E := E)) ?_
        refine j_iload_n 1 rfl rfl dX4_copy_0 ?_
        refine jS1i 4 rfl dX4_copy_1 lk_X4_120 rfl rfl (s_isSheet (by omega)) (fun r1 H1 ⟨eh_, hr1⟩ => ?_)
        obtain rfl := eh_.symm
        refine j_if_eq 14 7 (by decide) rfl dX4_copy_4 (by intro hR; first | omega | exact hR _ _ | exact jb_r _ | exact hR0 _ _ | assumption) (fun h4 => ?_) (fun h4 => ?_)
        · refine j_bipush 16 rfl rfl dX4_copy_14 ?_
          refine j_ireti dX4_copy_16 rfl ?_
          first | exact Or.inl ⟨by omega, rfl, rfl⟩ | exact Or.inr (Or.inr (Or.inr (Or.inr ⟨by omega, by omega, by omega, rfl, rfl⟩))) | exact Or.inr (Or.inl ⟨by omega, by omega, by omega, rfl⟩) | exact Or.inr (Or.inr (Or.inl ⟨by omega, by omega, by omega, by omega, rfl⟩)) | exact Or.inr (Or.inr (Or.inr (Or.inl ⟨by omega, by omega, by omega, by omega, rfl⟩))) | (exfalso; omega)
        · refine j_iload_n 8 rfl rfl dX4_copy_7 ?_
          refine jS1i 11 rfl dX4_copy_8 lk_X4_120 rfl rfl (s_isSheet (by omega)) (fun r8 H1 ⟨eh_, hr8⟩ => ?_)
          obtain rfl := eh_.symm
          refine j_if_ne 17 14 (by decide) rfl dX4_copy_11 (by intro hR; first | omega | exact hR _ _ | exact jb_r _ | exact hR0 _ _ | assumption) (fun h11 => ?_) (fun h11 => ?_)
          · refine j_aload_n 18 rfl rfl dX4_copy_17 ?_
            refine j_getr 21 rfl 7 fl_X4_42 dX4_copy_18 (by decide) ( rfl) ( rfl) ?_
            refine j_iload_n 22 rfl rfl dX4_copy_21 ?_
            refine j_aald 23 rfl dX4_copy_22 (by decide) rfl (by decide) rfl (by omega) (rfl)  ?_
            refine j_astore 25 rfl st_8_6 (by decide) rfl dX4_copy_23 ?_
            refine j_aload_n 26 rfl rfl dX4_copy_25 ?_
            refine j_getr 29 rfl 7 fl_X4_42 dX4_copy_26 (by decide) ( rfl) ( rfl) ?_
            refine j_iload_n 30 rfl rfl dX4_copy_29 ?_
            refine j_aald 31 rfl dX4_copy_30 (by decide) rfl (by decide) rfl (by omega) (rfl)  ?_
            refine j_astore 33 rfl st_8_7 (by decide) rfl dX4_copy_31 ?_
            refine j_aload 35 rfl rfl dX4_copy_33 ?_
            refine g_geti 38 rfl 0 0 rfl fl_X4_123 dX4_copy_35 (by decide) ( rfl) ( rfl) ?_
            refine j_if_ne 49 41 (by decide) rfl dX4_copy_38 (by intro hR; first | omega | exact hR _ _ | exact jb_r _ | exact hR0 _ _ | assumption) (fun h38 => ?_) (fun h38 => ?_)
            · refine j_aload_n 50 rfl rfl dX4_copy_49 ?_
              refine j_iconst 51 rfl dX4_copy_50 ?_
              refine jV1i 54 rfl dX4_copy_51 lk_X4_126 rfl rfl (by decide) ( rfl) ( rfl) (s_finding (by omega)) (fun r51 H1 ⟨e, hr51⟩ => ?_)
              subst e
              refine j_ireti dX4_copy_54 rfl ?_
              first | exact Or.inl ⟨by omega, rfl, rfl⟩ | exact Or.inr (Or.inr (Or.inr (Or.inr ⟨by omega, by omega, by omega, rfl, rfl⟩))) | exact Or.inr (Or.inl ⟨by omega, by omega, by omega, rfl⟩) | exact Or.inr (Or.inr (Or.inl ⟨by omega, by omega, by omega, by omega, rfl⟩)) | exact Or.inr (Or.inr (Or.inr (Or.inl ⟨by omega, by omega, by omega, by omega, rfl⟩))) | (exfalso; omega)
            · refine j_aload 43 rfl rfl dX4_copy_41 ?_
              refine g_geti 46 rfl 0 0 rfl fl_X4_123 dX4_copy_43 (by decide) ( rfl) ( rfl) ?_
              refine j_if_eq 55 49 (by decide) rfl dX4_copy_46 (by intro hR; first | omega | exact hR _ _ | exact jb_r _ | exact hR0 _ _ | assumption) (fun h46 => ?_) (fun h46 => ?_)
              · refine j_aload 57 rfl rfl dX4_copy_55 ?_
                refine g_geti 60 rfl 1 1 rfl fl_X4_235 dX4_copy_57 (by decide) ( rfl) ( rfl) ?_
                refine j_aload 62 rfl rfl dX4_copy_60 ?_
                refine g_geti 65 rfl 1 1 rfl fl_X4_235 dX4_copy_62 (by decide) ( rfl) ( rfl) ?_
                refine j_icmp_eq 74 68 (by decide) rfl dX4_copy_65 (by intro hR; first | omega | exact hR _ _ | exact jb_r _ | exact hR0 _ _ | assumption) (by intro hR; first | omega | exact hR _ _ | exact jb_r _ | exact hR0 _ _ | assumption) (fun h65 => ?_) (fun h65 => ?_)
                · refine j_aload 76 rfl rfl dX4_copy_74 ?_
                  refine j_iload_n 77 rfl rfl dX4_copy_76 ?_
                  refine j_iload 79 rfl rfl dX4_copy_77 ?_
                  refine jV2i 82 rfl dX4_copy_79 lk_X4_238 rfl rfl (by decide) ( rfl) ( rfl) (s_has sh1 hi hn hz) (fun r79 H1 ⟨eh_, hr79⟩ => ?_)
                  obtain rfl := eh_.symm
                  refine j_if_eq 97 85 (by decide) rfl dX4_copy_82 (by intro hR; first | omega | exact hR _ _ | exact jb_r _ | exact hR0 _ _ | assumption) (fun h82 => ?_) (fun h82 => ?_)
                  · refine j_aload_n 98 rfl rfl dX4_copy_97 ?_
                    refine j_iconst 99 rfl dX4_copy_98 ?_
                    refine jV1i 102 rfl dX4_copy_99 lk_X4_126 rfl rfl (by decide) ( rfl) ( rfl) (s_finding (by omega)) (fun r99 H1 ⟨e, hr99⟩ => ?_)
                    subst e
                    refine j_ireti dX4_copy_102 rfl ?_
                    first | exact Or.inl ⟨by omega, rfl, rfl⟩ | exact Or.inr (Or.inr (Or.inr (Or.inr ⟨by omega, by omega, by omega, rfl, rfl⟩))) | exact Or.inr (Or.inl ⟨by omega, by omega, by omega, rfl⟩) | exact Or.inr (Or.inr (Or.inl ⟨by omega, by omega, by omega, by omega, rfl⟩)) | exact Or.inr (Or.inr (Or.inr (Or.inl ⟨by omega, by omega, by omega, by omega, rfl⟩))) | (exfalso; omega)
                  · refine j_aload 87 rfl rfl dX4_copy_85 ?_
                    refine j_iload 89 rfl rfl dX4_copy_87 ?_
                    refine j_iload 91 rfl rfl dX4_copy_89 ?_
                    refine jV2i 94 rfl dX4_copy_91 lk_X4_238 rfl rfl (by decide) ( rfl) ( rfl) (s_has sh3 hj hn hz2) (fun r91 H1 ⟨eh_, hr91⟩ => ?_)
                    obtain rfl := eh_.symm
                    refine j_if_ne 103 97 (by decide) rfl dX4_copy_94 (by intro hR; first | omega | exact hR _ _ | exact jb_r _ | exact hR0 _ _ | assumption) (fun h94 => ?_) (fun h94 => ?_)
                    · refine j_aload 105 rfl rfl dX4_copy_103 ?_
                      refine j_getr 108 rfl 3 fl_X4_130 dX4_copy_105 (by decide) ( rfl) ( rfl) ?_
                      refine j_iload_n 109 rfl rfl dX4_copy_108 ?_
                      refine j_aload 111 rfl rfl dX4_copy_109 ?_
                      refine j_getr 114 rfl 3 fl_X4_130 dX4_copy_111 (by decide) ( rfl) ( rfl) ?_
                      refine j_iload 116 rfl rfl dX4_copy_114 ?_
                      refine j_iload 118 rfl rfl dX4_copy_116 ?_
                      refine j_copy 121 rfl lc_X4_241 dX4_copy_118 (by decide) (by decide) rfl rfl rfl rfl (by decide) (by decide) (by omega) (by omega) (by omega) (by decide) (Nat.le_of_ble_eq_true rfl) ?_
                      refine j_iconst 122 rfl dX4_copy_121 ?_
                      refine j_ireti dX4_copy_122 rfl ?_
                      first | exact Or.inl ⟨by omega, rfl, rfl⟩ | exact Or.inr (Or.inr (Or.inr (Or.inr ⟨by omega, by omega, by omega, rfl, rfl⟩))) | exact Or.inr (Or.inl ⟨by omega, by omega, by omega, rfl⟩) | exact Or.inr (Or.inr (Or.inl ⟨by omega, by omega, by omega, by omega, rfl⟩)) | exact Or.inr (Or.inr (Or.inr (Or.inl ⟨by omega, by omega, by omega, by omega, rfl⟩))) | (exfalso; omega)
                    · refine j_aload_n 98 rfl rfl dX4_copy_97 ?_
                      refine j_iconst 99 rfl dX4_copy_98 ?_
                      refine jV1i 102 rfl dX4_copy_99 lk_X4_126 rfl rfl (by decide) ( rfl) ( rfl) (s_finding (by omega)) (fun r99 H1 ⟨e, hr99⟩ => ?_)
                      subst e
                      refine j_ireti dX4_copy_102 rfl ?_
                      first | exact Or.inl ⟨by omega, rfl, rfl⟩ | exact Or.inr (Or.inr (Or.inr (Or.inr ⟨by omega, by omega, by omega, rfl, rfl⟩))) | exact Or.inr (Or.inl ⟨by omega, by omega, by omega, rfl⟩) | exact Or.inr (Or.inr (Or.inl ⟨by omega, by omega, by omega, by omega, rfl⟩)) | exact Or.inr (Or.inr (Or.inr (Or.inl ⟨by omega, by omega, by omega, by omega, rfl⟩))) | (exfalso; omega)
                · refine j_aload_n 69 rfl rfl dX4_copy_68 ?_
                  refine j_iconst 70 rfl dX4_copy_69 ?_
                  refine jV1i 73 rfl dX4_copy_70 lk_X4_126 rfl rfl (by decide) ( rfl) ( rfl) (s_finding (by omega)) (fun r70 H1 ⟨e, hr70⟩ => ?_)
                  subst e
                  refine j_ireti dX4_copy_73 rfl ?_
                  first | exact Or.inl ⟨by omega, rfl, rfl⟩ | exact Or.inr (Or.inr (Or.inr (Or.inr ⟨by omega, by omega, by omega, rfl, rfl⟩))) | exact Or.inr (Or.inl ⟨by omega, by omega, by omega, rfl⟩) | exact Or.inr (Or.inr (Or.inl ⟨by omega, by omega, by omega, by omega, rfl⟩)) | exact Or.inr (Or.inr (Or.inr (Or.inl ⟨by omega, by omega, by omega, by omega, rfl⟩))) | (exfalso; omega)
              · refine j_aload_n 50 rfl rfl dX4_copy_49 ?_
                refine j_iconst 51 rfl dX4_copy_50 ?_
                refine jV1i 54 rfl dX4_copy_51 lk_X4_126 rfl rfl (by decide) ( rfl) ( rfl) (s_finding (by omega)) (fun r51 H1 ⟨e, hr51⟩ => ?_)
                subst e
                refine j_ireti dX4_copy_54 rfl ?_
                first | exact Or.inl ⟨by omega, rfl, rfl⟩ | exact Or.inr (Or.inr (Or.inr (Or.inr ⟨by omega, by omega, by omega, rfl, rfl⟩))) | exact Or.inr (Or.inl ⟨by omega, by omega, by omega, rfl⟩) | exact Or.inr (Or.inr (Or.inl ⟨by omega, by omega, by omega, by omega, rfl⟩)) | exact Or.inr (Or.inr (Or.inr (Or.inl ⟨by omega, by omega, by omega, by omega, rfl⟩))) | (exfalso; omega)
          · refine j_bipush 16 rfl rfl dX4_copy_14 ?_
            refine j_ireti dX4_copy_16 rfl ?_
            first | exact Or.inl ⟨by omega, rfl, rfl⟩ | exact Or.inr (Or.inr (Or.inr (Or.inr ⟨by omega, by omega, by omega, rfl, rfl⟩))) | exact Or.inr (Or.inl ⟨by omega, by omega, by omega, rfl⟩) | exact Or.inr (Or.inr (Or.inl ⟨by omega, by omega, by omega, by omega, rfl⟩)) | exact Or.inr (Or.inr (Or.inr (Or.inl ⟨by omega, by omega, by omega, by omega, rfl⟩))) | (exfalso; omega)
      · exfalso; omega
    · rcases hk2 with ⟨rfl, rfl, rfl⟩ | ⟨rfl, rfl, rfl⟩ | ⟨rfl, rfl, rfl⟩ | ⟨rfl, rfl, rfl⟩ | hx
      · refine jOk.rng (fun hR0 => ?_)
        refine jOk.ofe rfl (Nat.le_of_ble_eq_true rfl) (en_aiiiii_8 (E := E)) ?_
        refine j_iload_n 1 rfl rfl dX4_copy_0 ?_
        refine jS1i 4 rfl dX4_copy_1 lk_X4_120 rfl rfl (s_isSheet (by omega)) (fun r1 H1 ⟨eh_, hr1⟩ => ?_)
        obtain rfl := eh_.symm
        refine j_if_eq 14 7 (by decide) rfl dX4_copy_4 (by intro hR; first | omega | exact hR _ _ | exact jb_r _ | exact hR0 _ _ | assumption) (fun h4 => ?_) (fun h4 => ?_)
        · refine j_bipush 16 rfl rfl dX4_copy_14 ?_
          refine j_ireti dX4_copy_16 rfl ?_
          first | exact Or.inl ⟨by omega, rfl, rfl⟩ | exact Or.inr (Or.inr (Or.inr (Or.inr ⟨by omega, by omega, by omega, rfl, rfl⟩))) | exact Or.inr (Or.inl ⟨by omega, by omega, by omega, rfl⟩) | exact Or.inr (Or.inr (Or.inl ⟨by omega, by omega, by omega, by omega, rfl⟩)) | exact Or.inr (Or.inr (Or.inr (Or.inl ⟨by omega, by omega, by omega, by omega, rfl⟩))) | (exfalso; omega)
        · refine j_iload_n 8 rfl rfl dX4_copy_7 ?_
          refine jS1i 11 rfl dX4_copy_8 lk_X4_120 rfl rfl (s_isSheet (by omega)) (fun r8 H1 ⟨eh_, hr8⟩ => ?_)
          obtain rfl := eh_.symm
          refine j_if_ne 17 14 (by decide) rfl dX4_copy_11 (by intro hR; first | omega | exact hR _ _ | exact jb_r _ | exact hR0 _ _ | assumption) (fun h11 => ?_) (fun h11 => ?_)
          · refine j_aload_n 18 rfl rfl dX4_copy_17 ?_
            refine j_getr 21 rfl 7 fl_X4_42 dX4_copy_18 (by decide) ( rfl) ( rfl) ?_
            refine j_iload_n 22 rfl rfl dX4_copy_21 ?_
            refine j_aald 23 rfl dX4_copy_22 (by decide) rfl (by decide) rfl (by omega) (rfl)  ?_
            refine j_astore 25 rfl st_8_6 (by decide) rfl dX4_copy_23 ?_
            refine j_aload_n 26 rfl rfl dX4_copy_25 ?_
            refine j_getr 29 rfl 7 fl_X4_42 dX4_copy_26 (by decide) ( rfl) ( rfl) ?_
            refine j_iload_n 30 rfl rfl dX4_copy_29 ?_
            refine j_aald 31 rfl dX4_copy_30 (by decide) rfl (by decide) rfl (by omega) (rfl)  ?_
            refine j_astore 33 rfl st_8_7 (by decide) rfl dX4_copy_31 ?_
            refine j_aload 35 rfl rfl dX4_copy_33 ?_
            refine g_geti 38 rfl 0 0 rfl fl_X4_123 dX4_copy_35 (by decide) ( rfl) ( rfl) ?_
            refine j_if_ne 49 41 (by decide) rfl dX4_copy_38 (by intro hR; first | omega | exact hR _ _ | exact jb_r _ | exact hR0 _ _ | assumption) (fun h38 => ?_) (fun h38 => ?_)
            · refine j_aload_n 50 rfl rfl dX4_copy_49 ?_
              refine j_iconst 51 rfl dX4_copy_50 ?_
              refine jV1i 54 rfl dX4_copy_51 lk_X4_126 rfl rfl (by decide) ( rfl) ( rfl) (s_finding (by omega)) (fun r51 H1 ⟨e, hr51⟩ => ?_)
              subst e
              refine j_ireti dX4_copy_54 rfl ?_
              first | exact Or.inl ⟨by omega, rfl, rfl⟩ | exact Or.inr (Or.inr (Or.inr (Or.inr ⟨by omega, by omega, by omega, rfl, rfl⟩))) | exact Or.inr (Or.inl ⟨by omega, by omega, by omega, rfl⟩) | exact Or.inr (Or.inr (Or.inl ⟨by omega, by omega, by omega, by omega, rfl⟩)) | exact Or.inr (Or.inr (Or.inr (Or.inl ⟨by omega, by omega, by omega, by omega, rfl⟩))) | (exfalso; omega)
            · refine j_aload 43 rfl rfl dX4_copy_41 ?_
              refine g_geti 46 rfl 0 0 rfl fl_X4_123 dX4_copy_43 (by decide) ( rfl) ( rfl) ?_
              refine j_if_eq 55 49 (by decide) rfl dX4_copy_46 (by intro hR; first | omega | exact hR _ _ | exact jb_r _ | exact hR0 _ _ | assumption) (fun h46 => ?_) (fun h46 => ?_)
              · refine j_aload 57 rfl rfl dX4_copy_55 ?_
                refine g_geti 60 rfl 1 1 rfl fl_X4_235 dX4_copy_57 (by decide) ( rfl) ( rfl) ?_
                refine j_aload 62 rfl rfl dX4_copy_60 ?_
                refine g_geti 65 rfl 1 1 rfl fl_X4_235 dX4_copy_62 (by decide) ( rfl) ( rfl) ?_
                refine j_icmp_eq 74 68 (by decide) rfl dX4_copy_65 (by intro hR; first | omega | exact hR _ _ | exact jb_r _ | exact hR0 _ _ | assumption) (by intro hR; first | omega | exact hR _ _ | exact jb_r _ | exact hR0 _ _ | assumption) (fun h65 => ?_) (fun h65 => ?_)
                · refine j_aload 76 rfl rfl dX4_copy_74 ?_
                  refine j_iload_n 77 rfl rfl dX4_copy_76 ?_
                  refine j_iload 79 rfl rfl dX4_copy_77 ?_
                  refine jV2i 82 rfl dX4_copy_79 lk_X4_238 rfl rfl (by decide) ( rfl) ( rfl) (s_has sh2 hi hn hz) (fun r79 H1 ⟨eh_, hr79⟩ => ?_)
                  obtain rfl := eh_.symm
                  refine j_if_eq 97 85 (by decide) rfl dX4_copy_82 (by intro hR; first | omega | exact hR _ _ | exact jb_r _ | exact hR0 _ _ | assumption) (fun h82 => ?_) (fun h82 => ?_)
                  · refine j_aload_n 98 rfl rfl dX4_copy_97 ?_
                    refine j_iconst 99 rfl dX4_copy_98 ?_
                    refine jV1i 102 rfl dX4_copy_99 lk_X4_126 rfl rfl (by decide) ( rfl) ( rfl) (s_finding (by omega)) (fun r99 H1 ⟨e, hr99⟩ => ?_)
                    subst e
                    refine j_ireti dX4_copy_102 rfl ?_
                    first | exact Or.inl ⟨by omega, rfl, rfl⟩ | exact Or.inr (Or.inr (Or.inr (Or.inr ⟨by omega, by omega, by omega, rfl, rfl⟩))) | exact Or.inr (Or.inl ⟨by omega, by omega, by omega, rfl⟩) | exact Or.inr (Or.inr (Or.inl ⟨by omega, by omega, by omega, by omega, rfl⟩)) | exact Or.inr (Or.inr (Or.inr (Or.inl ⟨by omega, by omega, by omega, by omega, rfl⟩))) | (exfalso; omega)
                  · refine j_aload 87 rfl rfl dX4_copy_85 ?_
                    refine j_iload 89 rfl rfl dX4_copy_87 ?_
                    refine j_iload 91 rfl rfl dX4_copy_89 ?_
                    refine jV2i 94 rfl dX4_copy_91 lk_X4_238 rfl rfl (by decide) ( rfl) ( rfl) (s_has sh0 hj hn hz2) (fun r91 H1 ⟨eh_, hr91⟩ => ?_)
                    obtain rfl := eh_.symm
                    refine j_if_ne 103 97 (by decide) rfl dX4_copy_94 (by intro hR; first | omega | exact hR _ _ | exact jb_r _ | exact hR0 _ _ | assumption) (fun h94 => ?_) (fun h94 => ?_)
                    · refine j_aload 105 rfl rfl dX4_copy_103 ?_
                      refine j_getr 108 rfl 3 fl_X4_130 dX4_copy_105 (by decide) ( rfl) ( rfl) ?_
                      refine j_iload_n 109 rfl rfl dX4_copy_108 ?_
                      refine j_aload 111 rfl rfl dX4_copy_109 ?_
                      refine j_getr 114 rfl 3 fl_X4_130 dX4_copy_111 (by decide) ( rfl) ( rfl) ?_
                      refine j_iload 116 rfl rfl dX4_copy_114 ?_
                      refine j_iload 118 rfl rfl dX4_copy_116 ?_
                      refine j_copy 121 rfl lc_X4_241 dX4_copy_118 (by decide) (by decide) rfl rfl rfl rfl (by decide) (by decide) (by omega) (by omega) (by omega) (by decide) (Nat.le_of_ble_eq_true rfl) ?_
                      refine j_iconst 122 rfl dX4_copy_121 ?_
                      refine j_ireti dX4_copy_122 rfl ?_
                      first | exact Or.inl ⟨by omega, rfl, rfl⟩ | exact Or.inr (Or.inr (Or.inr (Or.inr ⟨by omega, by omega, by omega, rfl, rfl⟩))) | exact Or.inr (Or.inl ⟨by omega, by omega, by omega, rfl⟩) | exact Or.inr (Or.inr (Or.inl ⟨by omega, by omega, by omega, by omega, rfl⟩)) | exact Or.inr (Or.inr (Or.inr (Or.inl ⟨by omega, by omega, by omega, by omega, rfl⟩))) | (exfalso; omega)
                    · refine j_aload_n 98 rfl rfl dX4_copy_97 ?_
                      refine j_iconst 99 rfl dX4_copy_98 ?_
                      refine jV1i 102 rfl dX4_copy_99 lk_X4_126 rfl rfl (by decide) ( rfl) ( rfl) (s_finding (by omega)) (fun r99 H1 ⟨e, hr99⟩ => ?_)
                      subst e
                      refine j_ireti dX4_copy_102 rfl ?_
                      first | exact Or.inl ⟨by omega, rfl, rfl⟩ | exact Or.inr (Or.inr (Or.inr (Or.inr ⟨by omega, by omega, by omega, rfl, rfl⟩))) | exact Or.inr (Or.inl ⟨by omega, by omega, by omega, rfl⟩) | exact Or.inr (Or.inr (Or.inl ⟨by omega, by omega, by omega, by omega, rfl⟩)) | exact Or.inr (Or.inr (Or.inr (Or.inl ⟨by omega, by omega, by omega, by omega, rfl⟩))) | (exfalso; omega)
                · refine j_aload_n 69 rfl rfl dX4_copy_68 ?_
                  refine j_iconst 70 rfl dX4_copy_69 ?_
                  refine jV1i 73 rfl dX4_copy_70 lk_X4_126 rfl rfl (by decide) ( rfl) ( rfl) (s_finding (by omega)) (fun r70 H1 ⟨e, hr70⟩ => ?_)
                  subst e
                  refine j_ireti dX4_copy_73 rfl ?_
                  first | exact Or.inl ⟨by omega, rfl, rfl⟩ | exact Or.inr (Or.inr (Or.inr (Or.inr ⟨by omega, by omega, by omega, rfl, rfl⟩))) | exact Or.inr (Or.inl ⟨by omega, by omega, by omega, rfl⟩) | exact Or.inr (Or.inr (Or.inl ⟨by omega, by omega, by omega, by omega, rfl⟩)) | exact Or.inr (Or.inr (Or.inr (Or.inl ⟨by omega, by omega, by omega, by omega, rfl⟩))) | (exfalso; omega)
              · refine j_aload_n 50 rfl rfl dX4_copy_49 ?_
                refine j_iconst 51 rfl dX4_copy_50 ?_
                refine jV1i 54 rfl dX4_copy_51 lk_X4_126 rfl rfl (by decide) ( rfl) ( rfl) (s_finding (by omega)) (fun r51 H1 ⟨e, hr51⟩ => ?_)
                subst e
                refine j_ireti dX4_copy_54 rfl ?_
                first | exact Or.inl ⟨by omega, rfl, rfl⟩ | exact Or.inr (Or.inr (Or.inr (Or.inr ⟨by omega, by omega, by omega, rfl, rfl⟩))) | exact Or.inr (Or.inl ⟨by omega, by omega, by omega, rfl⟩) | exact Or.inr (Or.inr (Or.inl ⟨by omega, by omega, by omega, by omega, rfl⟩)) | exact Or.inr (Or.inr (Or.inr (Or.inl ⟨by omega, by omega, by omega, by omega, rfl⟩))) | (exfalso; omega)
          · refine j_bipush 16 rfl rfl dX4_copy_14 ?_
            refine j_ireti dX4_copy_16 rfl ?_
            first | exact Or.inl ⟨by omega, rfl, rfl⟩ | exact Or.inr (Or.inr (Or.inr (Or.inr ⟨by omega, by omega, by omega, rfl, rfl⟩))) | exact Or.inr (Or.inl ⟨by omega, by omega, by omega, rfl⟩) | exact Or.inr (Or.inr (Or.inl ⟨by omega, by omega, by omega, by omega, rfl⟩)) | exact Or.inr (Or.inr (Or.inr (Or.inl ⟨by omega, by omega, by omega, by omega, rfl⟩))) | (exfalso; omega)
      · refine jOk.rng (fun hR0 => ?_)
        refine jOk.ofe rfl (Nat.le_of_ble_eq_true rfl) (en_aiiiii_8 (E := E)) ?_
        refine j_iload_n 1 rfl rfl dX4_copy_0 ?_
        refine jS1i 4 rfl dX4_copy_1 lk_X4_120 rfl rfl (s_isSheet (by omega)) (fun r1 H1 ⟨eh_, hr1⟩ => ?_)
        obtain rfl := eh_.symm
        refine j_if_eq 14 7 (by decide) rfl dX4_copy_4 (by intro hR; first | omega | exact hR _ _ | exact jb_r _ | exact hR0 _ _ | assumption) (fun h4 => ?_) (fun h4 => ?_)
        · refine j_bipush 16 rfl rfl dX4_copy_14 ?_
          refine j_ireti dX4_copy_16 rfl ?_
          first | exact Or.inl ⟨by omega, rfl, rfl⟩ | exact Or.inr (Or.inr (Or.inr (Or.inr ⟨by omega, by omega, by omega, rfl, rfl⟩))) | exact Or.inr (Or.inl ⟨by omega, by omega, by omega, rfl⟩) | exact Or.inr (Or.inr (Or.inl ⟨by omega, by omega, by omega, by omega, rfl⟩)) | exact Or.inr (Or.inr (Or.inr (Or.inl ⟨by omega, by omega, by omega, by omega, rfl⟩))) | (exfalso; omega)
        · refine j_iload_n 8 rfl rfl dX4_copy_7 ?_
          refine jS1i 11 rfl dX4_copy_8 lk_X4_120 rfl rfl (s_isSheet (by omega)) (fun r8 H1 ⟨eh_, hr8⟩ => ?_)
          obtain rfl := eh_.symm
          refine j_if_ne 17 14 (by decide) rfl dX4_copy_11 (by intro hR; first | omega | exact hR _ _ | exact jb_r _ | exact hR0 _ _ | assumption) (fun h11 => ?_) (fun h11 => ?_)
          · refine j_aload_n 18 rfl rfl dX4_copy_17 ?_
            refine j_getr 21 rfl 7 fl_X4_42 dX4_copy_18 (by decide) ( rfl) ( rfl) ?_
            refine j_iload_n 22 rfl rfl dX4_copy_21 ?_
            refine j_aald 23 rfl dX4_copy_22 (by decide) rfl (by decide) rfl (by omega) (rfl)  ?_
            refine j_astore 25 rfl st_8_6 (by decide) rfl dX4_copy_23 ?_
            refine j_aload_n 26 rfl rfl dX4_copy_25 ?_
            refine j_getr 29 rfl 7 fl_X4_42 dX4_copy_26 (by decide) ( rfl) ( rfl) ?_
            refine j_iload_n 30 rfl rfl dX4_copy_29 ?_
            refine j_aald 31 rfl dX4_copy_30 (by decide) rfl (by decide) rfl (by omega) (rfl)  ?_
            refine j_astore 33 rfl st_8_7 (by decide) rfl dX4_copy_31 ?_
            refine j_aload 35 rfl rfl dX4_copy_33 ?_
            refine g_geti 38 rfl 0 0 rfl fl_X4_123 dX4_copy_35 (by decide) ( rfl) ( rfl) ?_
            refine j_if_ne 49 41 (by decide) rfl dX4_copy_38 (by intro hR; first | omega | exact hR _ _ | exact jb_r _ | exact hR0 _ _ | assumption) (fun h38 => ?_) (fun h38 => ?_)
            · refine j_aload_n 50 rfl rfl dX4_copy_49 ?_
              refine j_iconst 51 rfl dX4_copy_50 ?_
              refine jV1i 54 rfl dX4_copy_51 lk_X4_126 rfl rfl (by decide) ( rfl) ( rfl) (s_finding (by omega)) (fun r51 H1 ⟨e, hr51⟩ => ?_)
              subst e
              refine j_ireti dX4_copy_54 rfl ?_
              first | exact Or.inl ⟨by omega, rfl, rfl⟩ | exact Or.inr (Or.inr (Or.inr (Or.inr ⟨by omega, by omega, by omega, rfl, rfl⟩))) | exact Or.inr (Or.inl ⟨by omega, by omega, by omega, rfl⟩) | exact Or.inr (Or.inr (Or.inl ⟨by omega, by omega, by omega, by omega, rfl⟩)) | exact Or.inr (Or.inr (Or.inr (Or.inl ⟨by omega, by omega, by omega, by omega, rfl⟩))) | (exfalso; omega)
            · refine j_aload 43 rfl rfl dX4_copy_41 ?_
              refine g_geti 46 rfl 0 0 rfl fl_X4_123 dX4_copy_43 (by decide) ( rfl) ( rfl) ?_
              refine j_if_eq 55 49 (by decide) rfl dX4_copy_46 (by intro hR; first | omega | exact hR _ _ | exact jb_r _ | exact hR0 _ _ | assumption) (fun h46 => ?_) (fun h46 => ?_)
              · refine j_aload 57 rfl rfl dX4_copy_55 ?_
                refine g_geti 60 rfl 1 1 rfl fl_X4_235 dX4_copy_57 (by decide) ( rfl) ( rfl) ?_
                refine j_aload 62 rfl rfl dX4_copy_60 ?_
                refine g_geti 65 rfl 1 1 rfl fl_X4_235 dX4_copy_62 (by decide) ( rfl) ( rfl) ?_
                refine j_icmp_eq 74 68 (by decide) rfl dX4_copy_65 (by intro hR; first | omega | exact hR _ _ | exact jb_r _ | exact hR0 _ _ | assumption) (by intro hR; first | omega | exact hR _ _ | exact jb_r _ | exact hR0 _ _ | assumption) (fun h65 => ?_) (fun h65 => ?_)
                · refine j_aload 76 rfl rfl dX4_copy_74 ?_
                  refine j_iload_n 77 rfl rfl dX4_copy_76 ?_
                  refine j_iload 79 rfl rfl dX4_copy_77 ?_
                  refine jV2i 82 rfl dX4_copy_79 lk_X4_238 rfl rfl (by decide) ( rfl) ( rfl) (s_has sh2 hi hn hz) (fun r79 H1 ⟨eh_, hr79⟩ => ?_)
                  obtain rfl := eh_.symm
                  refine j_if_eq 97 85 (by decide) rfl dX4_copy_82 (by intro hR; first | omega | exact hR _ _ | exact jb_r _ | exact hR0 _ _ | assumption) (fun h82 => ?_) (fun h82 => ?_)
                  · refine j_aload_n 98 rfl rfl dX4_copy_97 ?_
                    refine j_iconst 99 rfl dX4_copy_98 ?_
                    refine jV1i 102 rfl dX4_copy_99 lk_X4_126 rfl rfl (by decide) ( rfl) ( rfl) (s_finding (by omega)) (fun r99 H1 ⟨e, hr99⟩ => ?_)
                    subst e
                    refine j_ireti dX4_copy_102 rfl ?_
                    first | exact Or.inl ⟨by omega, rfl, rfl⟩ | exact Or.inr (Or.inr (Or.inr (Or.inr ⟨by omega, by omega, by omega, rfl, rfl⟩))) | exact Or.inr (Or.inl ⟨by omega, by omega, by omega, rfl⟩) | exact Or.inr (Or.inr (Or.inl ⟨by omega, by omega, by omega, by omega, rfl⟩)) | exact Or.inr (Or.inr (Or.inr (Or.inl ⟨by omega, by omega, by omega, by omega, rfl⟩))) | (exfalso; omega)
                  · refine j_aload 87 rfl rfl dX4_copy_85 ?_
                    refine j_iload 89 rfl rfl dX4_copy_87 ?_
                    refine j_iload 91 rfl rfl dX4_copy_89 ?_
                    refine jV2i 94 rfl dX4_copy_91 lk_X4_238 rfl rfl (by decide) ( rfl) ( rfl) (s_has sh1 hj hn hz2) (fun r91 H1 ⟨eh_, hr91⟩ => ?_)
                    obtain rfl := eh_.symm
                    refine j_if_ne 103 97 (by decide) rfl dX4_copy_94 (by intro hR; first | omega | exact hR _ _ | exact jb_r _ | exact hR0 _ _ | assumption) (fun h94 => ?_) (fun h94 => ?_)
                    · refine j_aload 105 rfl rfl dX4_copy_103 ?_
                      refine j_getr 108 rfl 3 fl_X4_130 dX4_copy_105 (by decide) ( rfl) ( rfl) ?_
                      refine j_iload_n 109 rfl rfl dX4_copy_108 ?_
                      refine j_aload 111 rfl rfl dX4_copy_109 ?_
                      refine j_getr 114 rfl 3 fl_X4_130 dX4_copy_111 (by decide) ( rfl) ( rfl) ?_
                      refine j_iload 116 rfl rfl dX4_copy_114 ?_
                      refine j_iload 118 rfl rfl dX4_copy_116 ?_
                      refine j_copy 121 rfl lc_X4_241 dX4_copy_118 (by decide) (by decide) rfl rfl rfl rfl (by decide) (by decide) (by omega) (by omega) (by omega) (by decide) (Nat.le_of_ble_eq_true rfl) ?_
                      refine j_iconst 122 rfl dX4_copy_121 ?_
                      refine j_ireti dX4_copy_122 rfl ?_
                      first | exact Or.inl ⟨by omega, rfl, rfl⟩ | exact Or.inr (Or.inr (Or.inr (Or.inr ⟨by omega, by omega, by omega, rfl, rfl⟩))) | exact Or.inr (Or.inl ⟨by omega, by omega, by omega, rfl⟩) | exact Or.inr (Or.inr (Or.inl ⟨by omega, by omega, by omega, by omega, rfl⟩)) | exact Or.inr (Or.inr (Or.inr (Or.inl ⟨by omega, by omega, by omega, by omega, rfl⟩))) | (exfalso; omega)
                    · refine j_aload_n 98 rfl rfl dX4_copy_97 ?_
                      refine j_iconst 99 rfl dX4_copy_98 ?_
                      refine jV1i 102 rfl dX4_copy_99 lk_X4_126 rfl rfl (by decide) ( rfl) ( rfl) (s_finding (by omega)) (fun r99 H1 ⟨e, hr99⟩ => ?_)
                      subst e
                      refine j_ireti dX4_copy_102 rfl ?_
                      first | exact Or.inl ⟨by omega, rfl, rfl⟩ | exact Or.inr (Or.inr (Or.inr (Or.inr ⟨by omega, by omega, by omega, rfl, rfl⟩))) | exact Or.inr (Or.inl ⟨by omega, by omega, by omega, rfl⟩) | exact Or.inr (Or.inr (Or.inl ⟨by omega, by omega, by omega, by omega, rfl⟩)) | exact Or.inr (Or.inr (Or.inr (Or.inl ⟨by omega, by omega, by omega, by omega, rfl⟩))) | (exfalso; omega)
                · refine j_aload_n 69 rfl rfl dX4_copy_68 ?_
                  refine j_iconst 70 rfl dX4_copy_69 ?_
                  refine jV1i 73 rfl dX4_copy_70 lk_X4_126 rfl rfl (by decide) ( rfl) ( rfl) (s_finding (by omega)) (fun r70 H1 ⟨e, hr70⟩ => ?_)
                  subst e
                  refine j_ireti dX4_copy_73 rfl ?_
                  first | exact Or.inl ⟨by omega, rfl, rfl⟩ | exact Or.inr (Or.inr (Or.inr (Or.inr ⟨by omega, by omega, by omega, rfl, rfl⟩))) | exact Or.inr (Or.inl ⟨by omega, by omega, by omega, rfl⟩) | exact Or.inr (Or.inr (Or.inl ⟨by omega, by omega, by omega, by omega, rfl⟩)) | exact Or.inr (Or.inr (Or.inr (Or.inl ⟨by omega, by omega, by omega, by omega, rfl⟩))) | (exfalso; omega)
              · refine j_aload_n 50 rfl rfl dX4_copy_49 ?_
                refine j_iconst 51 rfl dX4_copy_50 ?_
                refine jV1i 54 rfl dX4_copy_51 lk_X4_126 rfl rfl (by decide) ( rfl) ( rfl) (s_finding (by omega)) (fun r51 H1 ⟨e, hr51⟩ => ?_)
                subst e
                refine j_ireti dX4_copy_54 rfl ?_
                first | exact Or.inl ⟨by omega, rfl, rfl⟩ | exact Or.inr (Or.inr (Or.inr (Or.inr ⟨by omega, by omega, by omega, rfl, rfl⟩))) | exact Or.inr (Or.inl ⟨by omega, by omega, by omega, rfl⟩) | exact Or.inr (Or.inr (Or.inl ⟨by omega, by omega, by omega, by omega, rfl⟩)) | exact Or.inr (Or.inr (Or.inr (Or.inl ⟨by omega, by omega, by omega, by omega, rfl⟩))) | (exfalso; omega)
          · refine j_bipush 16 rfl rfl dX4_copy_14 ?_
            refine j_ireti dX4_copy_16 rfl ?_
            first | exact Or.inl ⟨by omega, rfl, rfl⟩ | exact Or.inr (Or.inr (Or.inr (Or.inr ⟨by omega, by omega, by omega, rfl, rfl⟩))) | exact Or.inr (Or.inl ⟨by omega, by omega, by omega, rfl⟩) | exact Or.inr (Or.inr (Or.inl ⟨by omega, by omega, by omega, by omega, rfl⟩)) | exact Or.inr (Or.inr (Or.inr (Or.inl ⟨by omega, by omega, by omega, by omega, rfl⟩))) | (exfalso; omega)
      · refine jOk.rng (fun hR0 => ?_)
        refine jOk.ofe rfl (Nat.le_of_ble_eq_true rfl) (en_aiiiii_8 (E := E)) ?_
        refine j_iload_n 1 rfl rfl dX4_copy_0 ?_
        refine jS1i 4 rfl dX4_copy_1 lk_X4_120 rfl rfl (s_isSheet (by omega)) (fun r1 H1 ⟨eh_, hr1⟩ => ?_)
        obtain rfl := eh_.symm
        refine j_if_eq 14 7 (by decide) rfl dX4_copy_4 (by intro hR; first | omega | exact hR _ _ | exact jb_r _ | exact hR0 _ _ | assumption) (fun h4 => ?_) (fun h4 => ?_)
        · refine j_bipush 16 rfl rfl dX4_copy_14 ?_
          refine j_ireti dX4_copy_16 rfl ?_
          first | exact Or.inl ⟨by omega, rfl, rfl⟩ | exact Or.inr (Or.inr (Or.inr (Or.inr ⟨by omega, by omega, by omega, rfl, rfl⟩))) | exact Or.inr (Or.inl ⟨by omega, by omega, by omega, rfl⟩) | exact Or.inr (Or.inr (Or.inl ⟨by omega, by omega, by omega, by omega, rfl⟩)) | exact Or.inr (Or.inr (Or.inr (Or.inl ⟨by omega, by omega, by omega, by omega, rfl⟩))) | (exfalso; omega)
        · refine j_iload_n 8 rfl rfl dX4_copy_7 ?_
          refine jS1i 11 rfl dX4_copy_8 lk_X4_120 rfl rfl (s_isSheet (by omega)) (fun r8 H1 ⟨eh_, hr8⟩ => ?_)
          obtain rfl := eh_.symm
          refine j_if_ne 17 14 (by decide) rfl dX4_copy_11 (by intro hR; first | omega | exact hR _ _ | exact jb_r _ | exact hR0 _ _ | assumption) (fun h11 => ?_) (fun h11 => ?_)
          · refine j_aload_n 18 rfl rfl dX4_copy_17 ?_
            refine j_getr 21 rfl 7 fl_X4_42 dX4_copy_18 (by decide) ( rfl) ( rfl) ?_
            refine j_iload_n 22 rfl rfl dX4_copy_21 ?_
            refine j_aald 23 rfl dX4_copy_22 (by decide) rfl (by decide) rfl (by omega) (rfl)  ?_
            refine j_astore 25 rfl st_8_6 (by decide) rfl dX4_copy_23 ?_
            refine j_aload_n 26 rfl rfl dX4_copy_25 ?_
            refine j_getr 29 rfl 7 fl_X4_42 dX4_copy_26 (by decide) ( rfl) ( rfl) ?_
            refine j_iload_n 30 rfl rfl dX4_copy_29 ?_
            refine j_aald 31 rfl dX4_copy_30 (by decide) rfl (by decide) rfl (by omega) (rfl)  ?_
            refine j_astore 33 rfl st_8_7 (by decide) rfl dX4_copy_31 ?_
            refine j_aload 35 rfl rfl dX4_copy_33 ?_
            refine g_geti 38 rfl 0 0 rfl fl_X4_123 dX4_copy_35 (by decide) ( rfl) ( rfl) ?_
            refine j_if_ne 49 41 (by decide) rfl dX4_copy_38 (by intro hR; first | omega | exact hR _ _ | exact jb_r _ | exact hR0 _ _ | assumption) (fun h38 => ?_) (fun h38 => ?_)
            · refine j_aload_n 50 rfl rfl dX4_copy_49 ?_
              refine j_iconst 51 rfl dX4_copy_50 ?_
              refine jV1i 54 rfl dX4_copy_51 lk_X4_126 rfl rfl (by decide) ( rfl) ( rfl) (s_finding (by omega)) (fun r51 H1 ⟨e, hr51⟩ => ?_)
              subst e
              refine j_ireti dX4_copy_54 rfl ?_
              first | exact Or.inl ⟨by omega, rfl, rfl⟩ | exact Or.inr (Or.inr (Or.inr (Or.inr ⟨by omega, by omega, by omega, rfl, rfl⟩))) | exact Or.inr (Or.inl ⟨by omega, by omega, by omega, rfl⟩) | exact Or.inr (Or.inr (Or.inl ⟨by omega, by omega, by omega, by omega, rfl⟩)) | exact Or.inr (Or.inr (Or.inr (Or.inl ⟨by omega, by omega, by omega, by omega, rfl⟩))) | (exfalso; omega)
            · refine j_aload 43 rfl rfl dX4_copy_41 ?_
              refine g_geti 46 rfl 0 0 rfl fl_X4_123 dX4_copy_43 (by decide) ( rfl) ( rfl) ?_
              refine j_if_eq 55 49 (by decide) rfl dX4_copy_46 (by intro hR; first | omega | exact hR _ _ | exact jb_r _ | exact hR0 _ _ | assumption) (fun h46 => ?_) (fun h46 => ?_)
              · refine j_aload 57 rfl rfl dX4_copy_55 ?_
                refine g_geti 60 rfl 1 1 rfl fl_X4_235 dX4_copy_57 (by decide) ( rfl) ( rfl) ?_
                refine j_aload 62 rfl rfl dX4_copy_60 ?_
                refine g_geti 65 rfl 1 1 rfl fl_X4_235 dX4_copy_62 (by decide) ( rfl) ( rfl) ?_
                refine j_icmp_eq 74 68 (by decide) rfl dX4_copy_65 (by intro hR; first | omega | exact hR _ _ | exact jb_r _ | exact hR0 _ _ | assumption) (by intro hR; first | omega | exact hR _ _ | exact jb_r _ | exact hR0 _ _ | assumption) (fun h65 => ?_) (fun h65 => ?_)
                · refine j_aload 76 rfl rfl dX4_copy_74 ?_
                  refine j_iload_n 77 rfl rfl dX4_copy_76 ?_
                  refine j_iload 79 rfl rfl dX4_copy_77 ?_
                  refine jV2i 82 rfl dX4_copy_79 lk_X4_238 rfl rfl (by decide) ( rfl) ( rfl) (s_has sh2 hi hn hz) (fun r79 H1 ⟨eh_, hr79⟩ => ?_)
                  obtain rfl := eh_.symm
                  refine j_if_eq 97 85 (by decide) rfl dX4_copy_82 (by intro hR; first | omega | exact hR _ _ | exact jb_r _ | exact hR0 _ _ | assumption) (fun h82 => ?_) (fun h82 => ?_)
                  · refine j_aload_n 98 rfl rfl dX4_copy_97 ?_
                    refine j_iconst 99 rfl dX4_copy_98 ?_
                    refine jV1i 102 rfl dX4_copy_99 lk_X4_126 rfl rfl (by decide) ( rfl) ( rfl) (s_finding (by omega)) (fun r99 H1 ⟨e, hr99⟩ => ?_)
                    subst e
                    refine j_ireti dX4_copy_102 rfl ?_
                    first | exact Or.inl ⟨by omega, rfl, rfl⟩ | exact Or.inr (Or.inr (Or.inr (Or.inr ⟨by omega, by omega, by omega, rfl, rfl⟩))) | exact Or.inr (Or.inl ⟨by omega, by omega, by omega, rfl⟩) | exact Or.inr (Or.inr (Or.inl ⟨by omega, by omega, by omega, by omega, rfl⟩)) | exact Or.inr (Or.inr (Or.inr (Or.inl ⟨by omega, by omega, by omega, by omega, rfl⟩))) | (exfalso; omega)
                  · refine j_aload 87 rfl rfl dX4_copy_85 ?_
                    refine j_iload 89 rfl rfl dX4_copy_87 ?_
                    refine j_iload 91 rfl rfl dX4_copy_89 ?_
                    refine jV2i 94 rfl dX4_copy_91 lk_X4_238 rfl rfl (by decide) ( rfl) ( rfl) (s_has sh2 hj hn hz2) (fun r91 H1 ⟨eh_, hr91⟩ => ?_)
                    obtain rfl := eh_.symm
                    refine j_if_ne 103 97 (by decide) rfl dX4_copy_94 (by intro hR; first | omega | exact hR _ _ | exact jb_r _ | exact hR0 _ _ | assumption) (fun h94 => ?_) (fun h94 => ?_)
                    · refine j_aload 105 rfl rfl dX4_copy_103 ?_
                      refine j_getr 108 rfl 3 fl_X4_130 dX4_copy_105 (by decide) ( rfl) ( rfl) ?_
                      refine j_iload_n 109 rfl rfl dX4_copy_108 ?_
                      refine j_aload 111 rfl rfl dX4_copy_109 ?_
                      refine j_getr 114 rfl 3 fl_X4_130 dX4_copy_111 (by decide) ( rfl) ( rfl) ?_
                      refine j_iload 116 rfl rfl dX4_copy_114 ?_
                      refine j_iload 118 rfl rfl dX4_copy_116 ?_
                      refine j_copy 121 rfl lc_X4_241 dX4_copy_118 (by decide) (by decide) rfl rfl rfl rfl (by decide) (by decide) (by omega) (by omega) (by omega) (by decide) (Nat.le_of_ble_eq_true rfl) ?_
                      refine j_iconst 122 rfl dX4_copy_121 ?_
                      refine j_ireti dX4_copy_122 rfl ?_
                      first | exact Or.inl ⟨by omega, rfl, rfl⟩ | exact Or.inr (Or.inr (Or.inr (Or.inr ⟨by omega, by omega, by omega, rfl, rfl⟩))) | exact Or.inr (Or.inl ⟨by omega, by omega, by omega, rfl⟩) | exact Or.inr (Or.inr (Or.inl ⟨by omega, by omega, by omega, by omega, rfl⟩)) | exact Or.inr (Or.inr (Or.inr (Or.inl ⟨by omega, by omega, by omega, by omega, rfl⟩))) | (exfalso; omega)
                    · refine j_aload_n 98 rfl rfl dX4_copy_97 ?_
                      refine j_iconst 99 rfl dX4_copy_98 ?_
                      refine jV1i 102 rfl dX4_copy_99 lk_X4_126 rfl rfl (by decide) ( rfl) ( rfl) (s_finding (by omega)) (fun r99 H1 ⟨e, hr99⟩ => ?_)
                      subst e
                      refine j_ireti dX4_copy_102 rfl ?_
                      first | exact Or.inl ⟨by omega, rfl, rfl⟩ | exact Or.inr (Or.inr (Or.inr (Or.inr ⟨by omega, by omega, by omega, rfl, rfl⟩))) | exact Or.inr (Or.inl ⟨by omega, by omega, by omega, rfl⟩) | exact Or.inr (Or.inr (Or.inl ⟨by omega, by omega, by omega, by omega, rfl⟩)) | exact Or.inr (Or.inr (Or.inr (Or.inl ⟨by omega, by omega, by omega, by omega, rfl⟩))) | (exfalso; omega)
                · refine j_aload_n 69 rfl rfl dX4_copy_68 ?_
                  refine j_iconst 70 rfl dX4_copy_69 ?_
                  refine jV1i 73 rfl dX4_copy_70 lk_X4_126 rfl rfl (by decide) ( rfl) ( rfl) (s_finding (by omega)) (fun r70 H1 ⟨e, hr70⟩ => ?_)
                  subst e
                  refine j_ireti dX4_copy_73 rfl ?_
                  first | exact Or.inl ⟨by omega, rfl, rfl⟩ | exact Or.inr (Or.inr (Or.inr (Or.inr ⟨by omega, by omega, by omega, rfl, rfl⟩))) | exact Or.inr (Or.inl ⟨by omega, by omega, by omega, rfl⟩) | exact Or.inr (Or.inr (Or.inl ⟨by omega, by omega, by omega, by omega, rfl⟩)) | exact Or.inr (Or.inr (Or.inr (Or.inl ⟨by omega, by omega, by omega, by omega, rfl⟩))) | (exfalso; omega)
              · refine j_aload_n 50 rfl rfl dX4_copy_49 ?_
                refine j_iconst 51 rfl dX4_copy_50 ?_
                refine jV1i 54 rfl dX4_copy_51 lk_X4_126 rfl rfl (by decide) ( rfl) ( rfl) (s_finding (by omega)) (fun r51 H1 ⟨e, hr51⟩ => ?_)
                subst e
                refine j_ireti dX4_copy_54 rfl ?_
                first | exact Or.inl ⟨by omega, rfl, rfl⟩ | exact Or.inr (Or.inr (Or.inr (Or.inr ⟨by omega, by omega, by omega, rfl, rfl⟩))) | exact Or.inr (Or.inl ⟨by omega, by omega, by omega, rfl⟩) | exact Or.inr (Or.inr (Or.inl ⟨by omega, by omega, by omega, by omega, rfl⟩)) | exact Or.inr (Or.inr (Or.inr (Or.inl ⟨by omega, by omega, by omega, by omega, rfl⟩))) | (exfalso; omega)
          · refine j_bipush 16 rfl rfl dX4_copy_14 ?_
            refine j_ireti dX4_copy_16 rfl ?_
            first | exact Or.inl ⟨by omega, rfl, rfl⟩ | exact Or.inr (Or.inr (Or.inr (Or.inr ⟨by omega, by omega, by omega, rfl, rfl⟩))) | exact Or.inr (Or.inl ⟨by omega, by omega, by omega, rfl⟩) | exact Or.inr (Or.inr (Or.inl ⟨by omega, by omega, by omega, by omega, rfl⟩)) | exact Or.inr (Or.inr (Or.inr (Or.inl ⟨by omega, by omega, by omega, by omega, rfl⟩))) | (exfalso; omega)
      · refine jOk.rng (fun hR0 => ?_)
        refine jOk.ofe rfl (Nat.le_of_ble_eq_true rfl) (en_aiiiii_8 (E := E)) ?_
        refine j_iload_n 1 rfl rfl dX4_copy_0 ?_
        refine jS1i 4 rfl dX4_copy_1 lk_X4_120 rfl rfl (s_isSheet (by omega)) (fun r1 H1 ⟨eh_, hr1⟩ => ?_)
        obtain rfl := eh_.symm
        refine j_if_eq 14 7 (by decide) rfl dX4_copy_4 (by intro hR; first | omega | exact hR _ _ | exact jb_r _ | exact hR0 _ _ | assumption) (fun h4 => ?_) (fun h4 => ?_)
        · refine j_bipush 16 rfl rfl dX4_copy_14 ?_
          refine j_ireti dX4_copy_16 rfl ?_
          first | exact Or.inl ⟨by omega, rfl, rfl⟩ | exact Or.inr (Or.inr (Or.inr (Or.inr ⟨by omega, by omega, by omega, rfl, rfl⟩))) | exact Or.inr (Or.inl ⟨by omega, by omega, by omega, rfl⟩) | exact Or.inr (Or.inr (Or.inl ⟨by omega, by omega, by omega, by omega, rfl⟩)) | exact Or.inr (Or.inr (Or.inr (Or.inl ⟨by omega, by omega, by omega, by omega, rfl⟩))) | (exfalso; omega)
        · refine j_iload_n 8 rfl rfl dX4_copy_7 ?_
          refine jS1i 11 rfl dX4_copy_8 lk_X4_120 rfl rfl (s_isSheet (by omega)) (fun r8 H1 ⟨eh_, hr8⟩ => ?_)
          obtain rfl := eh_.symm
          refine j_if_ne 17 14 (by decide) rfl dX4_copy_11 (by intro hR; first | omega | exact hR _ _ | exact jb_r _ | exact hR0 _ _ | assumption) (fun h11 => ?_) (fun h11 => ?_)
          · refine j_aload_n 18 rfl rfl dX4_copy_17 ?_
            refine j_getr 21 rfl 7 fl_X4_42 dX4_copy_18 (by decide) ( rfl) ( rfl) ?_
            refine j_iload_n 22 rfl rfl dX4_copy_21 ?_
            refine j_aald 23 rfl dX4_copy_22 (by decide) rfl (by decide) rfl (by omega) (rfl)  ?_
            refine j_astore 25 rfl st_8_6 (by decide) rfl dX4_copy_23 ?_
            refine j_aload_n 26 rfl rfl dX4_copy_25 ?_
            refine j_getr 29 rfl 7 fl_X4_42 dX4_copy_26 (by decide) ( rfl) ( rfl) ?_
            refine j_iload_n 30 rfl rfl dX4_copy_29 ?_
            refine j_aald 31 rfl dX4_copy_30 (by decide) rfl (by decide) rfl (by omega) (rfl)  ?_
            refine j_astore 33 rfl st_8_7 (by decide) rfl dX4_copy_31 ?_
            refine j_aload 35 rfl rfl dX4_copy_33 ?_
            refine g_geti 38 rfl 0 0 rfl fl_X4_123 dX4_copy_35 (by decide) ( rfl) ( rfl) ?_
            refine j_if_ne 49 41 (by decide) rfl dX4_copy_38 (by intro hR; first | omega | exact hR _ _ | exact jb_r _ | exact hR0 _ _ | assumption) (fun h38 => ?_) (fun h38 => ?_)
            · refine j_aload_n 50 rfl rfl dX4_copy_49 ?_
              refine j_iconst 51 rfl dX4_copy_50 ?_
              refine jV1i 54 rfl dX4_copy_51 lk_X4_126 rfl rfl (by decide) ( rfl) ( rfl) (s_finding (by omega)) (fun r51 H1 ⟨e, hr51⟩ => ?_)
              subst e
              refine j_ireti dX4_copy_54 rfl ?_
              first | exact Or.inl ⟨by omega, rfl, rfl⟩ | exact Or.inr (Or.inr (Or.inr (Or.inr ⟨by omega, by omega, by omega, rfl, rfl⟩))) | exact Or.inr (Or.inl ⟨by omega, by omega, by omega, rfl⟩) | exact Or.inr (Or.inr (Or.inl ⟨by omega, by omega, by omega, by omega, rfl⟩)) | exact Or.inr (Or.inr (Or.inr (Or.inl ⟨by omega, by omega, by omega, by omega, rfl⟩))) | (exfalso; omega)
            · refine j_aload 43 rfl rfl dX4_copy_41 ?_
              refine g_geti 46 rfl 0 0 rfl fl_X4_123 dX4_copy_43 (by decide) ( rfl) ( rfl) ?_
              refine j_if_eq 55 49 (by decide) rfl dX4_copy_46 (by intro hR; first | omega | exact hR _ _ | exact jb_r _ | exact hR0 _ _ | assumption) (fun h46 => ?_) (fun h46 => ?_)
              · refine j_aload 57 rfl rfl dX4_copy_55 ?_
                refine g_geti 60 rfl 1 1 rfl fl_X4_235 dX4_copy_57 (by decide) ( rfl) ( rfl) ?_
                refine j_aload 62 rfl rfl dX4_copy_60 ?_
                refine g_geti 65 rfl 1 1 rfl fl_X4_235 dX4_copy_62 (by decide) ( rfl) ( rfl) ?_
                refine j_icmp_eq 74 68 (by decide) rfl dX4_copy_65 (by intro hR; first | omega | exact hR _ _ | exact jb_r _ | exact hR0 _ _ | assumption) (by intro hR; first | omega | exact hR _ _ | exact jb_r _ | exact hR0 _ _ | assumption) (fun h65 => ?_) (fun h65 => ?_)
                · refine j_aload 76 rfl rfl dX4_copy_74 ?_
                  refine j_iload_n 77 rfl rfl dX4_copy_76 ?_
                  refine j_iload 79 rfl rfl dX4_copy_77 ?_
                  refine jV2i 82 rfl dX4_copy_79 lk_X4_238 rfl rfl (by decide) ( rfl) ( rfl) (s_has sh2 hi hn hz) (fun r79 H1 ⟨eh_, hr79⟩ => ?_)
                  obtain rfl := eh_.symm
                  refine j_if_eq 97 85 (by decide) rfl dX4_copy_82 (by intro hR; first | omega | exact hR _ _ | exact jb_r _ | exact hR0 _ _ | assumption) (fun h82 => ?_) (fun h82 => ?_)
                  · refine j_aload_n 98 rfl rfl dX4_copy_97 ?_
                    refine j_iconst 99 rfl dX4_copy_98 ?_
                    refine jV1i 102 rfl dX4_copy_99 lk_X4_126 rfl rfl (by decide) ( rfl) ( rfl) (s_finding (by omega)) (fun r99 H1 ⟨e, hr99⟩ => ?_)
                    subst e
                    refine j_ireti dX4_copy_102 rfl ?_
                    first | exact Or.inl ⟨by omega, rfl, rfl⟩ | exact Or.inr (Or.inr (Or.inr (Or.inr ⟨by omega, by omega, by omega, rfl, rfl⟩))) | exact Or.inr (Or.inl ⟨by omega, by omega, by omega, rfl⟩) | exact Or.inr (Or.inr (Or.inl ⟨by omega, by omega, by omega, by omega, rfl⟩)) | exact Or.inr (Or.inr (Or.inr (Or.inl ⟨by omega, by omega, by omega, by omega, rfl⟩))) | (exfalso; omega)
                  · refine j_aload 87 rfl rfl dX4_copy_85 ?_
                    refine j_iload 89 rfl rfl dX4_copy_87 ?_
                    refine j_iload 91 rfl rfl dX4_copy_89 ?_
                    refine jV2i 94 rfl dX4_copy_91 lk_X4_238 rfl rfl (by decide) ( rfl) ( rfl) (s_has sh3 hj hn hz2) (fun r91 H1 ⟨eh_, hr91⟩ => ?_)
                    obtain rfl := eh_.symm
                    refine j_if_ne 103 97 (by decide) rfl dX4_copy_94 (by intro hR; first | omega | exact hR _ _ | exact jb_r _ | exact hR0 _ _ | assumption) (fun h94 => ?_) (fun h94 => ?_)
                    · refine j_aload 105 rfl rfl dX4_copy_103 ?_
                      refine j_getr 108 rfl 3 fl_X4_130 dX4_copy_105 (by decide) ( rfl) ( rfl) ?_
                      refine j_iload_n 109 rfl rfl dX4_copy_108 ?_
                      refine j_aload 111 rfl rfl dX4_copy_109 ?_
                      refine j_getr 114 rfl 3 fl_X4_130 dX4_copy_111 (by decide) ( rfl) ( rfl) ?_
                      refine j_iload 116 rfl rfl dX4_copy_114 ?_
                      refine j_iload 118 rfl rfl dX4_copy_116 ?_
                      refine j_copy 121 rfl lc_X4_241 dX4_copy_118 (by decide) (by decide) rfl rfl rfl rfl (by decide) (by decide) (by omega) (by omega) (by omega) (by decide) (Nat.le_of_ble_eq_true rfl) ?_
                      refine j_iconst 122 rfl dX4_copy_121 ?_
                      refine j_ireti dX4_copy_122 rfl ?_
                      first | exact Or.inl ⟨by omega, rfl, rfl⟩ | exact Or.inr (Or.inr (Or.inr (Or.inr ⟨by omega, by omega, by omega, rfl, rfl⟩))) | exact Or.inr (Or.inl ⟨by omega, by omega, by omega, rfl⟩) | exact Or.inr (Or.inr (Or.inl ⟨by omega, by omega, by omega, by omega, rfl⟩)) | exact Or.inr (Or.inr (Or.inr (Or.inl ⟨by omega, by omega, by omega, by omega, rfl⟩))) | (exfalso; omega)
                    · refine j_aload_n 98 rfl rfl dX4_copy_97 ?_
                      refine j_iconst 99 rfl dX4_copy_98 ?_
                      refine jV1i 102 rfl dX4_copy_99 lk_X4_126 rfl rfl (by decide) ( rfl) ( rfl) (s_finding (by omega)) (fun r99 H1 ⟨e, hr99⟩ => ?_)
                      subst e
                      refine j_ireti dX4_copy_102 rfl ?_
                      first | exact Or.inl ⟨by omega, rfl, rfl⟩ | exact Or.inr (Or.inr (Or.inr (Or.inr ⟨by omega, by omega, by omega, rfl, rfl⟩))) | exact Or.inr (Or.inl ⟨by omega, by omega, by omega, rfl⟩) | exact Or.inr (Or.inr (Or.inl ⟨by omega, by omega, by omega, by omega, rfl⟩)) | exact Or.inr (Or.inr (Or.inr (Or.inl ⟨by omega, by omega, by omega, by omega, rfl⟩))) | (exfalso; omega)
                · refine j_aload_n 69 rfl rfl dX4_copy_68 ?_
                  refine j_iconst 70 rfl dX4_copy_69 ?_
                  refine jV1i 73 rfl dX4_copy_70 lk_X4_126 rfl rfl (by decide) ( rfl) ( rfl) (s_finding (by omega)) (fun r70 H1 ⟨e, hr70⟩ => ?_)
                  subst e
                  refine j_ireti dX4_copy_73 rfl ?_
                  first | exact Or.inl ⟨by omega, rfl, rfl⟩ | exact Or.inr (Or.inr (Or.inr (Or.inr ⟨by omega, by omega, by omega, rfl, rfl⟩))) | exact Or.inr (Or.inl ⟨by omega, by omega, by omega, rfl⟩) | exact Or.inr (Or.inr (Or.inl ⟨by omega, by omega, by omega, by omega, rfl⟩)) | exact Or.inr (Or.inr (Or.inr (Or.inl ⟨by omega, by omega, by omega, by omega, rfl⟩))) | (exfalso; omega)
              · refine j_aload_n 50 rfl rfl dX4_copy_49 ?_
                refine j_iconst 51 rfl dX4_copy_50 ?_
                refine jV1i 54 rfl dX4_copy_51 lk_X4_126 rfl rfl (by decide) ( rfl) ( rfl) (s_finding (by omega)) (fun r51 H1 ⟨e, hr51⟩ => ?_)
                subst e
                refine j_ireti dX4_copy_54 rfl ?_
                first | exact Or.inl ⟨by omega, rfl, rfl⟩ | exact Or.inr (Or.inr (Or.inr (Or.inr ⟨by omega, by omega, by omega, rfl, rfl⟩))) | exact Or.inr (Or.inl ⟨by omega, by omega, by omega, rfl⟩) | exact Or.inr (Or.inr (Or.inl ⟨by omega, by omega, by omega, by omega, rfl⟩)) | exact Or.inr (Or.inr (Or.inr (Or.inl ⟨by omega, by omega, by omega, by omega, rfl⟩))) | (exfalso; omega)
          · refine j_bipush 16 rfl rfl dX4_copy_14 ?_
            refine j_ireti dX4_copy_16 rfl ?_
            first | exact Or.inl ⟨by omega, rfl, rfl⟩ | exact Or.inr (Or.inr (Or.inr (Or.inr ⟨by omega, by omega, by omega, rfl, rfl⟩))) | exact Or.inr (Or.inl ⟨by omega, by omega, by omega, rfl⟩) | exact Or.inr (Or.inr (Or.inl ⟨by omega, by omega, by omega, by omega, rfl⟩)) | exact Or.inr (Or.inr (Or.inr (Or.inl ⟨by omega, by omega, by omega, by omega, rfl⟩))) | (exfalso; omega)
      · exfalso; omega
    · rcases hk2 with ⟨rfl, rfl, rfl⟩ | ⟨rfl, rfl, rfl⟩ | ⟨rfl, rfl, rfl⟩ | ⟨rfl, rfl, rfl⟩ | hx
      · refine jOk.rng (fun hR0 => ?_)
        refine jOk.ofe rfl (Nat.le_of_ble_eq_true rfl) (en_aiiiii_8 (E := E)) ?_
        refine j_iload_n 1 rfl rfl dX4_copy_0 ?_
        refine jS1i 4 rfl dX4_copy_1 lk_X4_120 rfl rfl (s_isSheet (by omega)) (fun r1 H1 ⟨eh_, hr1⟩ => ?_)
        obtain rfl := eh_.symm
        refine j_if_eq 14 7 (by decide) rfl dX4_copy_4 (by intro hR; first | omega | exact hR _ _ | exact jb_r _ | exact hR0 _ _ | assumption) (fun h4 => ?_) (fun h4 => ?_)
        · refine j_bipush 16 rfl rfl dX4_copy_14 ?_
          refine j_ireti dX4_copy_16 rfl ?_
          first | exact Or.inl ⟨by omega, rfl, rfl⟩ | exact Or.inr (Or.inr (Or.inr (Or.inr ⟨by omega, by omega, by omega, rfl, rfl⟩))) | exact Or.inr (Or.inl ⟨by omega, by omega, by omega, rfl⟩) | exact Or.inr (Or.inr (Or.inl ⟨by omega, by omega, by omega, by omega, rfl⟩)) | exact Or.inr (Or.inr (Or.inr (Or.inl ⟨by omega, by omega, by omega, by omega, rfl⟩))) | (exfalso; omega)
        · refine j_iload_n 8 rfl rfl dX4_copy_7 ?_
          refine jS1i 11 rfl dX4_copy_8 lk_X4_120 rfl rfl (s_isSheet (by omega)) (fun r8 H1 ⟨eh_, hr8⟩ => ?_)
          obtain rfl := eh_.symm
          refine j_if_ne 17 14 (by decide) rfl dX4_copy_11 (by intro hR; first | omega | exact hR _ _ | exact jb_r _ | exact hR0 _ _ | assumption) (fun h11 => ?_) (fun h11 => ?_)
          · refine j_aload_n 18 rfl rfl dX4_copy_17 ?_
            refine j_getr 21 rfl 7 fl_X4_42 dX4_copy_18 (by decide) ( rfl) ( rfl) ?_
            refine j_iload_n 22 rfl rfl dX4_copy_21 ?_
            refine j_aald 23 rfl dX4_copy_22 (by decide) rfl (by decide) rfl (by omega) (rfl)  ?_
            refine j_astore 25 rfl st_8_6 (by decide) rfl dX4_copy_23 ?_
            refine j_aload_n 26 rfl rfl dX4_copy_25 ?_
            refine j_getr 29 rfl 7 fl_X4_42 dX4_copy_26 (by decide) ( rfl) ( rfl) ?_
            refine j_iload_n 30 rfl rfl dX4_copy_29 ?_
            refine j_aald 31 rfl dX4_copy_30 (by decide) rfl (by decide) rfl (by omega) (rfl)  ?_
            refine j_astore 33 rfl st_8_7 (by decide) rfl dX4_copy_31 ?_
            refine j_aload 35 rfl rfl dX4_copy_33 ?_
            refine g_geti 38 rfl 0 0 rfl fl_X4_123 dX4_copy_35 (by decide) ( rfl) ( rfl) ?_
            refine j_if_ne 49 41 (by decide) rfl dX4_copy_38 (by intro hR; first | omega | exact hR _ _ | exact jb_r _ | exact hR0 _ _ | assumption) (fun h38 => ?_) (fun h38 => ?_)
            · refine j_aload_n 50 rfl rfl dX4_copy_49 ?_
              refine j_iconst 51 rfl dX4_copy_50 ?_
              refine jV1i 54 rfl dX4_copy_51 lk_X4_126 rfl rfl (by decide) ( rfl) ( rfl) (s_finding (by omega)) (fun r51 H1 ⟨e, hr51⟩ => ?_)
              subst e
              refine j_ireti dX4_copy_54 rfl ?_
              first | exact Or.inl ⟨by omega, rfl, rfl⟩ | exact Or.inr (Or.inr (Or.inr (Or.inr ⟨by omega, by omega, by omega, rfl, rfl⟩))) | exact Or.inr (Or.inl ⟨by omega, by omega, by omega, rfl⟩) | exact Or.inr (Or.inr (Or.inl ⟨by omega, by omega, by omega, by omega, rfl⟩)) | exact Or.inr (Or.inr (Or.inr (Or.inl ⟨by omega, by omega, by omega, by omega, rfl⟩))) | (exfalso; omega)
            · refine j_aload 43 rfl rfl dX4_copy_41 ?_
              refine g_geti 46 rfl 0 0 rfl fl_X4_123 dX4_copy_43 (by decide) ( rfl) ( rfl) ?_
              refine j_if_eq 55 49 (by decide) rfl dX4_copy_46 (by intro hR; first | omega | exact hR _ _ | exact jb_r _ | exact hR0 _ _ | assumption) (fun h46 => ?_) (fun h46 => ?_)
              · refine j_aload 57 rfl rfl dX4_copy_55 ?_
                refine g_geti 60 rfl 1 1 rfl fl_X4_235 dX4_copy_57 (by decide) ( rfl) ( rfl) ?_
                refine j_aload 62 rfl rfl dX4_copy_60 ?_
                refine g_geti 65 rfl 1 1 rfl fl_X4_235 dX4_copy_62 (by decide) ( rfl) ( rfl) ?_
                refine j_icmp_eq 74 68 (by decide) rfl dX4_copy_65 (by intro hR; first | omega | exact hR _ _ | exact jb_r _ | exact hR0 _ _ | assumption) (by intro hR; first | omega | exact hR _ _ | exact jb_r _ | exact hR0 _ _ | assumption) (fun h65 => ?_) (fun h65 => ?_)
                · refine j_aload 76 rfl rfl dX4_copy_74 ?_
                  refine j_iload_n 77 rfl rfl dX4_copy_76 ?_
                  refine j_iload 79 rfl rfl dX4_copy_77 ?_
                  refine jV2i 82 rfl dX4_copy_79 lk_X4_238 rfl rfl (by decide) ( rfl) ( rfl) (s_has sh3 hi hn hz) (fun r79 H1 ⟨eh_, hr79⟩ => ?_)
                  obtain rfl := eh_.symm
                  refine j_if_eq 97 85 (by decide) rfl dX4_copy_82 (by intro hR; first | omega | exact hR _ _ | exact jb_r _ | exact hR0 _ _ | assumption) (fun h82 => ?_) (fun h82 => ?_)
                  · refine j_aload_n 98 rfl rfl dX4_copy_97 ?_
                    refine j_iconst 99 rfl dX4_copy_98 ?_
                    refine jV1i 102 rfl dX4_copy_99 lk_X4_126 rfl rfl (by decide) ( rfl) ( rfl) (s_finding (by omega)) (fun r99 H1 ⟨e, hr99⟩ => ?_)
                    subst e
                    refine j_ireti dX4_copy_102 rfl ?_
                    first | exact Or.inl ⟨by omega, rfl, rfl⟩ | exact Or.inr (Or.inr (Or.inr (Or.inr ⟨by omega, by omega, by omega, rfl, rfl⟩))) | exact Or.inr (Or.inl ⟨by omega, by omega, by omega, rfl⟩) | exact Or.inr (Or.inr (Or.inl ⟨by omega, by omega, by omega, by omega, rfl⟩)) | exact Or.inr (Or.inr (Or.inr (Or.inl ⟨by omega, by omega, by omega, by omega, rfl⟩))) | (exfalso; omega)
                  · refine j_aload 87 rfl rfl dX4_copy_85 ?_
                    refine j_iload 89 rfl rfl dX4_copy_87 ?_
                    refine j_iload 91 rfl rfl dX4_copy_89 ?_
                    refine jV2i 94 rfl dX4_copy_91 lk_X4_238 rfl rfl (by decide) ( rfl) ( rfl) (s_has sh0 hj hn hz2) (fun r91 H1 ⟨eh_, hr91⟩ => ?_)
                    obtain rfl := eh_.symm
                    refine j_if_ne 103 97 (by decide) rfl dX4_copy_94 (by intro hR; first | omega | exact hR _ _ | exact jb_r _ | exact hR0 _ _ | assumption) (fun h94 => ?_) (fun h94 => ?_)
                    · refine j_aload 105 rfl rfl dX4_copy_103 ?_
                      refine j_getr 108 rfl 3 fl_X4_130 dX4_copy_105 (by decide) ( rfl) ( rfl) ?_
                      refine j_iload_n 109 rfl rfl dX4_copy_108 ?_
                      refine j_aload 111 rfl rfl dX4_copy_109 ?_
                      refine j_getr 114 rfl 3 fl_X4_130 dX4_copy_111 (by decide) ( rfl) ( rfl) ?_
                      refine j_iload 116 rfl rfl dX4_copy_114 ?_
                      refine j_iload 118 rfl rfl dX4_copy_116 ?_
                      refine j_copy 121 rfl lc_X4_241 dX4_copy_118 (by decide) (by decide) rfl rfl rfl rfl (by decide) (by decide) (by omega) (by omega) (by omega) (by decide) (Nat.le_of_ble_eq_true rfl) ?_
                      refine j_iconst 122 rfl dX4_copy_121 ?_
                      refine j_ireti dX4_copy_122 rfl ?_
                      first | exact Or.inl ⟨by omega, rfl, rfl⟩ | exact Or.inr (Or.inr (Or.inr (Or.inr ⟨by omega, by omega, by omega, rfl, rfl⟩))) | exact Or.inr (Or.inl ⟨by omega, by omega, by omega, rfl⟩) | exact Or.inr (Or.inr (Or.inl ⟨by omega, by omega, by omega, by omega, rfl⟩)) | exact Or.inr (Or.inr (Or.inr (Or.inl ⟨by omega, by omega, by omega, by omega, rfl⟩))) | (exfalso; omega)
                    · refine j_aload_n 98 rfl rfl dX4_copy_97 ?_
                      refine j_iconst 99 rfl dX4_copy_98 ?_
                      refine jV1i 102 rfl dX4_copy_99 lk_X4_126 rfl rfl (by decide) ( rfl) ( rfl) (s_finding (by omega)) (fun r99 H1 ⟨e, hr99⟩ => ?_)
                      subst e
                      refine j_ireti dX4_copy_102 rfl ?_
                      first | exact Or.inl ⟨by omega, rfl, rfl⟩ | exact Or.inr (Or.inr (Or.inr (Or.inr ⟨by omega, by omega, by omega, rfl, rfl⟩))) | exact Or.inr (Or.inl ⟨by omega, by omega, by omega, rfl⟩) | exact Or.inr (Or.inr (Or.inl ⟨by omega, by omega, by omega, by omega, rfl⟩)) | exact Or.inr (Or.inr (Or.inr (Or.inl ⟨by omega, by omega, by omega, by omega, rfl⟩))) | (exfalso; omega)
                · refine j_aload_n 69 rfl rfl dX4_copy_68 ?_
                  refine j_iconst 70 rfl dX4_copy_69 ?_
                  refine jV1i 73 rfl dX4_copy_70 lk_X4_126 rfl rfl (by decide) ( rfl) ( rfl) (s_finding (by omega)) (fun r70 H1 ⟨e, hr70⟩ => ?_)
                  subst e
                  refine j_ireti dX4_copy_73 rfl ?_
                  first | exact Or.inl ⟨by omega, rfl, rfl⟩ | exact Or.inr (Or.inr (Or.inr (Or.inr ⟨by omega, by omega, by omega, rfl, rfl⟩))) | exact Or.inr (Or.inl ⟨by omega, by omega, by omega, rfl⟩) | exact Or.inr (Or.inr (Or.inl ⟨by omega, by omega, by omega, by omega, rfl⟩)) | exact Or.inr (Or.inr (Or.inr (Or.inl ⟨by omega, by omega, by omega, by omega, rfl⟩))) | (exfalso; omega)
              · refine j_aload_n 50 rfl rfl dX4_copy_49 ?_
                refine j_iconst 51 rfl dX4_copy_50 ?_
                refine jV1i 54 rfl dX4_copy_51 lk_X4_126 rfl rfl (by decide) ( rfl) ( rfl) (s_finding (by omega)) (fun r51 H1 ⟨e, hr51⟩ => ?_)
                subst e
                refine j_ireti dX4_copy_54 rfl ?_
                first | exact Or.inl ⟨by omega, rfl, rfl⟩ | exact Or.inr (Or.inr (Or.inr (Or.inr ⟨by omega, by omega, by omega, rfl, rfl⟩))) | exact Or.inr (Or.inl ⟨by omega, by omega, by omega, rfl⟩) | exact Or.inr (Or.inr (Or.inl ⟨by omega, by omega, by omega, by omega, rfl⟩)) | exact Or.inr (Or.inr (Or.inr (Or.inl ⟨by omega, by omega, by omega, by omega, rfl⟩))) | (exfalso; omega)
          · refine j_bipush 16 rfl rfl dX4_copy_14 ?_
            refine j_ireti dX4_copy_16 rfl ?_
            first | exact Or.inl ⟨by omega, rfl, rfl⟩ | exact Or.inr (Or.inr (Or.inr (Or.inr ⟨by omega, by omega, by omega, rfl, rfl⟩))) | exact Or.inr (Or.inl ⟨by omega, by omega, by omega, rfl⟩) | exact Or.inr (Or.inr (Or.inl ⟨by omega, by omega, by omega, by omega, rfl⟩)) | exact Or.inr (Or.inr (Or.inr (Or.inl ⟨by omega, by omega, by omega, by omega, rfl⟩))) | (exfalso; omega)
      · refine jOk.rng (fun hR0 => ?_)
        refine jOk.ofe rfl (Nat.le_of_ble_eq_true rfl) (en_aiiiii_8 (E := E)) ?_
        refine j_iload_n 1 rfl rfl dX4_copy_0 ?_
        refine jS1i 4 rfl dX4_copy_1 lk_X4_120 rfl rfl (s_isSheet (by omega)) (fun r1 H1 ⟨eh_, hr1⟩ => ?_)
        obtain rfl := eh_.symm
        refine j_if_eq 14 7 (by decide) rfl dX4_copy_4 (by intro hR; first | omega | exact hR _ _ | exact jb_r _ | exact hR0 _ _ | assumption) (fun h4 => ?_) (fun h4 => ?_)
        · refine j_bipush 16 rfl rfl dX4_copy_14 ?_
          refine j_ireti dX4_copy_16 rfl ?_
          first | exact Or.inl ⟨by omega, rfl, rfl⟩ | exact Or.inr (Or.inr (Or.inr (Or.inr ⟨by omega, by omega, by omega, rfl, rfl⟩))) | exact Or.inr (Or.inl ⟨by omega, by omega, by omega, rfl⟩) | exact Or.inr (Or.inr (Or.inl ⟨by omega, by omega, by omega, by omega, rfl⟩)) | exact Or.inr (Or.inr (Or.inr (Or.inl ⟨by omega, by omega, by omega, by omega, rfl⟩))) | (exfalso; omega)
        · refine j_iload_n 8 rfl rfl dX4_copy_7 ?_
          refine jS1i 11 rfl dX4_copy_8 lk_X4_120 rfl rfl (s_isSheet (by omega)) (fun r8 H1 ⟨eh_, hr8⟩ => ?_)
          obtain rfl := eh_.symm
          refine j_if_ne 17 14 (by decide) rfl dX4_copy_11 (by intro hR; first | omega | exact hR _ _ | exact jb_r _ | exact hR0 _ _ | assumption) (fun h11 => ?_) (fun h11 => ?_)
          · refine j_aload_n 18 rfl rfl dX4_copy_17 ?_
            refine j_getr 21 rfl 7 fl_X4_42 dX4_copy_18 (by decide) ( rfl) ( rfl) ?_
            refine j_iload_n 22 rfl rfl dX4_copy_21 ?_
            refine j_aald 23 rfl dX4_copy_22 (by decide) rfl (by decide) rfl (by omega) (rfl)  ?_
            refine j_astore 25 rfl st_8_6 (by decide) rfl dX4_copy_23 ?_
            refine j_aload_n 26 rfl rfl dX4_copy_25 ?_
            refine j_getr 29 rfl 7 fl_X4_42 dX4_copy_26 (by decide) ( rfl) ( rfl) ?_
            refine j_iload_n 30 rfl rfl dX4_copy_29 ?_
            refine j_aald 31 rfl dX4_copy_30 (by decide) rfl (by decide) rfl (by omega) (rfl)  ?_
            refine j_astore 33 rfl st_8_7 (by decide) rfl dX4_copy_31 ?_
            refine j_aload 35 rfl rfl dX4_copy_33 ?_
            refine g_geti 38 rfl 0 0 rfl fl_X4_123 dX4_copy_35 (by decide) ( rfl) ( rfl) ?_
            refine j_if_ne 49 41 (by decide) rfl dX4_copy_38 (by intro hR; first | omega | exact hR _ _ | exact jb_r _ | exact hR0 _ _ | assumption) (fun h38 => ?_) (fun h38 => ?_)
            · refine j_aload_n 50 rfl rfl dX4_copy_49 ?_
              refine j_iconst 51 rfl dX4_copy_50 ?_
              refine jV1i 54 rfl dX4_copy_51 lk_X4_126 rfl rfl (by decide) ( rfl) ( rfl) (s_finding (by omega)) (fun r51 H1 ⟨e, hr51⟩ => ?_)
              subst e
              refine j_ireti dX4_copy_54 rfl ?_
              first | exact Or.inl ⟨by omega, rfl, rfl⟩ | exact Or.inr (Or.inr (Or.inr (Or.inr ⟨by omega, by omega, by omega, rfl, rfl⟩))) | exact Or.inr (Or.inl ⟨by omega, by omega, by omega, rfl⟩) | exact Or.inr (Or.inr (Or.inl ⟨by omega, by omega, by omega, by omega, rfl⟩)) | exact Or.inr (Or.inr (Or.inr (Or.inl ⟨by omega, by omega, by omega, by omega, rfl⟩))) | (exfalso; omega)
            · refine j_aload 43 rfl rfl dX4_copy_41 ?_
              refine g_geti 46 rfl 0 0 rfl fl_X4_123 dX4_copy_43 (by decide) ( rfl) ( rfl) ?_
              refine j_if_eq 55 49 (by decide) rfl dX4_copy_46 (by intro hR; first | omega | exact hR _ _ | exact jb_r _ | exact hR0 _ _ | assumption) (fun h46 => ?_) (fun h46 => ?_)
              · refine j_aload 57 rfl rfl dX4_copy_55 ?_
                refine g_geti 60 rfl 1 1 rfl fl_X4_235 dX4_copy_57 (by decide) ( rfl) ( rfl) ?_
                refine j_aload 62 rfl rfl dX4_copy_60 ?_
                refine g_geti 65 rfl 1 1 rfl fl_X4_235 dX4_copy_62 (by decide) ( rfl) ( rfl) ?_
                refine j_icmp_eq 74 68 (by decide) rfl dX4_copy_65 (by intro hR; first | omega | exact hR _ _ | exact jb_r _ | exact hR0 _ _ | assumption) (by intro hR; first | omega | exact hR _ _ | exact jb_r _ | exact hR0 _ _ | assumption) (fun h65 => ?_) (fun h65 => ?_)
                · refine j_aload 76 rfl rfl dX4_copy_74 ?_
                  refine j_iload_n 77 rfl rfl dX4_copy_76 ?_
                  refine j_iload 79 rfl rfl dX4_copy_77 ?_
                  refine jV2i 82 rfl dX4_copy_79 lk_X4_238 rfl rfl (by decide) ( rfl) ( rfl) (s_has sh3 hi hn hz) (fun r79 H1 ⟨eh_, hr79⟩ => ?_)
                  obtain rfl := eh_.symm
                  refine j_if_eq 97 85 (by decide) rfl dX4_copy_82 (by intro hR; first | omega | exact hR _ _ | exact jb_r _ | exact hR0 _ _ | assumption) (fun h82 => ?_) (fun h82 => ?_)
                  · refine j_aload_n 98 rfl rfl dX4_copy_97 ?_
                    refine j_iconst 99 rfl dX4_copy_98 ?_
                    refine jV1i 102 rfl dX4_copy_99 lk_X4_126 rfl rfl (by decide) ( rfl) ( rfl) (s_finding (by omega)) (fun r99 H1 ⟨e, hr99⟩ => ?_)
                    subst e
                    refine j_ireti dX4_copy_102 rfl ?_
                    first | exact Or.inl ⟨by omega, rfl, rfl⟩ | exact Or.inr (Or.inr (Or.inr (Or.inr ⟨by omega, by omega, by omega, rfl, rfl⟩))) | exact Or.inr (Or.inl ⟨by omega, by omega, by omega, rfl⟩) | exact Or.inr (Or.inr (Or.inl ⟨by omega, by omega, by omega, by omega, rfl⟩)) | exact Or.inr (Or.inr (Or.inr (Or.inl ⟨by omega, by omega, by omega, by omega, rfl⟩))) | (exfalso; omega)
                  · refine j_aload 87 rfl rfl dX4_copy_85 ?_
                    refine j_iload 89 rfl rfl dX4_copy_87 ?_
                    refine j_iload 91 rfl rfl dX4_copy_89 ?_
                    refine jV2i 94 rfl dX4_copy_91 lk_X4_238 rfl rfl (by decide) ( rfl) ( rfl) (s_has sh1 hj hn hz2) (fun r91 H1 ⟨eh_, hr91⟩ => ?_)
                    obtain rfl := eh_.symm
                    refine j_if_ne 103 97 (by decide) rfl dX4_copy_94 (by intro hR; first | omega | exact hR _ _ | exact jb_r _ | exact hR0 _ _ | assumption) (fun h94 => ?_) (fun h94 => ?_)
                    · refine j_aload 105 rfl rfl dX4_copy_103 ?_
                      refine j_getr 108 rfl 3 fl_X4_130 dX4_copy_105 (by decide) ( rfl) ( rfl) ?_
                      refine j_iload_n 109 rfl rfl dX4_copy_108 ?_
                      refine j_aload 111 rfl rfl dX4_copy_109 ?_
                      refine j_getr 114 rfl 3 fl_X4_130 dX4_copy_111 (by decide) ( rfl) ( rfl) ?_
                      refine j_iload 116 rfl rfl dX4_copy_114 ?_
                      refine j_iload 118 rfl rfl dX4_copy_116 ?_
                      refine j_copy 121 rfl lc_X4_241 dX4_copy_118 (by decide) (by decide) rfl rfl rfl rfl (by decide) (by decide) (by omega) (by omega) (by omega) (by decide) (Nat.le_of_ble_eq_true rfl) ?_
                      refine j_iconst 122 rfl dX4_copy_121 ?_
                      refine j_ireti dX4_copy_122 rfl ?_
                      first | exact Or.inl ⟨by omega, rfl, rfl⟩ | exact Or.inr (Or.inr (Or.inr (Or.inr ⟨by omega, by omega, by omega, rfl, rfl⟩))) | exact Or.inr (Or.inl ⟨by omega, by omega, by omega, rfl⟩) | exact Or.inr (Or.inr (Or.inl ⟨by omega, by omega, by omega, by omega, rfl⟩)) | exact Or.inr (Or.inr (Or.inr (Or.inl ⟨by omega, by omega, by omega, by omega, rfl⟩))) | (exfalso; omega)
                    · refine j_aload_n 98 rfl rfl dX4_copy_97 ?_
                      refine j_iconst 99 rfl dX4_copy_98 ?_
                      refine jV1i 102 rfl dX4_copy_99 lk_X4_126 rfl rfl (by decide) ( rfl) ( rfl) (s_finding (by omega)) (fun r99 H1 ⟨e, hr99⟩ => ?_)
                      subst e
                      refine j_ireti dX4_copy_102 rfl ?_
                      first | exact Or.inl ⟨by omega, rfl, rfl⟩ | exact Or.inr (Or.inr (Or.inr (Or.inr ⟨by omega, by omega, by omega, rfl, rfl⟩))) | exact Or.inr (Or.inl ⟨by omega, by omega, by omega, rfl⟩) | exact Or.inr (Or.inr (Or.inl ⟨by omega, by omega, by omega, by omega, rfl⟩)) | exact Or.inr (Or.inr (Or.inr (Or.inl ⟨by omega, by omega, by omega, by omega, rfl⟩))) | (exfalso; omega)
                · refine j_aload_n 69 rfl rfl dX4_copy_68 ?_
                  refine j_iconst 70 rfl dX4_copy_69 ?_
                  refine jV1i 73 rfl dX4_copy_70 lk_X4_126 rfl rfl (by decide) ( rfl) ( rfl) (s_finding (by omega)) (fun r70 H1 ⟨e, hr70⟩ => ?_)
                  subst e
                  refine j_ireti dX4_copy_73 rfl ?_
                  first | exact Or.inl ⟨by omega, rfl, rfl⟩ | exact Or.inr (Or.inr (Or.inr (Or.inr ⟨by omega, by omega, by omega, rfl, rfl⟩))) | exact Or.inr (Or.inl ⟨by omega, by omega, by omega, rfl⟩) | exact Or.inr (Or.inr (Or.inl ⟨by omega, by omega, by omega, by omega, rfl⟩)) | exact Or.inr (Or.inr (Or.inr (Or.inl ⟨by omega, by omega, by omega, by omega, rfl⟩))) | (exfalso; omega)
              · refine j_aload_n 50 rfl rfl dX4_copy_49 ?_
                refine j_iconst 51 rfl dX4_copy_50 ?_
                refine jV1i 54 rfl dX4_copy_51 lk_X4_126 rfl rfl (by decide) ( rfl) ( rfl) (s_finding (by omega)) (fun r51 H1 ⟨e, hr51⟩ => ?_)
                subst e
                refine j_ireti dX4_copy_54 rfl ?_
                first | exact Or.inl ⟨by omega, rfl, rfl⟩ | exact Or.inr (Or.inr (Or.inr (Or.inr ⟨by omega, by omega, by omega, rfl, rfl⟩))) | exact Or.inr (Or.inl ⟨by omega, by omega, by omega, rfl⟩) | exact Or.inr (Or.inr (Or.inl ⟨by omega, by omega, by omega, by omega, rfl⟩)) | exact Or.inr (Or.inr (Or.inr (Or.inl ⟨by omega, by omega, by omega, by omega, rfl⟩))) | (exfalso; omega)
          · refine j_bipush 16 rfl rfl dX4_copy_14 ?_
            refine j_ireti dX4_copy_16 rfl ?_
            first | exact Or.inl ⟨by omega, rfl, rfl⟩ | exact Or.inr (Or.inr (Or.inr (Or.inr ⟨by omega, by omega, by omega, rfl, rfl⟩))) | exact Or.inr (Or.inl ⟨by omega, by omega, by omega, rfl⟩) | exact Or.inr (Or.inr (Or.inl ⟨by omega, by omega, by omega, by omega, rfl⟩)) | exact Or.inr (Or.inr (Or.inr (Or.inl ⟨by omega, by omega, by omega, by omega, rfl⟩))) | (exfalso; omega)
      · refine jOk.rng (fun hR0 => ?_)
        refine jOk.ofe rfl (Nat.le_of_ble_eq_true rfl) (en_aiiiii_8 (E := E)) ?_
        refine j_iload_n 1 rfl rfl dX4_copy_0 ?_
        refine jS1i 4 rfl dX4_copy_1 lk_X4_120 rfl rfl (s_isSheet (by omega)) (fun r1 H1 ⟨eh_, hr1⟩ => ?_)
        obtain rfl := eh_.symm
        refine j_if_eq 14 7 (by decide) rfl dX4_copy_4 (by intro hR; first | omega | exact hR _ _ | exact jb_r _ | exact hR0 _ _ | assumption) (fun h4 => ?_) (fun h4 => ?_)
        · refine j_bipush 16 rfl rfl dX4_copy_14 ?_
          refine j_ireti dX4_copy_16 rfl ?_
          first | exact Or.inl ⟨by omega, rfl, rfl⟩ | exact Or.inr (Or.inr (Or.inr (Or.inr ⟨by omega, by omega, by omega, rfl, rfl⟩))) | exact Or.inr (Or.inl ⟨by omega, by omega, by omega, rfl⟩) | exact Or.inr (Or.inr (Or.inl ⟨by omega, by omega, by omega, by omega, rfl⟩)) | exact Or.inr (Or.inr (Or.inr (Or.inl ⟨by omega, by omega, by omega, by omega, rfl⟩))) | (exfalso; omega)
        · refine j_iload_n 8 rfl rfl dX4_copy_7 ?_
          refine jS1i 11 rfl dX4_copy_8 lk_X4_120 rfl rfl (s_isSheet (by omega)) (fun r8 H1 ⟨eh_, hr8⟩ => ?_)
          obtain rfl := eh_.symm
          refine j_if_ne 17 14 (by decide) rfl dX4_copy_11 (by intro hR; first | omega | exact hR _ _ | exact jb_r _ | exact hR0 _ _ | assumption) (fun h11 => ?_) (fun h11 => ?_)
          · refine j_aload_n 18 rfl rfl dX4_copy_17 ?_
            refine j_getr 21 rfl 7 fl_X4_42 dX4_copy_18 (by decide) ( rfl) ( rfl) ?_
            refine j_iload_n 22 rfl rfl dX4_copy_21 ?_
            refine j_aald 23 rfl dX4_copy_22 (by decide) rfl (by decide) rfl (by omega) (rfl)  ?_
            refine j_astore 25 rfl st_8_6 (by decide) rfl dX4_copy_23 ?_
            refine j_aload_n 26 rfl rfl dX4_copy_25 ?_
            refine j_getr 29 rfl 7 fl_X4_42 dX4_copy_26 (by decide) ( rfl) ( rfl) ?_
            refine j_iload_n 30 rfl rfl dX4_copy_29 ?_
            refine j_aald 31 rfl dX4_copy_30 (by decide) rfl (by decide) rfl (by omega) (rfl)  ?_
            refine j_astore 33 rfl st_8_7 (by decide) rfl dX4_copy_31 ?_
            refine j_aload 35 rfl rfl dX4_copy_33 ?_
            refine g_geti 38 rfl 0 0 rfl fl_X4_123 dX4_copy_35 (by decide) ( rfl) ( rfl) ?_
            refine j_if_ne 49 41 (by decide) rfl dX4_copy_38 (by intro hR; first | omega | exact hR _ _ | exact jb_r _ | exact hR0 _ _ | assumption) (fun h38 => ?_) (fun h38 => ?_)
            · refine j_aload_n 50 rfl rfl dX4_copy_49 ?_
              refine j_iconst 51 rfl dX4_copy_50 ?_
              refine jV1i 54 rfl dX4_copy_51 lk_X4_126 rfl rfl (by decide) ( rfl) ( rfl) (s_finding (by omega)) (fun r51 H1 ⟨e, hr51⟩ => ?_)
              subst e
              refine j_ireti dX4_copy_54 rfl ?_
              first | exact Or.inl ⟨by omega, rfl, rfl⟩ | exact Or.inr (Or.inr (Or.inr (Or.inr ⟨by omega, by omega, by omega, rfl, rfl⟩))) | exact Or.inr (Or.inl ⟨by omega, by omega, by omega, rfl⟩) | exact Or.inr (Or.inr (Or.inl ⟨by omega, by omega, by omega, by omega, rfl⟩)) | exact Or.inr (Or.inr (Or.inr (Or.inl ⟨by omega, by omega, by omega, by omega, rfl⟩))) | (exfalso; omega)
            · refine j_aload 43 rfl rfl dX4_copy_41 ?_
              refine g_geti 46 rfl 0 0 rfl fl_X4_123 dX4_copy_43 (by decide) ( rfl) ( rfl) ?_
              refine j_if_eq 55 49 (by decide) rfl dX4_copy_46 (by intro hR; first | omega | exact hR _ _ | exact jb_r _ | exact hR0 _ _ | assumption) (fun h46 => ?_) (fun h46 => ?_)
              · refine j_aload 57 rfl rfl dX4_copy_55 ?_
                refine g_geti 60 rfl 1 1 rfl fl_X4_235 dX4_copy_57 (by decide) ( rfl) ( rfl) ?_
                refine j_aload 62 rfl rfl dX4_copy_60 ?_
                refine g_geti 65 rfl 1 1 rfl fl_X4_235 dX4_copy_62 (by decide) ( rfl) ( rfl) ?_
                refine j_icmp_eq 74 68 (by decide) rfl dX4_copy_65 (by intro hR; first | omega | exact hR _ _ | exact jb_r _ | exact hR0 _ _ | assumption) (by intro hR; first | omega | exact hR _ _ | exact jb_r _ | exact hR0 _ _ | assumption) (fun h65 => ?_) (fun h65 => ?_)
                · refine j_aload 76 rfl rfl dX4_copy_74 ?_
                  refine j_iload_n 77 rfl rfl dX4_copy_76 ?_
                  refine j_iload 79 rfl rfl dX4_copy_77 ?_
                  refine jV2i 82 rfl dX4_copy_79 lk_X4_238 rfl rfl (by decide) ( rfl) ( rfl) (s_has sh3 hi hn hz) (fun r79 H1 ⟨eh_, hr79⟩ => ?_)
                  obtain rfl := eh_.symm
                  refine j_if_eq 97 85 (by decide) rfl dX4_copy_82 (by intro hR; first | omega | exact hR _ _ | exact jb_r _ | exact hR0 _ _ | assumption) (fun h82 => ?_) (fun h82 => ?_)
                  · refine j_aload_n 98 rfl rfl dX4_copy_97 ?_
                    refine j_iconst 99 rfl dX4_copy_98 ?_
                    refine jV1i 102 rfl dX4_copy_99 lk_X4_126 rfl rfl (by decide) ( rfl) ( rfl) (s_finding (by omega)) (fun r99 H1 ⟨e, hr99⟩ => ?_)
                    subst e
                    refine j_ireti dX4_copy_102 rfl ?_
                    first | exact Or.inl ⟨by omega, rfl, rfl⟩ | exact Or.inr (Or.inr (Or.inr (Or.inr ⟨by omega, by omega, by omega, rfl, rfl⟩))) | exact Or.inr (Or.inl ⟨by omega, by omega, by omega, rfl⟩) | exact Or.inr (Or.inr (Or.inl ⟨by omega, by omega, by omega, by omega, rfl⟩)) | exact Or.inr (Or.inr (Or.inr (Or.inl ⟨by omega, by omega, by omega, by omega, rfl⟩))) | (exfalso; omega)
                  · refine j_aload 87 rfl rfl dX4_copy_85 ?_
                    refine j_iload 89 rfl rfl dX4_copy_87 ?_
                    refine j_iload 91 rfl rfl dX4_copy_89 ?_
                    refine jV2i 94 rfl dX4_copy_91 lk_X4_238 rfl rfl (by decide) ( rfl) ( rfl) (s_has sh2 hj hn hz2) (fun r91 H1 ⟨eh_, hr91⟩ => ?_)
                    obtain rfl := eh_.symm
                    refine j_if_ne 103 97 (by decide) rfl dX4_copy_94 (by intro hR; first | omega | exact hR _ _ | exact jb_r _ | exact hR0 _ _ | assumption) (fun h94 => ?_) (fun h94 => ?_)
                    · refine j_aload 105 rfl rfl dX4_copy_103 ?_
                      refine j_getr 108 rfl 3 fl_X4_130 dX4_copy_105 (by decide) ( rfl) ( rfl) ?_
                      refine j_iload_n 109 rfl rfl dX4_copy_108 ?_
                      refine j_aload 111 rfl rfl dX4_copy_109 ?_
                      refine j_getr 114 rfl 3 fl_X4_130 dX4_copy_111 (by decide) ( rfl) ( rfl) ?_
                      refine j_iload 116 rfl rfl dX4_copy_114 ?_
                      refine j_iload 118 rfl rfl dX4_copy_116 ?_
                      refine j_copy 121 rfl lc_X4_241 dX4_copy_118 (by decide) (by decide) rfl rfl rfl rfl (by decide) (by decide) (by omega) (by omega) (by omega) (by decide) (Nat.le_of_ble_eq_true rfl) ?_
                      refine j_iconst 122 rfl dX4_copy_121 ?_
                      refine j_ireti dX4_copy_122 rfl ?_
                      first | exact Or.inl ⟨by omega, rfl, rfl⟩ | exact Or.inr (Or.inr (Or.inr (Or.inr ⟨by omega, by omega, by omega, rfl, rfl⟩))) | exact Or.inr (Or.inl ⟨by omega, by omega, by omega, rfl⟩) | exact Or.inr (Or.inr (Or.inl ⟨by omega, by omega, by omega, by omega, rfl⟩)) | exact Or.inr (Or.inr (Or.inr (Or.inl ⟨by omega, by omega, by omega, by omega, rfl⟩))) | (exfalso; omega)
                    · refine j_aload_n 98 rfl rfl dX4_copy_97 ?_
                      refine j_iconst 99 rfl dX4_copy_98 ?_
                      refine jV1i 102 rfl dX4_copy_99 lk_X4_126 rfl rfl (by decide) ( rfl) ( rfl) (s_finding (by omega)) (fun r99 H1 ⟨e, hr99⟩ => ?_)
                      subst e
                      refine j_ireti dX4_copy_102 rfl ?_
                      first | exact Or.inl ⟨by omega, rfl, rfl⟩ | exact Or.inr (Or.inr (Or.inr (Or.inr ⟨by omega, by omega, by omega, rfl, rfl⟩))) | exact Or.inr (Or.inl ⟨by omega, by omega, by omega, rfl⟩) | exact Or.inr (Or.inr (Or.inl ⟨by omega, by omega, by omega, by omega, rfl⟩)) | exact Or.inr (Or.inr (Or.inr (Or.inl ⟨by omega, by omega, by omega, by omega, rfl⟩))) | (exfalso; omega)
                · refine j_aload_n 69 rfl rfl dX4_copy_68 ?_
                  refine j_iconst 70 rfl dX4_copy_69 ?_
                  refine jV1i 73 rfl dX4_copy_70 lk_X4_126 rfl rfl (by decide) ( rfl) ( rfl) (s_finding (by omega)) (fun r70 H1 ⟨e, hr70⟩ => ?_)
                  subst e
                  refine j_ireti dX4_copy_73 rfl ?_
                  first | exact Or.inl ⟨by omega, rfl, rfl⟩ | exact Or.inr (Or.inr (Or.inr (Or.inr ⟨by omega, by omega, by omega, rfl, rfl⟩))) | exact Or.inr (Or.inl ⟨by omega, by omega, by omega, rfl⟩) | exact Or.inr (Or.inr (Or.inl ⟨by omega, by omega, by omega, by omega, rfl⟩)) | exact Or.inr (Or.inr (Or.inr (Or.inl ⟨by omega, by omega, by omega, by omega, rfl⟩))) | (exfalso; omega)
              · refine j_aload_n 50 rfl rfl dX4_copy_49 ?_
                refine j_iconst 51 rfl dX4_copy_50 ?_
                refine jV1i 54 rfl dX4_copy_51 lk_X4_126 rfl rfl (by decide) ( rfl) ( rfl) (s_finding (by omega)) (fun r51 H1 ⟨e, hr51⟩ => ?_)
                subst e
                refine j_ireti dX4_copy_54 rfl ?_
                first | exact Or.inl ⟨by omega, rfl, rfl⟩ | exact Or.inr (Or.inr (Or.inr (Or.inr ⟨by omega, by omega, by omega, rfl, rfl⟩))) | exact Or.inr (Or.inl ⟨by omega, by omega, by omega, rfl⟩) | exact Or.inr (Or.inr (Or.inl ⟨by omega, by omega, by omega, by omega, rfl⟩)) | exact Or.inr (Or.inr (Or.inr (Or.inl ⟨by omega, by omega, by omega, by omega, rfl⟩))) | (exfalso; omega)
          · refine j_bipush 16 rfl rfl dX4_copy_14 ?_
            refine j_ireti dX4_copy_16 rfl ?_
            first | exact Or.inl ⟨by omega, rfl, rfl⟩ | exact Or.inr (Or.inr (Or.inr (Or.inr ⟨by omega, by omega, by omega, rfl, rfl⟩))) | exact Or.inr (Or.inl ⟨by omega, by omega, by omega, rfl⟩) | exact Or.inr (Or.inr (Or.inl ⟨by omega, by omega, by omega, by omega, rfl⟩)) | exact Or.inr (Or.inr (Or.inr (Or.inl ⟨by omega, by omega, by omega, by omega, rfl⟩))) | (exfalso; omega)
      · refine jOk.rng (fun hR0 => ?_)
        refine jOk.ofe rfl (Nat.le_of_ble_eq_true rfl) (en_aiiiii_8 (E := E)) ?_
        refine j_iload_n 1 rfl rfl dX4_copy_0 ?_
        refine jS1i 4 rfl dX4_copy_1 lk_X4_120 rfl rfl (s_isSheet (by omega)) (fun r1 H1 ⟨eh_, hr1⟩ => ?_)
        obtain rfl := eh_.symm
        refine j_if_eq 14 7 (by decide) rfl dX4_copy_4 (by intro hR; first | omega | exact hR _ _ | exact jb_r _ | exact hR0 _ _ | assumption) (fun h4 => ?_) (fun h4 => ?_)
        · refine j_bipush 16 rfl rfl dX4_copy_14 ?_
          refine j_ireti dX4_copy_16 rfl ?_
          first | exact Or.inl ⟨by omega, rfl, rfl⟩ | exact Or.inr (Or.inr (Or.inr (Or.inr ⟨by omega, by omega, by omega, rfl, rfl⟩))) | exact Or.inr (Or.inl ⟨by omega, by omega, by omega, rfl⟩) | exact Or.inr (Or.inr (Or.inl ⟨by omega, by omega, by omega, by omega, rfl⟩)) | exact Or.inr (Or.inr (Or.inr (Or.inl ⟨by omega, by omega, by omega, by omega, rfl⟩))) | (exfalso; omega)
        · refine j_iload_n 8 rfl rfl dX4_copy_7 ?_
          refine jS1i 11 rfl dX4_copy_8 lk_X4_120 rfl rfl (s_isSheet (by omega)) (fun r8 H1 ⟨eh_, hr8⟩ => ?_)
          obtain rfl := eh_.symm
          refine j_if_ne 17 14 (by decide) rfl dX4_copy_11 (by intro hR; first | omega | exact hR _ _ | exact jb_r _ | exact hR0 _ _ | assumption) (fun h11 => ?_) (fun h11 => ?_)
          · refine j_aload_n 18 rfl rfl dX4_copy_17 ?_
            refine j_getr 21 rfl 7 fl_X4_42 dX4_copy_18 (by decide) ( rfl) ( rfl) ?_
            refine j_iload_n 22 rfl rfl dX4_copy_21 ?_
            refine j_aald 23 rfl dX4_copy_22 (by decide) rfl (by decide) rfl (by omega) (rfl)  ?_
            refine j_astore 25 rfl st_8_6 (by decide) rfl dX4_copy_23 ?_
            refine j_aload_n 26 rfl rfl dX4_copy_25 ?_
            refine j_getr 29 rfl 7 fl_X4_42 dX4_copy_26 (by decide) ( rfl) ( rfl) ?_
            refine j_iload_n 30 rfl rfl dX4_copy_29 ?_
            refine j_aald 31 rfl dX4_copy_30 (by decide) rfl (by decide) rfl (by omega) (rfl)  ?_
            refine j_astore 33 rfl st_8_7 (by decide) rfl dX4_copy_31 ?_
            refine j_aload 35 rfl rfl dX4_copy_33 ?_
            refine g_geti 38 rfl 0 0 rfl fl_X4_123 dX4_copy_35 (by decide) ( rfl) ( rfl) ?_
            refine j_if_ne 49 41 (by decide) rfl dX4_copy_38 (by intro hR; first | omega | exact hR _ _ | exact jb_r _ | exact hR0 _ _ | assumption) (fun h38 => ?_) (fun h38 => ?_)
            · refine j_aload_n 50 rfl rfl dX4_copy_49 ?_
              refine j_iconst 51 rfl dX4_copy_50 ?_
              refine jV1i 54 rfl dX4_copy_51 lk_X4_126 rfl rfl (by decide) ( rfl) ( rfl) (s_finding (by omega)) (fun r51 H1 ⟨e, hr51⟩ => ?_)
              subst e
              refine j_ireti dX4_copy_54 rfl ?_
              first | exact Or.inl ⟨by omega, rfl, rfl⟩ | exact Or.inr (Or.inr (Or.inr (Or.inr ⟨by omega, by omega, by omega, rfl, rfl⟩))) | exact Or.inr (Or.inl ⟨by omega, by omega, by omega, rfl⟩) | exact Or.inr (Or.inr (Or.inl ⟨by omega, by omega, by omega, by omega, rfl⟩)) | exact Or.inr (Or.inr (Or.inr (Or.inl ⟨by omega, by omega, by omega, by omega, rfl⟩))) | (exfalso; omega)
            · refine j_aload 43 rfl rfl dX4_copy_41 ?_
              refine g_geti 46 rfl 0 0 rfl fl_X4_123 dX4_copy_43 (by decide) ( rfl) ( rfl) ?_
              refine j_if_eq 55 49 (by decide) rfl dX4_copy_46 (by intro hR; first | omega | exact hR _ _ | exact jb_r _ | exact hR0 _ _ | assumption) (fun h46 => ?_) (fun h46 => ?_)
              · refine j_aload 57 rfl rfl dX4_copy_55 ?_
                refine g_geti 60 rfl 1 1 rfl fl_X4_235 dX4_copy_57 (by decide) ( rfl) ( rfl) ?_
                refine j_aload 62 rfl rfl dX4_copy_60 ?_
                refine g_geti 65 rfl 1 1 rfl fl_X4_235 dX4_copy_62 (by decide) ( rfl) ( rfl) ?_
                refine j_icmp_eq 74 68 (by decide) rfl dX4_copy_65 (by intro hR; first | omega | exact hR _ _ | exact jb_r _ | exact hR0 _ _ | assumption) (by intro hR; first | omega | exact hR _ _ | exact jb_r _ | exact hR0 _ _ | assumption) (fun h65 => ?_) (fun h65 => ?_)
                · refine j_aload 76 rfl rfl dX4_copy_74 ?_
                  refine j_iload_n 77 rfl rfl dX4_copy_76 ?_
                  refine j_iload 79 rfl rfl dX4_copy_77 ?_
                  refine jV2i 82 rfl dX4_copy_79 lk_X4_238 rfl rfl (by decide) ( rfl) ( rfl) (s_has sh3 hi hn hz) (fun r79 H1 ⟨eh_, hr79⟩ => ?_)
                  obtain rfl := eh_.symm
                  refine j_if_eq 97 85 (by decide) rfl dX4_copy_82 (by intro hR; first | omega | exact hR _ _ | exact jb_r _ | exact hR0 _ _ | assumption) (fun h82 => ?_) (fun h82 => ?_)
                  · refine j_aload_n 98 rfl rfl dX4_copy_97 ?_
                    refine j_iconst 99 rfl dX4_copy_98 ?_
                    refine jV1i 102 rfl dX4_copy_99 lk_X4_126 rfl rfl (by decide) ( rfl) ( rfl) (s_finding (by omega)) (fun r99 H1 ⟨e, hr99⟩ => ?_)
                    subst e
                    refine j_ireti dX4_copy_102 rfl ?_
                    first | exact Or.inl ⟨by omega, rfl, rfl⟩ | exact Or.inr (Or.inr (Or.inr (Or.inr ⟨by omega, by omega, by omega, rfl, rfl⟩))) | exact Or.inr (Or.inl ⟨by omega, by omega, by omega, rfl⟩) | exact Or.inr (Or.inr (Or.inl ⟨by omega, by omega, by omega, by omega, rfl⟩)) | exact Or.inr (Or.inr (Or.inr (Or.inl ⟨by omega, by omega, by omega, by omega, rfl⟩))) | (exfalso; omega)
                  · refine j_aload 87 rfl rfl dX4_copy_85 ?_
                    refine j_iload 89 rfl rfl dX4_copy_87 ?_
                    refine j_iload 91 rfl rfl dX4_copy_89 ?_
                    refine jV2i 94 rfl dX4_copy_91 lk_X4_238 rfl rfl (by decide) ( rfl) ( rfl) (s_has sh3 hj hn hz2) (fun r91 H1 ⟨eh_, hr91⟩ => ?_)
                    obtain rfl := eh_.symm
                    refine j_if_ne 103 97 (by decide) rfl dX4_copy_94 (by intro hR; first | omega | exact hR _ _ | exact jb_r _ | exact hR0 _ _ | assumption) (fun h94 => ?_) (fun h94 => ?_)
                    · refine j_aload 105 rfl rfl dX4_copy_103 ?_
                      refine j_getr 108 rfl 3 fl_X4_130 dX4_copy_105 (by decide) ( rfl) ( rfl) ?_
                      refine j_iload_n 109 rfl rfl dX4_copy_108 ?_
                      refine j_aload 111 rfl rfl dX4_copy_109 ?_
                      refine j_getr 114 rfl 3 fl_X4_130 dX4_copy_111 (by decide) ( rfl) ( rfl) ?_
                      refine j_iload 116 rfl rfl dX4_copy_114 ?_
                      refine j_iload 118 rfl rfl dX4_copy_116 ?_
                      refine j_copy 121 rfl lc_X4_241 dX4_copy_118 (by decide) (by decide) rfl rfl rfl rfl (by decide) (by decide) (by omega) (by omega) (by omega) (by decide) (Nat.le_of_ble_eq_true rfl) ?_
                      refine j_iconst 122 rfl dX4_copy_121 ?_
                      refine j_ireti dX4_copy_122 rfl ?_
                      first | exact Or.inl ⟨by omega, rfl, rfl⟩ | exact Or.inr (Or.inr (Or.inr (Or.inr ⟨by omega, by omega, by omega, rfl, rfl⟩))) | exact Or.inr (Or.inl ⟨by omega, by omega, by omega, rfl⟩) | exact Or.inr (Or.inr (Or.inl ⟨by omega, by omega, by omega, by omega, rfl⟩)) | exact Or.inr (Or.inr (Or.inr (Or.inl ⟨by omega, by omega, by omega, by omega, rfl⟩))) | (exfalso; omega)
                    · refine j_aload_n 98 rfl rfl dX4_copy_97 ?_
                      refine j_iconst 99 rfl dX4_copy_98 ?_
                      refine jV1i 102 rfl dX4_copy_99 lk_X4_126 rfl rfl (by decide) ( rfl) ( rfl) (s_finding (by omega)) (fun r99 H1 ⟨e, hr99⟩ => ?_)
                      subst e
                      refine j_ireti dX4_copy_102 rfl ?_
                      first | exact Or.inl ⟨by omega, rfl, rfl⟩ | exact Or.inr (Or.inr (Or.inr (Or.inr ⟨by omega, by omega, by omega, rfl, rfl⟩))) | exact Or.inr (Or.inl ⟨by omega, by omega, by omega, rfl⟩) | exact Or.inr (Or.inr (Or.inl ⟨by omega, by omega, by omega, by omega, rfl⟩)) | exact Or.inr (Or.inr (Or.inr (Or.inl ⟨by omega, by omega, by omega, by omega, rfl⟩))) | (exfalso; omega)
                · refine j_aload_n 69 rfl rfl dX4_copy_68 ?_
                  refine j_iconst 70 rfl dX4_copy_69 ?_
                  refine jV1i 73 rfl dX4_copy_70 lk_X4_126 rfl rfl (by decide) ( rfl) ( rfl) (s_finding (by omega)) (fun r70 H1 ⟨e, hr70⟩ => ?_)
                  subst e
                  refine j_ireti dX4_copy_73 rfl ?_
                  first | exact Or.inl ⟨by omega, rfl, rfl⟩ | exact Or.inr (Or.inr (Or.inr (Or.inr ⟨by omega, by omega, by omega, rfl, rfl⟩))) | exact Or.inr (Or.inl ⟨by omega, by omega, by omega, rfl⟩) | exact Or.inr (Or.inr (Or.inl ⟨by omega, by omega, by omega, by omega, rfl⟩)) | exact Or.inr (Or.inr (Or.inr (Or.inl ⟨by omega, by omega, by omega, by omega, rfl⟩))) | (exfalso; omega)
              · refine j_aload_n 50 rfl rfl dX4_copy_49 ?_
                refine j_iconst 51 rfl dX4_copy_50 ?_
                refine jV1i 54 rfl dX4_copy_51 lk_X4_126 rfl rfl (by decide) ( rfl) ( rfl) (s_finding (by omega)) (fun r51 H1 ⟨e, hr51⟩ => ?_)
                subst e
                refine j_ireti dX4_copy_54 rfl ?_
                first | exact Or.inl ⟨by omega, rfl, rfl⟩ | exact Or.inr (Or.inr (Or.inr (Or.inr ⟨by omega, by omega, by omega, rfl, rfl⟩))) | exact Or.inr (Or.inl ⟨by omega, by omega, by omega, rfl⟩) | exact Or.inr (Or.inr (Or.inl ⟨by omega, by omega, by omega, by omega, rfl⟩)) | exact Or.inr (Or.inr (Or.inr (Or.inl ⟨by omega, by omega, by omega, by omega, rfl⟩))) | (exfalso; omega)
          · refine j_bipush 16 rfl rfl dX4_copy_14 ?_
            refine j_ireti dX4_copy_16 rfl ?_
            first | exact Or.inl ⟨by omega, rfl, rfl⟩ | exact Or.inr (Or.inr (Or.inr (Or.inr ⟨by omega, by omega, by omega, rfl, rfl⟩))) | exact Or.inr (Or.inl ⟨by omega, by omega, by omega, rfl⟩) | exact Or.inr (Or.inr (Or.inl ⟨by omega, by omega, by omega, by omega, rfl⟩)) | exact Or.inr (Or.inr (Or.inr (Or.inl ⟨by omega, by omega, by omega, by omega, rfl⟩))) | (exfalso; omega)
      · exfalso; omega
    · exfalso; omega
  · refine jOk.rng (fun hR0 => ?_)
    refine jOk.ofe rfl (Nat.le_of_ble_eq_true rfl) (en_aiiiii_8 (E := E)) ?_
    refine j_iload_n 1 rfl rfl dX4_copy_0 ?_
    refine jS1i 4 rfl dX4_copy_1 lk_X4_120 rfl rfl (s_isSheet (by omega)) (fun r1 H1 ⟨eh_, hr1⟩ => ?_)
    obtain rfl := eh_.symm
    refine j_if_eq 14 7 (by decide) rfl dX4_copy_4 (by intro hR; first | omega | exact hR _ _ | exact jb_r _ | exact hR0 _ _ | assumption) (fun h4 => ?_) (fun h4 => ?_)
    · refine j_bipush 16 rfl rfl dX4_copy_14 ?_
      refine j_ireti dX4_copy_16 rfl ?_
      first | exact Or.inl ⟨by omega, rfl, rfl⟩ | exact Or.inr (Or.inr (Or.inr (Or.inr ⟨by omega, by omega, by omega, rfl, rfl⟩))) | exact Or.inr (Or.inl ⟨by omega, by omega, by omega, rfl⟩) | exact Or.inr (Or.inr (Or.inl ⟨by omega, by omega, by omega, by omega, rfl⟩)) | exact Or.inr (Or.inr (Or.inr (Or.inl ⟨by omega, by omega, by omega, by omega, rfl⟩))) | (exfalso; omega)
    · refine j_iload_n 8 rfl rfl dX4_copy_7 ?_
      refine jS1i 11 rfl dX4_copy_8 lk_X4_120 rfl rfl (s_isSheet (by omega)) (fun r8 H1 ⟨eh_, hr8⟩ => ?_)
      obtain rfl := eh_.symm
      refine j_if_ne 17 14 (by decide) rfl dX4_copy_11 (by intro hR; first | omega | exact hR _ _ | exact jb_r _ | exact hR0 _ _ | assumption) (fun h11 => ?_) (fun h11 => ?_)
      · exfalso; omega
      · refine j_bipush 16 rfl rfl dX4_copy_14 ?_
        refine j_ireti dX4_copy_16 rfl ?_
        first | exact Or.inl ⟨by omega, rfl, rfl⟩ | exact Or.inr (Or.inr (Or.inr (Or.inr ⟨by omega, by omega, by omega, rfl, rfl⟩))) | exact Or.inr (Or.inl ⟨by omega, by omega, by omega, rfl⟩) | exact Or.inr (Or.inr (Or.inl ⟨by omega, by omega, by omega, by omega, rfl⟩)) | exact Or.inr (Or.inr (Or.inr (Or.inl ⟨by omega, by omega, by omega, by omega, rfl⟩))) | (exfalso; omega)
end S11
