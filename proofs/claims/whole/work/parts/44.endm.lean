/-! ===== the reference: write, read, digest ===== -/
section S44
variable {E : jE} {H K Hi : jH}
-- X5_write
theorem m_write {w s : Int} (hw : -2147483648 ≤ w ∧ w ≤ 2147483647) (hs : -2147483648 ≤ s ∧ s ≤ 2147483647) (h : RI H) : jOk E mX5_write [jRF E 56, .int (jI w), .int (jI s)] H (jQi fun r H' => (¬ ((w = 0 ∨ w = 1) ∧ 0 ≤ s ∧ s < 4) ∧ r = -2 ∧ H' = H) ∨ (((w = 0 ∨ w = 1) ∧ 0 ≤ s ∧ s < 4) ∧ H 57 s < 0 ∧ r = -11 ∧ H' = jU H 56 4 1) ∨ (((w = 0 ∨ w = 1) ∧ 0 ≤ s ∧ s < 4) ∧ 0 ≤ H 57 s ∧ r = H 58 s ∧ ∃ H1, MZ H H1 ∧ H' = jMr H1 59 (60 * s) (H 58 s) (fun i => jCut (H 57 s) (if w = 0 then pO (cfg H) i else pU (cfg H) i)))) := by
  have hn := h.ok.1
  by_cases hok : (w = 0 ∨ w = 1) ∧ 0 ≤ s ∧ s < 4
  rotate_left
  · refine jOk.rng (fun hR0 => ?_)
    refine jOk.ofe rfl (Nat.le_of_ble_eq_true rfl) (en_aii_4 (E := E)) ?_
    refine j_iload_n 1 rfl rfl dX5_write_0 ?_
    refine jS1i 4 rfl dX5_write_1 lk_X5_186 rfl rfl (m_isTwo (by omega)) (fun r1 H1 ⟨eh_, hr1⟩ => ?_)
    obtain rfl := eh_.symm
    refine j_if_eq 14 7 (by decide) rfl dX5_write_4 (by intro hR; first | omega | exact hR _ _ | exact jb_r _ | exact hR0 _ _ | assumption) (fun h4 => ?_) (fun h4 => ?_)
    · refine j_bipush 16 rfl rfl dX5_write_14 ?_
      refine j_ireti dX5_write_16 rfl ?_
      exact Or.inl ⟨hok, rfl, rfl⟩
    · refine j_iload_n 8 rfl rfl dX5_write_7 ?_
      refine jS1i 11 rfl dX5_write_8 lk_X5_85 rfl rfl (m_isSheet (by omega)) (fun r8 H1 ⟨eh_, hr8⟩ => ?_)
      obtain rfl := eh_.symm
      refine j_if_ne 17 14 (by decide) rfl dX5_write_11 (by intro hR; first | omega | exact hR _ _ | exact jb_r _ | exact hR0 _ _ | assumption) (fun h11 => ?_) (fun h11 => ?_)
      · exfalso; omega
      · refine j_bipush 16 rfl rfl dX5_write_14 ?_
        refine j_ireti dX5_write_16 rfl ?_
        exact Or.inl ⟨hok, rfl, rfl⟩
  have hz := h.2.2.2.2.2.2.2 s hok.2.1 hok.2.2
  refine jOk.rng (fun hR0 => ?_)
  refine jOk.ofe rfl (Nat.le_of_ble_eq_true rfl) (en_aii_4 (E := E)) ?_
  refine j_iload_n 1 rfl rfl dX5_write_0 ?_
  refine jS1i 4 rfl dX5_write_1 lk_X5_186 rfl rfl (m_isTwo (by omega)) (fun r1 H1 ⟨eh_, hr1⟩ => ?_)
  obtain rfl := eh_.symm
  refine j_if_eq 14 7 (by decide) rfl dX5_write_4 (by intro hR; first | omega | exact hR _ _ | exact jb_r _ | exact hR0 _ _ | assumption) (fun h4 => ?_) (fun h4 => ?_)
  · exfalso; omega
  refine j_iload_n 8 rfl rfl dX5_write_7 ?_
  refine jS1i 11 rfl dX5_write_8 lk_X5_85 rfl rfl (m_isSheet (by omega)) (fun r8 H1 ⟨eh_, hr8⟩ => ?_)
  obtain rfl := eh_.symm
  refine j_if_ne 17 14 (by decide) rfl dX5_write_11 (by intro hR; first | omega | exact hR _ _ | exact jb_r _ | exact hR0 _ _ | assumption) (fun h11 => ?_) (fun h11 => ?_)
  rotate_left
  · exfalso; omega
  refine j_aload_n 18 rfl rfl dX5_write_17 ?_
  refine j_getr 21 rfl 0 fl_X5_7 dX5_write_18 (by decide) ( rfl) ( rfl) ?_
  refine j_iload_n 22 rfl rfl dX5_write_21 ?_
  refine j_iald 23 rfl dX5_write_22 (by decide) rfl (by decide) rfl (by omega) ?_
  refine j_if_ge 32 26 (by decide) rfl dX5_write_23 (by intro hR; first | omega | exact hR _ _ | exact jb_r _ | exact hR0 _ _ | assumption) (fun h1 => ?_) (fun h1 => ?_)
  · refine j_aload_n 33 rfl rfl dX5_write_32 ?_
    refine jV0v 36 rfl dX5_write_33 lk_X5_183 rfl rfl (by decide) ( rfl) ( rfl) (m_find h) (fun H1 ⟨mq, fd⟩ => ?_)
    have e57 : H1 57 = H 57 := mq.1 57 (by omega)
    have e58 : H1 58 = H 58 := mq.1 58 (by omega)
    have ar := fd.2.2.2
    rw [mq.same.cfg] at ar
    have loop := jUp 0 (H 58 s) (fun t => jWP E mX5_write (jQi fun r H' => (¬ ((w = 0 ∨ w = 1) ∧ 0 ≤ s ∧ s < 4) ∧ r = -2 ∧ H' = H) ∨ (((w = 0 ∨ w = 1) ∧ 0 ≤ s ∧ s < 4) ∧ H 57 s < 0 ∧ r = -11 ∧ H' = jU H 56 4 1) ∨ (((w = 0 ∨ w = 1) ∧ 0 ≤ s ∧ s < 4) ∧ 0 ≤ H 57 s ∧ r = H 58 s ∧ ∃ H1, MZ H H1 ∧ H' = jMr H1 59 (60 * s) (H 58 s) (fun i => jCut (H 57 s) (if w = 0 then pO (cfg H) i else pU (cfg H) i)))) 38 [some (jRF E 56), some (.int (jI w)), some (.int (jI s)), some (.int (jI t))] [] (jMr H1 59 (60 * s) t (fun i => jCut (H 57 s) (if w = 0 then pO (cfg H) i else pU (cfg H) i)))) ?_ ?_ 0 (by omega) (by omega)
    · rw [jMr_0] at loop
      refine j_iconst 37 rfl dX5_write_36 ?_
      refine j_istore_n 38 rfl st_4_3 (by decide) rfl dX5_write_37 ?_
      exact loop
    · refine j_iload_n 39 rfl rfl dX5_write_38 ?_
      refine j_aload_n 40 rfl rfl dX5_write_39 ?_
      refine j_getr 43 rfl 1 fl_X5_13 dX5_write_40 (by decide) ( rfl) ( rfl) ?_
      refine j_iload_n 44 rfl rfl dX5_write_43 ?_
      refine j_iald 45 rfl dX5_write_44 (by decide) rfl (by decide) rfl (by omega) ?_
      rw [jMr_k (by decide), e58]
      refine j_icmp_ge 93 48 (by decide) rfl dX5_write_45 (by intro hR; first | omega | exact hR _ _ | exact jb_r _ | exact hR0 _ _ | assumption) (by intro hR; first | omega | exact hR _ _ | exact jb_r _ | exact hR0 _ _ | assumption) (fun h2 => ?_) (fun h2 => ?_)
      · refine j_aload_n 94 rfl rfl dX5_write_93 ?_
        refine j_getr 97 rfl 1 fl_X5_13 dX5_write_94 (by decide) ( rfl) ( rfl) ?_
        refine j_iload_n 98 rfl rfl dX5_write_97 ?_
        refine j_iald 99 rfl dX5_write_98 (by decide) rfl (by decide) rfl (by omega) ?_
        rw [jMr_k (by decide), e58]
        refine j_ireti dX5_write_99 rfl ?_
        exact Or.inr (Or.inr ⟨hok, h1, rfl, H1, mq, rfl⟩)
      · exfalso; omega
    · intro t t0 t1 ih
      rw [← jMr_s H1 59 (60 * s) _ t0] at ih
      obtain ⟨a1, a2, _⟩ := ar t t0 (by omega)
      have r1 := pO_r hn t
      have r2 := pU_r hn t
      refine j_iload_n 39 rfl rfl dX5_write_38 ?_
      refine j_aload_n 40 rfl rfl dX5_write_39 ?_
      refine j_getr 43 rfl 1 fl_X5_13 dX5_write_40 (by decide) ( rfl) ( rfl) ?_
      refine j_iload_n 44 rfl rfl dX5_write_43 ?_
      refine j_iald 45 rfl dX5_write_44 (by decide) rfl (by decide) rfl (by omega) ?_
      rw [jMr_k (by decide), e58]
      refine j_icmp_ge 93 48 (by decide) rfl dX5_write_45 (by intro hR; first | omega | exact hR _ _ | exact jb_r _ | exact hR0 _ _ | assumption) (by intro hR; first | omega | exact hR _ _ | exact jb_r _ | exact hR0 _ _ | assumption) (fun h2 => ?_) (fun h2 => ?_)
      · exfalso; omega
      · refine j_aload_n 49 rfl rfl dX5_write_48 ?_
        refine j_getr 52 rfl 2 fl_X5_16 dX5_write_49 (by decide) ( rfl) ( rfl) ?_
        refine j_bipush 54 rfl rfl dX5_write_52 ?_
        refine j_iload_n 55 rfl rfl dX5_write_54 ?_
        refine j_imul 56 rfl dX5_write_55 ?_
        refine j_iload_n 57 rfl rfl dX5_write_56 ?_
        refine j_iadd 58 rfl dX5_write_57 ?_
        refine j_aload_n 59 rfl rfl dX5_write_58 ?_
        refine j_getr 62 rfl 0 fl_X5_7 dX5_write_59 (by decide) ( rfl) ( rfl) ?_
        refine j_iload_n 63 rfl rfl dX5_write_62 ?_
        refine j_iald 64 rfl dX5_write_63 (by decide) rfl (by decide) rfl (by omega) ?_
        rw [jMr_k (by decide), e57]
        have put : ∀ y, y = (if w = 0 then pO (cfg H) t else pU (cfg H) t) → (-2147483648 ≤ y ∧ y ≤ 2147483647) → jWP E mX5_write (jQi fun r H' => (¬ ((w = 0 ∨ w = 1) ∧ 0 ≤ s ∧ s < 4) ∧ r = -2 ∧ H' = H) ∨ (((w = 0 ∨ w = 1) ∧ 0 ≤ s ∧ s < 4) ∧ H 57 s < 0 ∧ r = -11 ∧ H' = jU H 56 4 1) ∨ (((w = 0 ∨ w = 1) ∧ 0 ≤ s ∧ s < 4) ∧ 0 ≤ H 57 s ∧ r = H 58 s ∧ ∃ H1, MZ H H1 ∧ H' = jMr H1 59 (60 * s) (H 58 s) (fun i => jCut (H 57 s) (if w = 0 then pO (cfg H) i else pU (cfg H) i)))) 83 [some (jRF E 56), some (.int (jI w)), some (.int (jI s)), some (.int (jI t))] [.int (jI y), .int (jI (H 57 s)), .int (jI (60 * s + t)), jRF E 59] (jMr H1 59 (60 * s) t (fun i => jCut (H 57 s) (if w = 0 then pO (cfg H) i else pU (cfg H) i))) := by
          intro y hy hyr
          refine jS2i 86 rfl dX5_write_83 lk_X5_99 rfl rfl (m_cut (by omega)) (fun r3 H9 ⟨eh_, hr3⟩ => ?_)
          obtain rfl := eh_.symm
          rw [hr3]
          refine j_iast 87 rfl dX5_write_86 (by decide) rfl (by decide) rfl (by omega) (by intro _; exact jCut_r hyr) ?_
          rw [← hy] at ih
          refine j_iinc 90 rfl rfl st_4_3 (by decide) rfl dX5_write_87 ?_
          refine j_goto 38 (by decide) dX5_write_90 ?_
          exact ih
        refine j_iload_n 65 rfl rfl dX5_write_64 ?_
        refine j_if_ne 77 68 (by decide) rfl dX5_write_65 (by intro hR; first | omega | exact hR _ _ | exact jb_r _ | exact hR0 _ _ | assumption) (fun h3 => ?_) (fun h3 => ?_)
        · refine j_aload_n 78 rfl rfl dX5_write_77 ?_
          refine j_getr 81 rfl 16 fl_X5_40 dX5_write_78 (by decide) ( rfl) ( rfl) ?_
          refine j_iload_n 82 rfl rfl dX5_write_81 ?_
          refine j_iald 83 rfl dX5_write_82 (by decide) rfl (by decide) rfl (by omega) ?_
          rw [jMr_k (by decide), a2]
          exact put _ (by rw [if_neg h3]) (by omega)
        · refine j_aload_n 69 rfl rfl dX5_write_68 ?_
          refine j_getr 72 rfl 15 fl_X5_37 dX5_write_69 (by decide) ( rfl) ( rfl) ?_
          refine j_iload_n 73 rfl rfl dX5_write_72 ?_
          refine j_iald 74 rfl dX5_write_73 (by decide) rfl (by decide) rfl (by omega) ?_
          refine j_goto 83 (by decide) dX5_write_74 ?_
          rw [jMr_k (by decide), a1]
          exact put _ (by rw [if_pos (by omega)]) (by omega)
  · refine j_aload_n 27 rfl rfl dX5_write_26 ?_
    refine j_iconst 28 rfl dX5_write_27 ?_
    refine jV1i 31 rfl dX5_write_28 lk_X5_91 rfl rfl (by decide) ( rfl) ( rfl) (m_finds (by omega)) (fun r1 H1 ⟨e, hr1⟩ => ?_)
    subst e
    refine j_ireti dX5_write_31 rfl ?_
    exact Or.inr (Or.inl ⟨hok, by omega, by omega, rfl⟩)
theorem m_writeL {w s : Int} (hw : -2147483648 ≤ w ∧ w ≤ 2147483647) (hs : -2147483648 ≤ s ∧ s ≤ 2147483647) (hok : (w = 0 ∨ w = 1) ∧ 0 ≤ s ∧ s < 4) (h57 : H 57 s < 0) : jOk E mX5_write [jRF E 56, .int (jI w), .int (jI s)] H (jQi fun r H' => r = -11 ∧ H' = jU H 56 4 1) := by
  refine jOk.rng (fun hR0 => ?_)
  refine jOk.ofe rfl (Nat.le_of_ble_eq_true rfl) (en_aii_4 (E := E)) ?_
  refine j_iload_n 1 rfl rfl dX5_write_0 ?_
  refine jS1i 4 rfl dX5_write_1 lk_X5_186 rfl rfl (m_isTwo (by omega)) (fun r1 H1 ⟨eh_, hr1⟩ => ?_)
  obtain rfl := eh_.symm
  refine j_if_eq 14 7 (by decide) rfl dX5_write_4 (by intro hR; first | omega | exact hR _ _ | exact jb_r _ | exact hR0 _ _ | assumption) (fun h4 => ?_) (fun h4 => ?_)
  · exfalso; omega
  refine j_iload_n 8 rfl rfl dX5_write_7 ?_
  refine jS1i 11 rfl dX5_write_8 lk_X5_85 rfl rfl (m_isSheet (by omega)) (fun r8 H1 ⟨eh_, hr8⟩ => ?_)
  obtain rfl := eh_.symm
  refine j_if_ne 17 14 (by decide) rfl dX5_write_11 (by intro hR; first | omega | exact hR _ _ | exact jb_r _ | exact hR0 _ _ | assumption) (fun h11 => ?_) (fun h11 => ?_)
  rotate_left
  · exfalso; omega
  refine j_aload_n 18 rfl rfl dX5_write_17 ?_
  refine j_getr 21 rfl 0 fl_X5_7 dX5_write_18 (by decide) ( rfl) ( rfl) ?_
  refine j_iload_n 22 rfl rfl dX5_write_21 ?_
  refine j_iald 23 rfl dX5_write_22 (by decide) rfl (by decide) rfl (by omega) ?_
  refine j_if_ge 32 26 (by decide) rfl dX5_write_23 (by intro hR; first | omega | exact hR _ _ | exact jb_r _ | exact hR0 _ _ | assumption) (fun h1 => ?_) (fun h1 => ?_)
  · exfalso; omega
  · refine j_aload_n 27 rfl rfl dX5_write_26 ?_
    refine j_iconst 28 rfl dX5_write_27 ?_
    refine jV1i 31 rfl dX5_write_28 lk_X5_91 rfl rfl (by decide) ( rfl) ( rfl) (m_finds (by omega)) (fun r1 H1 ⟨e, hr1⟩ => ?_)
    subst e
    refine j_ireti dX5_write_31 rfl ?_
    exact ⟨by omega, rfl⟩
-- X5_read
def rdP (H H' : jH) (s r : Int) : Prop := (∀ k, k ≠ 64 → k ≠ 56 → H' k = H k) ∧ (∀ j, j ≠ 12 → H' 56 j = H 56 j) ∧ H' 56 12 = H 56 12 + r ∧ (∀ i, i < 3 * H 56 12 → H' 64 i = H 64 i) ∧ ∀ q, 0 ≤ q → q < r → H' 64 (3 * (H 56 12 + q)) = H 59 (60 * s + 3 * q) ∧ H' 64 (3 * (H 56 12 + q) + 1) = H 59 (60 * s + 3 * q + 1) ∧ H' 64 (3 * (H 56 12 + q) + 2) = H 59 (60 * s + 3 * q + 2)
set_option maxHeartbeats 1000000 in
theorem m_read {s : Int} (hs : -2147483648 ≤ s ∧ s ≤ 2147483647) (hz : mSh H) (h12 : 0 ≤ H 56 12 ∧ H 56 12 ≤ 24) : jOk E mX5_read [jRF E 56, .int (jI s)] H (jQi fun r H' => (¬ (0 ≤ s ∧ s < 4) ∧ r = -2 ∧ H' = H) ∨ ((0 ≤ s ∧ s < 4) ∧ H 57 s < 0 ∧ r = -11 ∧ H' = jU H 56 4 1) ∨ ((0 ≤ s ∧ s < 4) ∧ 0 ≤ H 57 s ∧ isRd (fun q => H 59 (60 * s + q)) (H 58 s) (H 56 12) r ∧ rdP H H' s r)) := by
  by_cases hok : 0 ≤ s ∧ s < 4
  rotate_left
  · refine jOk.rng (fun hR0 => ?_)
    refine jOk.ofe rfl (Nat.le_of_ble_eq_true rfl) (en_ai_5 (E := E)) ?_
    refine j_iload_n 1 rfl rfl dX5_read_0 ?_
    refine jS1i 4 rfl dX5_read_1 lk_X5_85 rfl rfl (m_isSheet (by omega)) (fun r1 H1 ⟨eh_, hr1⟩ => ?_)
    obtain rfl := eh_.symm
    refine j_if_ne 10 7 (by decide) rfl dX5_read_4 (by intro hR; first | omega | exact hR _ _ | exact jb_r _ | exact hR0 _ _ | assumption) (fun h4 => ?_) (fun h4 => ?_)
    · exfalso; omega
    · refine j_bipush 9 rfl rfl dX5_read_7 ?_
      refine j_ireti dX5_read_9 rfl ?_
      exact Or.inl ⟨hok, rfl, rfl⟩
  have hz := hz s hok.1 hok.2
  refine jOk.rng (fun hR0 => ?_)
  refine jOk.ofe rfl (Nat.le_of_ble_eq_true rfl) (en_ai_5 (E := E)) ?_
  refine j_iload_n 1 rfl rfl dX5_read_0 ?_
  refine jS1i 4 rfl dX5_read_1 lk_X5_85 rfl rfl (m_isSheet (by omega)) (fun r1 H1 ⟨eh_, hr1⟩ => ?_)
  obtain rfl := eh_.symm
  refine j_if_ne 10 7 (by decide) rfl dX5_read_4 (by intro hR; first | omega | exact hR _ _ | exact jb_r _ | exact hR0 _ _ | assumption) (fun h4 => ?_) (fun h4 => ?_)
  rotate_left
  · exfalso; omega
  refine j_aload_n 11 rfl rfl dX5_read_10 ?_
  refine j_getr 14 rfl 0 fl_X5_7 dX5_read_11 (by decide) ( rfl) ( rfl) ?_
  refine j_iload_n 15 rfl rfl dX5_read_14 ?_
  refine j_iald 16 rfl dX5_read_15 (by decide) rfl (by decide) rfl (by omega) ?_
  refine j_if_ge 25 19 (by decide) rfl dX5_read_16 (by intro hR; first | omega | exact hR _ _ | exact jb_r _ | exact hR0 _ _ | assumption) (fun h1 => ?_) (fun h1 => ?_)
  rotate_left
  · refine j_aload_n 20 rfl rfl dX5_read_19 ?_
    refine j_iconst 21 rfl dX5_read_20 ?_
    refine jV1i 24 rfl dX5_read_21 lk_X5_91 rfl rfl (by decide) ( rfl) ( rfl) (m_finds (by omega)) (fun r1 H1 ⟨e, hr1⟩ => ?_)
    subst e
    refine j_ireti dX5_read_24 rfl ?_
    exact Or.inr (Or.inl ⟨hok, by omega, by omega, rfl⟩)
  have fin : ∀ Hi n x3 x4, (0 ≤ n ∧ n ≤ 20) → rdP H Hi s n → isRd (fun q => H 59 (60 * s + q)) (H 58 s) (H 56 12) n → jWP E mX5_read (jQi fun r H' => (¬ (0 ≤ s ∧ s < 4) ∧ r = -2 ∧ H' = H) ∨ ((0 ≤ s ∧ s < 4) ∧ H 57 s < 0 ∧ r = -11 ∧ H' = jU H 56 4 1) ∨ ((0 ≤ s ∧ s < 4) ∧ 0 ≤ H 57 s ∧ isRd (fun q => H 59 (60 * s + q)) (H 58 s) (H 56 12) r ∧ rdP H H' s r)) 110 [some (jRF E 56), some (.int (jI s)), some (.int (jI n)), x3, x4] [] Hi := by
    intro Hi n x3 x4 hn g1 g2
    refine j_iload_n 111 rfl rfl dX5_read_110 ?_
    refine j_ireti dX5_read_111 rfl ?_
    exact Or.inr (Or.inr ⟨hok, h1, g2, g1⟩)
  have loop := jUp 0 21 (fun n => ∀ Hi x4, rdP H Hi s n → (∀ q, 0 ≤ q → q < n → 3 * q + 2 < H 58 s ∧ may3 (H 59 (60 * s + 3 * q)) (H 59 (60 * s + (3 * q + 1))) (H 59 (60 * s + (3 * q + 2))) ∧ H 56 12 + q < 24) → jWP E mX5_read (jQi fun r H' => (¬ (0 ≤ s ∧ s < 4) ∧ r = -2 ∧ H' = H) ∨ ((0 ≤ s ∧ s < 4) ∧ H 57 s < 0 ∧ r = -11 ∧ H' = jU H 56 4 1) ∨ ((0 ≤ s ∧ s < 4) ∧ 0 ≤ H 57 s ∧ isRd (fun q => H 59 (60 * s + q)) (H 58 s) (H 56 12) r ∧ rdP H H' s r)) 29 [some (jRF E 56), some (.int (jI s)), some (.int (jI n)), some (.int (jI 1)), x4] [] Hi) ?_ ?_ 0 (by omega) (by omega)
  · refine j_iconst 26 rfl dX5_read_25 ?_
    refine j_istore_n 27 rfl st_5_2 (by decide) rfl dX5_read_26 ?_
    refine j_iconst 28 rfl dX5_read_27 ?_
    refine j_istore_n 29 rfl st_5_3 (by decide) rfl dX5_read_28 ?_
    exact loop H none ⟨fun _ _ _ => rfl, fun _ _ => rfl, by omega, fun _ _ => rfl, fun q q0 q1 => by omega⟩ (fun q q0 q1 => by omega)
  · intro Hi x4 g1 g2
    have := (g2 20 (by omega) (by omega)).1
    exfalso; omega
  · intro n n0 n1 ih Hi x4 g1 g2
    obtain ⟨p1, p2, p3, p4, p5⟩ := g1
    have e58 : Hi 58 = H 58 := p1 58 (by decide) (by decide)
    have e59 : Hi 59 = H 59 := p1 59 (by decide) (by decide)
    refine j_iload_n 30 rfl rfl dX5_read_29 ?_
    refine j_if_eq 110 33 (by decide) rfl dX5_read_30 (by intro _; omega) (fun h2 => by omega) (fun h2 => ?_)
    refine j_iconst 34 rfl dX5_read_33 ?_
    refine j_iload_n 35 rfl rfl dX5_read_34 ?_
    refine j_imul 36 rfl dX5_read_35 ?_
    refine j_iconst 37 rfl dX5_read_36 ?_
    refine j_iadd 38 rfl dX5_read_37 ?_
    refine j_aload_n 39 rfl rfl dX5_read_38 ?_
    refine j_getr 42 rfl 1 fl_X5_13 dX5_read_39 (by decide) ( rfl) ( rfl) ?_
    refine j_iload_n 43 rfl rfl dX5_read_42 ?_
    refine j_iald 44 rfl dX5_read_43 (by decide) rfl (by decide) rfl (by omega) ?_
    rw [e58]
    refine j_icmp_gt 110 47 (by decide) rfl dX5_read_44 (by intro hR; first | omega | exact hR _ _ | exact jb_r _ | exact hR0 _ _ | assumption) (by intro hR; first | omega | exact hR _ _ | exact jb_r _ | exact hR0 _ _ | assumption) (fun h3 => ?_) (fun h3 => ?_)
    · exact fin Hi n _ _ (by omega) ⟨p1, p2, p3, p4, p5⟩ ⟨n0, g2, fun z => by omega⟩
    · have hl : n ≤ 19 := by omega
      refine j_bipush 49 rfl rfl dX5_read_47 ?_
      refine j_iload_n 50 rfl rfl dX5_read_49 ?_
      refine j_imul 51 rfl dX5_read_50 ?_
      refine j_iconst 52 rfl dX5_read_51 ?_
      refine j_iload_n 53 rfl rfl dX5_read_52 ?_
      refine j_imul 54 rfl dX5_read_53 ?_
      refine j_iadd 55 rfl dX5_read_54 ?_
      refine j_istore 57 rfl st_5_4 (by decide) rfl dX5_read_55 ?_
      refine j_aload_n 58 rfl rfl dX5_read_57 ?_
      refine j_aload_n 59 rfl rfl dX5_read_58 ?_
      refine j_getr 62 rfl 2 fl_X5_16 dX5_read_59 (by decide) ( rfl) ( rfl) ?_
      refine j_iload 64 rfl rfl dX5_read_62 ?_
      refine j_iald 65 rfl dX5_read_64 (by decide) rfl (by decide) rfl (by omega) ?_
      rw [e59]
      refine j_aload_n 66 rfl rfl dX5_read_65 ?_
      refine j_getr 69 rfl 2 fl_X5_16 dX5_read_66 (by decide) ( rfl) ( rfl) ?_
      refine j_iload 71 rfl rfl dX5_read_69 ?_
      refine j_iconst 72 rfl dX5_read_71 ?_
      refine j_iadd 73 rfl dX5_read_72 ?_
      refine j_iald 74 rfl dX5_read_73 (by decide) rfl (by decide) rfl (by omega) ?_
      rw [e59]
      refine j_aload_n 75 rfl rfl dX5_read_74 ?_
      refine j_getr 78 rfl 2 fl_X5_16 dX5_read_75 (by decide) ( rfl) ( rfl) ?_
      refine j_iload 80 rfl rfl dX5_read_78 ?_
      refine j_iconst 81 rfl dX5_read_80 ?_
      refine j_iadd 82 rfl dX5_read_81 ?_
      refine j_iald 83 rfl dX5_read_82 (by decide) rfl (by decide) rfl (by omega) ?_
      rw [e59]
      have w0 := hR0 59 (60 * s + 3 * n)
      have w1 := hR0 59 (60 * s + 3 * n + 1)
      have w2 := hR0 59 (60 * s + 3 * n + 2)
      have h12i : 0 ≤ Hi 56 12 ∧ Hi 56 12 ≤ 24 := by
        rw [p3]
        by_cases e : n = 0
        · omega
        · have := (g2 (n - 1) (by omega) (by omega)).2.2; omega
      refine jV3i 86 rfl dX5_read_83 lk_X5_151 rfl rfl (by decide) ( rfl) ( rfl) (m_tell w0 w1 w2 h12i) (fun r1 H2 hr1 => ?_)
      have e1 : 60 * s + (3 * n + 1) = 60 * s + 3 * n + 1 := by omega
      have e2 : 60 * s + (3 * n + 2) = 60 * s + 3 * n + 2 := by omega
      have bad : ∀ x4, ¬ (may3 (H 59 (60 * s + 3 * n)) (H 59 (60 * s + 3 * n + 1)) (H 59 (60 * s + 3 * n + 2)) ∧ H 56 12 + n < 24) → r1 < 0 → -4 ≤ r1 → H2 = Hi → jWP E mX5_read (jQi fun r H' => (¬ (0 ≤ s ∧ s < 4) ∧ r = -2 ∧ H' = H) ∨ ((0 ≤ s ∧ s < 4) ∧ H 57 s < 0 ∧ r = -11 ∧ H' = jU H 56 4 1) ∨ ((0 ≤ s ∧ s < 4) ∧ 0 ≤ H 57 s ∧ isRd (fun q => H 59 (60 * s + q)) (H 58 s) (H 56 12) r ∧ rdP H H' s r)) 86 [some (jRF E 56), some (.int (jI s)), some (.int (jI n)), some (.int (jI 1)), some (.int (jI x4))] [.int (jI r1)] H2 := by
        intro x4 hno hr hr4 he
        subst he
        refine j_if_lt 93 89 (by decide) rfl dX5_read_86 (by intro hR; first | omega | exact hR _ _ | exact jb_r _ | exact hR0 _ _ | assumption) (fun h4 => ?_) (fun h4 => ?_)
        · refine j_iconst 94 rfl dX5_read_93 ?_
          refine j_istore_n 95 rfl st_5_3 (by decide) rfl dX5_read_94 ?_
          refine j_iload_n 96 rfl rfl dX5_read_95 ?_
          refine j_iload_n 97 rfl rfl dX5_read_96 ?_
          refine j_if_eq 104 100 (by decide) rfl dX5_read_97 (by intro _; omega) (fun h5 => ?_) (fun h5 => absurd rfl h5)
          refine j_iconst 105 rfl dX5_read_104 ?_
          refine j_iadd 106 rfl dX5_read_105 ?_
          refine j_istore_n 107 rfl st_5_2 (by decide) rfl dX5_read_106 ?_
          refine j_goto 29 (by decide) dX5_read_107 ?_
          refine j_iload_n 30 rfl rfl dX5_read_29 ?_
          refine j_if_eq 110 33 (by decide) rfl dX5_read_30 (by intro _; omega) (fun h5 => ?_) (fun h5 => absurd rfl h5)
          rw [Int.add_zero]
          refine fin H2 n _ _ (by omega) ⟨p1, p2, p3, p4, p5⟩ ⟨n0, g2, fun z => hno ⟨?_, z.2.2⟩⟩
          have := z.2.1
          dsimp only at this
          rw [e1, e2] at this
          exact this
        · exfalso; omega
      rcases hr1 with ⟨a1, a2, a3⟩ | ⟨a1, a2, a3, a4⟩ | ⟨a1, a2, a3, a4⟩
      · exact bad _ (fun z => a1 z.1) (by omega) (by omega) a3
      · exact bad _ (fun z => by omega) (by omega) (by omega) a4
      · refine j_if_lt 93 89 (by decide) rfl dX5_read_86 (by intro _; omega) (fun h4 => by omega) (fun h4 => ?_)
        refine j_iconst 90 rfl dX5_read_89 ?_
        refine j_goto 94 (by decide) dX5_read_90 ?_
        refine j_istore_n 95 rfl st_5_3 (by decide) rfl dX5_read_94 ?_
        refine j_iload_n 96 rfl rfl dX5_read_95 ?_
        refine j_iload_n 97 rfl rfl dX5_read_96 ?_
        refine j_if_eq 104 100 (by decide) rfl dX5_read_97 (by intro _; omega) (fun h5 => by omega) (fun h5 => ?_)
        refine j_iconst 101 rfl dX5_read_100 ?_
        refine j_goto 105 (by decide) dX5_read_101 ?_
        refine j_iadd 106 rfl dX5_read_105 ?_
        refine j_istore_n 107 rfl st_5_2 (by decide) rfl dX5_read_106 ?_
        refine j_goto 29 (by decide) dX5_read_107 ?_
        subst a4
        refine ih _ _ ⟨fun k x y => by rw [jU_o y, jU_o x, jU_o x, jU_o x]; exact p1 k x y, fun j x => by rw [jU_i x, jU_k (by decide), jU_k (by decide), jU_k (by decide)]; exact p2 j x, by rw [jU_s, p3]; omega, fun i hi => ?_, fun q q0 q1 => ?_⟩ (fun q q0 q1 => ?_)
        · rw [jU_k (by decide), jU_i (by omega), jU_i (by omega), jU_i (by omega)]
          exact p4 i hi
        · rw [p3]
          by_cases e : q = n
          · subst e
            refine ⟨?_, ?_, ?_⟩
            · rw [jU_k (by decide), jU_i (by omega), jU_i (by omega), jU_s]
            · rw [jU_k (by decide), jU_i (by omega), jU_s]
            · rw [jU_k (by decide), jU_s]
          · obtain ⟨v0, v1, v2⟩ := p5 q q0 (by omega)
            refine ⟨?_, ?_, ?_⟩
            · rw [jU_k (by decide), jU_i (by omega), jU_i (by omega), jU_i (by omega)]; exact v0
            · rw [jU_k (by decide), jU_i (by omega), jU_i (by omega), jU_i (by omega)]; exact v1
            · rw [jU_k (by decide), jU_i (by omega), jU_i (by omega), jU_i (by omega)]; exact v2
        · by_cases e : q = n
          · subst e
            rw [e1, e2]
            exact ⟨by omega, a1, by omega⟩
          · exact g2 q q0 (by omega)

-- X5_tellsBox
set_option maxHeartbeats 1000000 in
theorem m_tellsBox {h0 b : Int} (hb : 0 ≤ b ∧ b < H 1 3) (h : FD H) : jOk E mX5_tellsBox [jRF E 56, .long (jL h0), .int (jI b)] H (jQl fun r H' => MZ H H' ∧ FD H' ∧ r = dgB H h0 b) := by
  have hn := h.n
  obtain ⟨q0, q1, q2⟩ := h.2.2.1.2 b hb.1 hb.2
  have fd0 := h
  have mq0 : MZ H H := MZ.refl H
  refine jOk.rng (fun hR0 => ?_)
  refine jOk.ofe rfl (Nat.le_of_ble_eq_true rfl) (en_ali_7 (E := E)) ?_
  refine j_lload_n 1 rfl rfl dX5_tellsBox_0 ?_
  refine j_lstore 3 rfl su_7_4 (by decide) (Nat.le_of_ble_eq_true rfl) rfl dX5_tellsBox_1 ?_
  refine j_iconst 4 rfl dX5_tellsBox_3 ?_
  refine j_istore 6 rfl st_7_6 (by decide) rfl dX5_tellsBox_4 ?_
  refine j_iload 8 rfl rfl dX5_tellsBox_6 ?_
  refine j_iconst 9 rfl dX5_tellsBox_8 ?_
  refine j_icmp_ge 39 12 (by decide) rfl dX5_tellsBox_9 (by intro hR; omega) (by intro hR; omega) (fun hq => absurd hq (by omega)) (fun hq0 => ?_)
  refine j_ldc2 15 rfl kc_X5_280 dX5_tellsBox_12 ?_
  refine j_lload 17 rfl rfl dX5_tellsBox_15 ?_
  refine j_lmul 18 rfl dX5_tellsBox_17 ?_
  refine j_aload_n 19 rfl rfl dX5_tellsBox_18 ?_
  refine j_getr 22 rfl 9 fl_X5_25 dX5_tellsBox_19 (by decide) ( rfl) ( rfl) ?_
  refine j_iconst 23 rfl dX5_tellsBox_22 ?_
  refine j_iload_n 24 rfl rfl dX5_tellsBox_23 ?_
  refine j_imul 25 rfl dX5_tellsBox_24 ?_
  refine j_iload 27 rfl rfl dX5_tellsBox_25 ?_
  refine j_iadd 28 rfl dX5_tellsBox_27 ?_
  refine j_iald 29 rfl dX5_tellsBox_28 (by decide) rfl (by decide) rfl (by omega) ?_
  rw [show H 62 (3 * b + 0) = H 3 b by first | exact q0 | (rw [Int.add_zero]; exact q0)]
  refine k_i2l 30 rfl dX5_tellsBox_29 ?_
  refine j_ladd 31 rfl dX5_tellsBox_30 ?_
  refine j_lstore 33 rfl su_7_4 (by decide) (Nat.le_of_ble_eq_true rfl) rfl dX5_tellsBox_31 ?_
  refine j_iinc 36 rfl rfl st_7_6 (by decide) rfl dX5_tellsBox_33 ?_
  refine j_goto 6 (by decide) dX5_tellsBox_36 ?_
  refine j_iload 8 rfl rfl dX5_tellsBox_6 ?_
  refine j_iconst 9 rfl dX5_tellsBox_8 ?_
  refine j_icmp_ge 39 12 (by decide) rfl dX5_tellsBox_9 (by intro hR; omega) (by intro hR; omega) (fun hq => absurd hq (by omega)) (fun hq1 => ?_)
  refine j_ldc2 15 rfl kc_X5_280 dX5_tellsBox_12 ?_
  refine j_lload 17 rfl rfl dX5_tellsBox_15 ?_
  refine j_lmul 18 rfl dX5_tellsBox_17 ?_
  refine j_aload_n 19 rfl rfl dX5_tellsBox_18 ?_
  refine j_getr 22 rfl 9 fl_X5_25 dX5_tellsBox_19 (by decide) ( rfl) ( rfl) ?_
  refine j_iconst 23 rfl dX5_tellsBox_22 ?_
  refine j_iload_n 24 rfl rfl dX5_tellsBox_23 ?_
  refine j_imul 25 rfl dX5_tellsBox_24 ?_
  refine j_iload 27 rfl rfl dX5_tellsBox_25 ?_
  refine j_iadd 28 rfl dX5_tellsBox_27 ?_
  refine j_iald 29 rfl dX5_tellsBox_28 (by decide) rfl (by decide) rfl (by omega) ?_
  rw [show H 62 (3 * b + (0 + 1)) = H 4 b by first | exact q1 | (rw [Int.add_zero]; exact q0)]
  refine k_i2l 30 rfl dX5_tellsBox_29 ?_
  refine j_ladd 31 rfl dX5_tellsBox_30 ?_
  refine j_lstore 33 rfl su_7_4 (by decide) (Nat.le_of_ble_eq_true rfl) rfl dX5_tellsBox_31 ?_
  refine j_iinc 36 rfl rfl st_7_6 (by decide) rfl dX5_tellsBox_33 ?_
  refine j_goto 6 (by decide) dX5_tellsBox_36 ?_
  refine j_iload 8 rfl rfl dX5_tellsBox_6 ?_
  refine j_iconst 9 rfl dX5_tellsBox_8 ?_
  refine j_icmp_ge 39 12 (by decide) rfl dX5_tellsBox_9 (by intro hR; omega) (by intro hR; omega) (fun hq => absurd hq (by omega)) (fun hq2 => ?_)
  refine j_ldc2 15 rfl kc_X5_280 dX5_tellsBox_12 ?_
  refine j_lload 17 rfl rfl dX5_tellsBox_15 ?_
  refine j_lmul 18 rfl dX5_tellsBox_17 ?_
  refine j_aload_n 19 rfl rfl dX5_tellsBox_18 ?_
  refine j_getr 22 rfl 9 fl_X5_25 dX5_tellsBox_19 (by decide) ( rfl) ( rfl) ?_
  refine j_iconst 23 rfl dX5_tellsBox_22 ?_
  refine j_iload_n 24 rfl rfl dX5_tellsBox_23 ?_
  refine j_imul 25 rfl dX5_tellsBox_24 ?_
  refine j_iload 27 rfl rfl dX5_tellsBox_25 ?_
  refine j_iadd 28 rfl dX5_tellsBox_27 ?_
  refine j_iald 29 rfl dX5_tellsBox_28 (by decide) rfl (by decide) rfl (by omega) ?_
  rw [show H 62 (3 * b + (0 + 1 + 1)) = H 5 b by first | exact q2 | (rw [Int.add_zero]; exact q0)]
  refine k_i2l 30 rfl dX5_tellsBox_29 ?_
  refine j_ladd 31 rfl dX5_tellsBox_30 ?_
  refine j_lstore 33 rfl su_7_4 (by decide) (Nat.le_of_ble_eq_true rfl) rfl dX5_tellsBox_31 ?_
  refine j_iinc 36 rfl rfl st_7_6 (by decide) rfl dX5_tellsBox_33 ?_
  refine j_goto 6 (by decide) dX5_tellsBox_36 ?_
  refine j_iload 8 rfl rfl dX5_tellsBox_6 ?_
  refine j_iconst 9 rfl dX5_tellsBox_8 ?_
  refine j_icmp_ge 39 12 (by decide) rfl dX5_tellsBox_9 (by intro hR; omega) (by intro hR; omega) (fun hq3 => ?_) (fun hq => absurd hq (by omega))
  refine j_ldc2 42 rfl kc_X5_280 dX5_tellsBox_39 ?_
  refine j_lload 44 rfl rfl dX5_tellsBox_42 ?_
  refine j_lmul 45 rfl dX5_tellsBox_44 ?_
  refine j_aload_n 46 rfl rfl dX5_tellsBox_45 ?_
  refine j_iload_n 47 rfl rfl dX5_tellsBox_46 ?_
  refine jV1i 50 rfl dX5_tellsBox_47 lk_X5_195 rfl rfl (by decide) ( rfl) ( rfl) (m_firstOf hb h) (fun v0 H9 ⟨eh_, hv0⟩ => ?_)
  obtain rfl := eh_.symm
  have mq1 := mq0
  have fd1 := fd0
  have hw0 : anFirst H b v0 := by
    exact hv0
  rw [eps_eq (fun _ _ => anFirst_one) hw0]
  refine k_i2l 51 rfl dX5_tellsBox_50 ?_
  refine j_ladd 52 rfl dX5_tellsBox_51 ?_
  refine j_lstore 54 rfl su_7_4 (by decide) (Nat.le_of_ble_eq_true rfl) rfl dX5_tellsBox_52 ?_
  refine j_ldc2 57 rfl kc_X5_280 dX5_tellsBox_54 ?_
  refine j_lload 59 rfl rfl dX5_tellsBox_57 ?_
  refine j_lmul 60 rfl dX5_tellsBox_59 ?_
  refine j_aload_n 61 rfl rfl dX5_tellsBox_60 ?_
  refine j_getr 64 rfl 17 fl_X5_43 dX5_tellsBox_61 (by decide) ( rfl) ( rfl) ?_
  refine j_bipush 66 rfl rfl dX5_tellsBox_64 ?_
  refine j_iload_n 67 rfl rfl dX5_tellsBox_66 ?_
  refine j_iadd 68 rfl dX5_tellsBox_67 ?_
  refine j_iald 69 rfl dX5_tellsBox_68 (by decide) rfl (by decide) rfl (by omega) ?_
  have hsp : anSpring H 9 b (H 68 (81 + b)) := by
    refine Or.inr ⟨by omega, ?_⟩
    have := (h.2.2.2 9 (by omega) (by omega)).2.2 b hb.1 hb.2
    rw [show (9 : Int) * 9 + b = 81 + b by omega] at this
    rw [this, pL_ans h.1.ok.1 hb.1 hb.2 (by omega)]
    rfl
  rw [eps_eq (fun _ _ => anSpring_one) hsp]
  refine k_i2l 70 rfl dX5_tellsBox_69 ?_
  refine j_ladd 71 rfl dX5_tellsBox_70 ?_
  refine j_lstore 73 rfl su_7_4 (by decide) (Nat.le_of_ble_eq_true rfl) rfl dX5_tellsBox_71 ?_
  refine j_ldc2 76 rfl kc_X5_280 dX5_tellsBox_73 ?_
  refine j_lload 78 rfl rfl dX5_tellsBox_76 ?_
  refine j_lmul 79 rfl dX5_tellsBox_78 ?_
  refine j_iload_n 80 rfl rfl dX5_tellsBox_79 ?_
  have put : ∀ y, anTog H b 0 y → jWP E mX5_tellsBox (jQl fun r H' => MZ H H' ∧ FD H' ∧ r = dgB H h0 b) 94 [some (jRF E 56), some (.long (jL h0)), none, some (.int (jI b)), some (.long (jL (31 * (31 * (31 * (31 * (31 * h0 + w32 (H 3 b)) + w32 (H 4 b)) + w32 (H 5 b)) + w32 (Classical.epsilon (anFirst H b))) + w32 (Classical.epsilon (anSpring H 9 b))))), none, some (.int (jI (0 + 1 + 1 + 1)))] [.int (jI y), .long (jL (31 * (31 * (31 * (31 * (31 * (31 * h0 + w32 (H 3 b)) + w32 (H 4 b)) + w32 (H 5 b)) + w32 (Classical.epsilon (anFirst H b))) + w32 (Classical.epsilon (anSpring H 9 b)))))] H := by
    intro y hy
    rw [eps_eq (fun _ _ => anTog_one) hy]
    refine k_i2l 95 rfl dX5_tellsBox_94 ?_
    refine j_ladd 96 rfl dX5_tellsBox_95 ?_
    refine j_lstore 98 rfl su_7_4 (by decide) (Nat.le_of_ble_eq_true rfl) rfl dX5_tellsBox_96 ?_
    refine j_ldc2 101 rfl kc_X5_280 dX5_tellsBox_98 ?_
    refine j_lload 103 rfl rfl dX5_tellsBox_101 ?_
    refine j_lmul 104 rfl dX5_tellsBox_103 ?_
    refine j_aload_n 105 rfl rfl dX5_tellsBox_104 ?_
    refine j_iload_n 106 rfl rfl dX5_tellsBox_105 ?_
    refine j_iconst 107 rfl dX5_tellsBox_106 ?_
    refine j_bipush 109 rfl rfl dX5_tellsBox_107 ?_
    refine jV3i 112 rfl dX5_tellsBox_109 lk_X5_204 rfl rfl (by decide) ( rfl) ( rfl) (m_haveIt (by omega) (by omega) (by omega) h) (fun v1 H9 ⟨eh_, hv1⟩ => ?_)
    obtain rfl := eh_.symm
    have mq2 := mq1
    have fd2 := fd1
    have hw1 : anHears H b 2 v1 := by
      exact Or.inr ⟨by omega, hv1⟩
    rw [eps_eq (fun _ _ => anHears_one) hw1]
    refine k_i2l 113 rfl dX5_tellsBox_112 ?_
    refine j_ladd 114 rfl dX5_tellsBox_113 ?_
    refine j_lstore 116 rfl su_7_4 (by decide) (Nat.le_of_ble_eq_true rfl) rfl dX5_tellsBox_114 ?_
    have e1_2 : H 1 3 = H 1 3 := rfl
    refine j_ldc2 119 rfl kc_X5_280 dX5_tellsBox_116 ?_
    refine j_lload 121 rfl rfl dX5_tellsBox_119 ?_
    refine j_lmul 122 rfl dX5_tellsBox_121 ?_
    refine j_aload_n 123 rfl rfl dX5_tellsBox_122 ?_
    refine j_iload_n 124 rfl rfl dX5_tellsBox_123 ?_
    refine j_iconst 125 rfl dX5_tellsBox_124 ?_
    refine jV2i 128 rfl dX5_tellsBox_125 lk_X5_253 rfl rfl (by decide) ( rfl) ( rfl) (m_learnOf (by omega) (by omega) fd2) (fun v2 Hy2 ⟨cp2, fd3, hv2⟩ => ?_)
    have mq3 : MZ H Hy2 := mq2.trans cp2
    have hw2 : anLearn H b (-1) v2 := by
      have hz : anLearn H b (-1) v2 := by
        rcases hv2 with ⟨a, c⟩ | ⟨a, c⟩ | ⟨a, c⟩
        · exact Or.inr (Or.inl ⟨by omega, a, c⟩)
        · exact Or.inr (Or.inr (Or.inl ⟨by omega, a, c⟩))
        · exact Or.inr (Or.inr (Or.inr ⟨by omega, a, c⟩))
      rw [mq2.same.learn] at hz
      exact hz
    rw [eps_eq (fun _ _ => anLearn_one) hw2]
    refine k_i2l 129 rfl dX5_tellsBox_128 ?_
    refine j_ladd 130 rfl dX5_tellsBox_129 ?_
    refine j_lstore 132 rfl su_7_4 (by decide) (Nat.le_of_ble_eq_true rfl) rfl dX5_tellsBox_130 ?_
    have e1_3 : Hy2 1 3 = H 1 3 := by rw [mq3.1 1 (by omega)]
    refine j_ldc2 135 rfl kc_X5_280 dX5_tellsBox_132 ?_
    refine j_lload 137 rfl rfl dX5_tellsBox_135 ?_
    refine j_lmul 138 rfl dX5_tellsBox_137 ?_
    refine j_aload_n 139 rfl rfl dX5_tellsBox_138 ?_
    refine j_iload_n 140 rfl rfl dX5_tellsBox_139 ?_
    refine j_iconst 141 rfl dX5_tellsBox_140 ?_
    refine jV2i 144 rfl dX5_tellsBox_141 lk_X5_253 rfl rfl (by decide) ( rfl) ( rfl) (m_learnOf (by omega) (by omega) fd3) (fun v3 Hy3 ⟨cp3, fd4, hv3⟩ => ?_)
    have mq4 : MZ H Hy3 := mq3.trans cp3
    have hw3 : anLearn H b (0) v3 := by
      have hz : anLearn Hy2 b (0) v3 := by
        rcases hv3 with ⟨a, c⟩ | ⟨a, c⟩ | ⟨a, c⟩
        · exact Or.inr (Or.inl ⟨by omega, a, c⟩)
        · exact Or.inr (Or.inr (Or.inl ⟨by omega, a, c⟩))
        · exact Or.inr (Or.inr (Or.inr ⟨by omega, a, c⟩))
      rw [mq3.same.learn] at hz
      exact hz
    rw [eps_eq (fun _ _ => anLearn_one) hw3]
    refine k_i2l 145 rfl dX5_tellsBox_144 ?_
    refine j_ladd 146 rfl dX5_tellsBox_145 ?_
    refine j_lstore 148 rfl su_7_4 (by decide) (Nat.le_of_ble_eq_true rfl) rfl dX5_tellsBox_146 ?_
    have e1_4 : Hy3 1 3 = H 1 3 := by rw [mq4.1 1 (by omega)]
    refine j_ldc2 151 rfl kc_X5_280 dX5_tellsBox_148 ?_
    refine j_lload 153 rfl rfl dX5_tellsBox_151 ?_
    refine j_lmul 154 rfl dX5_tellsBox_153 ?_
    refine j_aload_n 155 rfl rfl dX5_tellsBox_154 ?_
    refine j_iconst 156 rfl dX5_tellsBox_155 ?_
    refine j_iload_n 157 rfl rfl dX5_tellsBox_156 ?_
    refine j_iconst 158 rfl dX5_tellsBox_157 ?_
    refine j_iconst 159 rfl dX5_tellsBox_158 ?_
    refine jV4l 162 rfl dX5_tellsBox_159 lk_X5_268 rfl rfl (by decide) ( rfl) ( rfl) (m_looksOf (by omega) (by omega) (by omega) (by omega) fd4) (fun v4 Hy4 ⟨cp4, fd5, hv4⟩ => ?_)
    have mq5 : MZ H Hy4 := mq4.trans cp4
    have hw4 : anLooks H 5 b 4 0 v4 := by
      have hz : anLooks Hy3 5 b 4 0 v4 := Or.inr ⟨by omega, hv4⟩
      rw [mq4.same.looks] at hz
      exact hz
    rw [eps_eq (fun _ _ => anLooks_one) hw4]
    refine j_ladd 163 rfl dX5_tellsBox_162 ?_
    refine j_lstore 165 rfl su_7_4 (by decide) (Nat.le_of_ble_eq_true rfl) rfl dX5_tellsBox_163 ?_
    have e1_5 : Hy4 1 3 = H 1 3 := by rw [mq5.1 1 (by omega)]
    refine j_ldc2 168 rfl kc_X5_280 dX5_tellsBox_165 ?_
    refine j_lload 170 rfl rfl dX5_tellsBox_168 ?_
    refine j_lmul 171 rfl dX5_tellsBox_170 ?_
    refine j_aload_n 172 rfl rfl dX5_tellsBox_171 ?_
    refine j_iconst 173 rfl dX5_tellsBox_172 ?_
    refine j_iload_n 174 rfl rfl dX5_tellsBox_173 ?_
    refine j_iconst 175 rfl dX5_tellsBox_174 ?_
    refine j_iconst 176 rfl dX5_tellsBox_175 ?_
    refine jV4l 179 rfl dX5_tellsBox_176 lk_X5_268 rfl rfl (by decide) ( rfl) ( rfl) (m_looksOf (by omega) (by omega) (by omega) (by omega) fd5) (fun v5 Hy5 ⟨cp5, fd6, hv5⟩ => ?_)
    have mq6 : MZ H Hy5 := mq5.trans cp5
    have hw5 : anLooks H 5 b 4 1 v5 := by
      have hz : anLooks Hy4 5 b 4 1 v5 := Or.inr ⟨by omega, hv5⟩
      rw [mq5.same.looks] at hz
      exact hz
    rw [eps_eq (fun _ _ => anLooks_one) hw5]
    refine j_ladd 180 rfl dX5_tellsBox_179 ?_
    refine j_lretl dX5_tellsBox_180 rfl ?_
    exact ⟨mq6, fd6, rfl⟩
  refine j_if_ne 88 83 (by decide) rfl dX5_tellsBox_80 (by intro hR; first | omega | exact hR _ _ | exact jb_r _ | exact hR0 _ _ | assumption) (fun h1 => ?_) (fun h1 => ?_)
  · refine j_aload_n 89 rfl rfl dX5_tellsBox_88 ?_
    refine j_iload_n 90 rfl rfl dX5_tellsBox_89 ?_
    refine j_iconst 91 rfl dX5_tellsBox_90 ?_
    refine jV2i 94 rfl dX5_tellsBox_91 lk_X5_201 rfl rfl (by decide) ( rfl) ( rfl) (m_togetherOf hb (by omega) h) (fun v9 H9 ⟨eh_, hv9⟩ => ?_)
    obtain rfl := eh_.symm
    exact put v9 (Or.inr ⟨by omega, hv9⟩)
  · refine j_bipush 85 rfl rfl dX5_tellsBox_83 ?_
    refine j_goto 94 (by decide) dX5_tellsBox_85 ?_
    exact put (-2) (Or.inl ⟨by omega, rfl⟩)
-- X5_digest
set_option maxHeartbeats 1000000 in
theorem m_digest4 {x3 x4 : Int} (mq0 : MZ H K) (fd0 : FD K) : jWP E mX5_digest (jQl fun r H' => MZ H H' ∧ FD H' ∧ r = dg3 H) 297 [some (jRF E 56), some (.long (jL (dgSh H (dg2 H) 2))), none, some (.int (jI x3)), some (.int (jI x4))] [] K := by
  refine j_ldc2 300 rfl kc_X5_280 dX5_digest_297 ?_
  refine j_lload_n 301 rfl rfl dX5_digest_300 ?_
  refine j_lmul 302 rfl dX5_digest_301 ?_
  refine j_aload_n 303 rfl rfl dX5_digest_302 ?_
  refine jV0i 306 rfl dX5_digest_303 lk_X5_256 rfl rfl (by decide) ( rfl) ( rfl) (m_emptyNow fd0) (fun v0 Hy0 ⟨cp0, fd1, hv0⟩ => ?_)
  have mq1 : MZ H Hy0 := mq0.trans cp0
  have hw0 : anEmpty H v0 := by
    have hz : anEmpty K  v0 := hv0
    rw [mq0.same.empty] at hz
    exact hz
  rw [eps_eq (fun _ _ => anEmpty_one) hw0]
  refine k_i2l 307 rfl dX5_digest_306 ?_
  refine j_ladd 308 rfl dX5_digest_307 ?_
  refine j_lstore_n 309 rfl su_5_1 (by decide) (Nat.le_of_ble_eq_true rfl) rfl dX5_digest_308 ?_
  refine j_ldc2 312 rfl kc_X5_280 dX5_digest_309 ?_
  refine j_lload_n 313 rfl rfl dX5_digest_312 ?_
  refine j_lmul 314 rfl dX5_digest_313 ?_
  refine j_aload_n 315 rfl rfl dX5_digest_314 ?_
  refine j_iconst 316 rfl dX5_digest_315 ?_
  refine j_iconst 317 rfl dX5_digest_316 ?_
  refine jV2i 320 rfl dX5_digest_317 lk_X5_296 rfl rfl (by decide) ( rfl) ( rfl) (m_turn (by omega) (by omega) fd1.1) (fun v1 Hy1 ⟨cp1, fd2, hv1⟩ => ?_)
  have mq2 : MZ H Hy1 := mq1.trans cp1
  have hw1 : anTurn H 0 4 v1 := by
    have hz : anTurn Hy0 0 4 v1 := hv1
    rw [mq1.same.turn] at hz
    exact hz
  rw [eps_eq (fun _ _ => anTurn_one) hw1]
  refine k_i2l 321 rfl dX5_digest_320 ?_
  refine j_ladd 322 rfl dX5_digest_321 ?_
  refine j_lstore_n 323 rfl su_5_1 (by decide) (Nat.le_of_ble_eq_true rfl) rfl dX5_digest_322 ?_
  refine j_ldc2 326 rfl kc_X5_280 dX5_digest_323 ?_
  refine j_lload_n 327 rfl rfl dX5_digest_326 ?_
  refine j_lmul 328 rfl dX5_digest_327 ?_
  refine j_aload_n 329 rfl rfl dX5_digest_328 ?_
  refine j_bipush 331 rfl rfl dX5_digest_329 ?_
  refine j_bipush 333 rfl rfl dX5_digest_331 ?_
  refine j_iconst 334 rfl dX5_digest_333 ?_
  refine jV3i 337 rfl dX5_digest_334 lk_X5_277 rfl rfl (by decide) ( rfl) ( rfl) (m_nightOf (by omega) (by omega) fd2) (fun v2 Hy2 ⟨cp2, fd3, hv2⟩ => ?_)
  have mq3 : MZ H Hy2 := mq2.trans cp2
  have hw2 : anNight H 7 20 0 v2 := by
    have hz : anNight Hy1 7 20 0 v2 := hv2
    rw [mq2.same.night] at hz
    exact hz
  rw [eps_eq (fun _ _ => anNight_one) hw2]
  refine k_i2l 338 rfl dX5_digest_337 ?_
  refine j_ladd 339 rfl dX5_digest_338 ?_
  refine j_lstore_n 340 rfl su_5_1 (by decide) (Nat.le_of_ble_eq_true rfl) rfl dX5_digest_339 ?_
  refine j_ldc2 343 rfl kc_X5_280 dX5_digest_340 ?_
  refine j_lload_n 344 rfl rfl dX5_digest_343 ?_
  refine j_lmul 345 rfl dX5_digest_344 ?_
  refine j_aload_n 346 rfl rfl dX5_digest_345 ?_
  refine j_bipush 348 rfl rfl dX5_digest_346 ?_
  refine j_bipush 350 rfl rfl dX5_digest_348 ?_
  refine j_iconst 351 rfl dX5_digest_350 ?_
  refine jV3i 354 rfl dX5_digest_351 lk_X5_277 rfl rfl (by decide) ( rfl) ( rfl) (m_nightOf (by omega) (by omega) fd3) (fun v3 Hy3 ⟨cp3, fd4, hv3⟩ => ?_)
  have mq4 : MZ H Hy3 := mq3.trans cp3
  have hw3 : anNight H 7 20 1 v3 := by
    have hz : anNight Hy2 7 20 1 v3 := hv3
    rw [mq3.same.night] at hz
    exact hz
  rw [eps_eq (fun _ _ => anNight_one) hw3]
  refine k_i2l 355 rfl dX5_digest_354 ?_
  refine j_ladd 356 rfl dX5_digest_355 ?_
  refine j_lretl dX5_digest_356 rfl ?_
  exact ⟨mq4, fd4, rfl⟩
set_option maxHeartbeats 1000000 in
theorem m_digest3 {x3 : Int} : ∀ (d : Nat) (x4 : Nat) (K : jH), x4 + d = 2 → MZ H K → FD K → jWP E mX5_digest (jQl fun r H' => MZ H H' ∧ FD H' ∧ r = dg3 H) 253 [some (jRF E 56), some (.long (jL (dgSh H (dg2 H) x4))), none, some (.int (jI x3)), some (.int (jI x4))] [] K
  | 0, x4, K, hd, mq0, fd0 => by
    refine j_iload 255 rfl rfl dX5_digest_253 ?_
    refine j_iconst 256 rfl dX5_digest_255 ?_
    refine j_icmp_ge 297 259 (by decide) rfl dX5_digest_256 (by intro hR; first | omega | exact hR _ _ | exact jb_r _ | exact hR0 _ _ | assumption) (by intro hR; first | omega | exact hR _ _ | exact jb_r _ | exact hR0 _ _ | assumption) (fun h1 => ?_) (fun h1 => ?_)
    · rw [show x4 = 2 by omega]
      exact m_digest4 mq0 fd0
    · exfalso; omega
  | d + 1, x4, K, hd, mq0, fd0 => by
    refine j_iload 255 rfl rfl dX5_digest_253 ?_
    refine j_iconst 256 rfl dX5_digest_255 ?_
    refine j_icmp_ge 297 259 (by decide) rfl dX5_digest_256 (by intro _; omega) (by intro _; omega) (fun h1 => by omega) (fun h1 => ?_)
    refine j_ldc2 262 rfl kc_X5_280 dX5_digest_259 ?_
    refine j_lload_n 263 rfl rfl dX5_digest_262 ?_
    refine j_lmul 264 rfl dX5_digest_263 ?_
    refine j_aload_n 265 rfl rfl dX5_digest_264 ?_
    refine j_iconst 266 rfl dX5_digest_265 ?_
    refine j_iload 268 rfl rfl dX5_digest_266 ?_
    refine j_iconst 269 rfl dX5_digest_268 ?_
    refine jV3i 272 rfl dX5_digest_269 lk_X5_294 rfl rfl (by decide) ( rfl) ( rfl) (m_shelf (by omega) (by omega) (by omega) fd0.1) (fun v0 Hy0 ⟨cp0, fd1, hv0⟩ => ?_)
    have mq1 : MZ H Hy0 := mq0.trans cp0
    have hw0 : anShelf H 3 x4 (-1) v0 := by
      have hz : anShelf K 3 x4 (-1) v0 := hv0
      rw [mq0.same.shelf] at hz
      exact hz
    rw [eps_eq (fun _ _ => anShelf_one) hw0]
    refine k_i2l 273 rfl dX5_digest_272 ?_
    refine j_ladd 274 rfl dX5_digest_273 ?_
    refine j_lstore_n 275 rfl su_5_1 (by decide) (Nat.le_of_ble_eq_true rfl) rfl dX5_digest_274 ?_
    refine j_ldc2 278 rfl kc_X5_280 dX5_digest_275 ?_
    refine j_lload_n 279 rfl rfl dX5_digest_278 ?_
    refine j_lmul 280 rfl dX5_digest_279 ?_
    refine j_aload_n 281 rfl rfl dX5_digest_280 ?_
    refine j_iconst 282 rfl dX5_digest_281 ?_
    refine j_iload 284 rfl rfl dX5_digest_282 ?_
    refine j_iconst 285 rfl dX5_digest_284 ?_
    refine jV3i 288 rfl dX5_digest_285 lk_X5_294 rfl rfl (by decide) ( rfl) ( rfl) (m_shelf (by omega) (by omega) (by omega) fd1.1) (fun v1 Hy1 ⟨cp1, fd2, hv1⟩ => ?_)
    have mq2 : MZ H Hy1 := mq1.trans cp1
    have hw1 : anShelf H 3 x4 0 v1 := by
      have hz : anShelf Hy0 3 x4 0 v1 := hv1
      rw [mq1.same.shelf] at hz
      exact hz
    rw [eps_eq (fun _ _ => anShelf_one) hw1]
    refine k_i2l 289 rfl dX5_digest_288 ?_
    refine j_ladd 290 rfl dX5_digest_289 ?_
    refine j_lstore_n 291 rfl su_5_1 (by decide) (Nat.le_of_ble_eq_true rfl) rfl dX5_digest_290 ?_
    refine j_iinc 294 rfl rfl st_5_4 (by decide) rfl dX5_digest_291 ?_
    refine j_goto 253 (by decide) dX5_digest_294 ?_
    exact m_digest3 d (x4 + 1) Hy1 (by omega) mq2 fd2
set_option maxHeartbeats 1000000 in
theorem m_digest2 {x3 x4 : Int} (mq0 : MZ H K) (fd0 : FD K) : jWP E mX5_digest (jQl fun r H' => MZ H H' ∧ FD H' ∧ r = dg3 H) 164 [some (jRF E 56), some (.long (jL (dg1 H))), none, some (.int (jI x3)), some (.int (jI x4))] [] K := by
  refine j_ldc2 167 rfl kc_X5_280 dX5_digest_164 ?_
  refine j_lload_n 168 rfl rfl dX5_digest_167 ?_
  refine j_lmul 169 rfl dX5_digest_168 ?_
  refine j_aload_n 170 rfl rfl dX5_digest_169 ?_
  refine jV0i 173 rfl dX5_digest_170 lk_X5_189 rfl rfl (by decide) ( rfl) ( rfl) (m_quietNow fd0) (fun v0 H9 ⟨eh_, hv0⟩ => ?_)
  obtain rfl := eh_.symm
  have mq1 := mq0
  have fd1 := fd0
  have hw0 : anQuiet H v0 := by
    have hz : anQuiet K  v0 := hv0
    rw [mq0.same.quiet] at hz
    exact hz
  rw [eps_eq (fun _ _ => anQuiet_one) hw0]
  refine k_i2l 174 rfl dX5_digest_173 ?_
  refine j_ladd 175 rfl dX5_digest_174 ?_
  refine j_lstore_n 176 rfl su_5_1 (by decide) (Nat.le_of_ble_eq_true rfl) rfl dX5_digest_175 ?_
  refine j_ldc2 179 rfl kc_X5_280 dX5_digest_176 ?_
  refine j_lload_n 180 rfl rfl dX5_digest_179 ?_
  refine j_lmul 181 rfl dX5_digest_180 ?_
  refine j_aload_n 182 rfl rfl dX5_digest_181 ?_
  refine j_iconst 183 rfl dX5_digest_182 ?_
  refine jV1i 186 rfl dX5_digest_183 lk_X5_192 rfl rfl (by decide) ( rfl) ( rfl) (m_loudestOf (by omega) fd1) (fun v1 H9 ⟨eh_, hv1⟩ => ?_)
  obtain rfl := eh_.symm
  have mq2 := mq1
  have fd2 := fd1
  have hw1 : anLoud H 0 v1 := by
    have hz : anLoud K 0 v1 := hv1
    rw [mq1.same.loud] at hz
    exact hz
  rw [eps_eq (fun _ _ => anLoud_one) hw1]
  refine k_i2l 187 rfl dX5_digest_186 ?_
  refine j_ladd 188 rfl dX5_digest_187 ?_
  refine j_lstore_n 189 rfl su_5_1 (by decide) (Nat.le_of_ble_eq_true rfl) rfl dX5_digest_188 ?_
  refine j_ldc2 192 rfl kc_X5_280 dX5_digest_189 ?_
  refine j_lload_n 193 rfl rfl dX5_digest_192 ?_
  refine j_lmul 194 rfl dX5_digest_193 ?_
  refine j_aload_n 195 rfl rfl dX5_digest_194 ?_
  refine j_iconst 196 rfl dX5_digest_195 ?_
  refine jV1i 199 rfl dX5_digest_196 lk_X5_192 rfl rfl (by decide) ( rfl) ( rfl) (m_loudestOf (by omega) fd2) (fun v2 H9 ⟨eh_, hv2⟩ => ?_)
  obtain rfl := eh_.symm
  have mq3 := mq2
  have fd3 := fd2
  have hw2 : anLoud H 1 v2 := by
    have hz : anLoud K 1 v2 := hv2
    rw [mq2.same.loud] at hz
    exact hz
  rw [eps_eq (fun _ _ => anLoud_one) hw2]
  refine k_i2l 200 rfl dX5_digest_199 ?_
  refine j_ladd 201 rfl dX5_digest_200 ?_
  refine j_lstore_n 202 rfl su_5_1 (by decide) (Nat.le_of_ble_eq_true rfl) rfl dX5_digest_201 ?_
  refine j_ldc2 205 rfl kc_X5_280 dX5_digest_202 ?_
  refine j_lload_n 206 rfl rfl dX5_digest_205 ?_
  refine j_lmul 207 rfl dX5_digest_206 ?_
  refine j_aload_n 208 rfl rfl dX5_digest_207 ?_
  refine j_iconst 209 rfl dX5_digest_208 ?_
  refine j_iconst 210 rfl dX5_digest_209 ?_
  refine j_iconst 211 rfl dX5_digest_210 ?_
  refine jV3i 214 rfl dX5_digest_211 lk_X5_291 rfl rfl (by decide) ( rfl) ( rfl) (m_news (by omega) (by omega) (by omega) fd3.1) (fun v3 Hy3 ⟨cp3, fd4, hv3⟩ => ?_)
  have mq4 : MZ H Hy3 := mq3.trans cp3
  have hw3 : anNews H 0 0 1 v3 := by
    have hz : anNews K 0 0 1 v3 := hv3
    rw [mq3.same.news] at hz
    exact hz
  rw [eps_eq (fun _ _ => anNews_one) hw3]
  refine k_i2l 215 rfl dX5_digest_214 ?_
  refine j_ladd 216 rfl dX5_digest_215 ?_
  refine j_lstore_n 217 rfl su_5_1 (by decide) (Nat.le_of_ble_eq_true rfl) rfl dX5_digest_216 ?_
  refine j_aload_n 218 rfl rfl dX5_digest_217 ?_
  refine j_bipush 220 rfl rfl dX5_digest_218 ?_
  refine jV1i 223 rfl dX5_digest_220 lk_X5_210 rfl rfl (by decide) ( rfl) ( rfl) (m_hushOf (by omega) fd4) (fun v4 Hy4 ⟨cp4, fd5, hv4⟩ => ?_)
  have mq5 : MZ H Hy4 := mq4.trans cp4
  rw [mq4.same.cfg, mq4.1 0 (by omega)] at hv4
  have hb : -1 ≤ v4 ∧ v4 < 512 := by
    rcases hv4 with ⟨m, a, _, _, e⟩ | ⟨_, e⟩
    · rw [if_neg (by decide)] at e; have := a.1; omega
    · omega
  have tel : ∀ w r, (w = 0 ∨ w = 1) → (((v4 = -1 ∨ w = 1) ∧ r = v4) ∨ ((v4 ≠ -1 ∧ w = 0) ∧ r = oc v4)) → anHush H 9 w r := by
    intro w r hw hr
    refine Or.inr ⟨by omega, ?_⟩
    rcases hv4 with ⟨m, a, b, c, e⟩ | ⟨a, e⟩
    · rw [if_neg (by decide)] at e
      refine Or.inl ⟨m, a, b, c, ?_⟩
      subst e
      have := a.1
      by_cases ew : w = 0
      · rw [if_pos ew]; omega
      · rw [if_neg ew]; omega
    · exact Or.inr ⟨a, by omega⟩
  refine j_istore_n 224 rfl st_5_3 (by decide) rfl dX5_digest_223 ?_
  refine j_ldc2 227 rfl kc_X5_280 dX5_digest_224 ?_
  refine j_lload_n 228 rfl rfl dX5_digest_227 ?_
  refine j_lmul 229 rfl dX5_digest_228 ?_
  refine j_iload_n 230 rfl rfl dX5_digest_229 ?_
  refine j_iconst 231 rfl dX5_digest_230 ?_
  refine jS2i 234 rfl dX5_digest_231 lk_X5_213 rfl rfl (m_tells hb (by omega)) (fun v5 H9 ⟨eh_, hv5⟩ => ?_)
  obtain rfl := eh_.symm
  rw [eps_eq (fun _ _ => anHush_one) (tel 0 v5 (by omega) hv5)]
  refine k_i2l 235 rfl dX5_digest_234 ?_
  refine j_ladd 236 rfl dX5_digest_235 ?_
  refine j_lstore_n 237 rfl su_5_1 (by decide) (Nat.le_of_ble_eq_true rfl) rfl dX5_digest_236 ?_
  refine j_ldc2 240 rfl kc_X5_280 dX5_digest_237 ?_
  refine j_lload_n 241 rfl rfl dX5_digest_240 ?_
  refine j_lmul 242 rfl dX5_digest_241 ?_
  refine j_iload_n 243 rfl rfl dX5_digest_242 ?_
  refine j_iconst 244 rfl dX5_digest_243 ?_
  refine jS2i 247 rfl dX5_digest_244 lk_X5_213 rfl rfl (m_tells hb (by omega)) (fun v6 H9 ⟨eh_, hv6⟩ => ?_)
  obtain rfl := eh_.symm
  rw [eps_eq (fun _ _ => anHush_one) (tel 1 v6 (by omega) hv6)]
  refine k_i2l 248 rfl dX5_digest_247 ?_
  refine j_ladd 249 rfl dX5_digest_248 ?_
  refine j_lstore_n 250 rfl su_5_1 (by decide) (Nat.le_of_ble_eq_true rfl) rfl dX5_digest_249 ?_
  refine j_iconst 251 rfl dX5_digest_250 ?_
  refine j_istore 253 rfl st_5_4 (by decide) rfl dX5_digest_251 ?_
  exact m_digest3 2 0 _ rfl mq5 fd5
set_option maxHeartbeats 1000000 in
theorem m_digest1 {h0 : Int} (hh : dgS (cfg H) h0 5 = dg1 H) (mq0 : MZ H K) (fd0 : FD K) : ∀ (d : Nat) (x3 : Nat) (v4 : Option Value), x3 + d = 5 → jCk [none, none, none, none, v4] 4 = true → (d = 0 → ∃ x4 : Int, v4 = some (.int (jI x4))) → jWP E mX5_digest (jQl fun r H' => MZ H H' ∧ FD H' ∧ r = dg3 H) 100 [some (jRF E 56), some (.long (jL (dgS (cfg H) h0 x3))), none, some (.int (jI x3)), v4] [] K
  | 0, x3, v4, hd, _, hv4 => by
    obtain ⟨x4, rfl⟩ := hv4 rfl
    refine j_iload_n 101 rfl rfl dX5_digest_100 ?_
    refine j_iconst 102 rfl dX5_digest_101 ?_
    refine j_icmp_ge 164 105 (by decide) rfl dX5_digest_102 (by intro hR; first | omega | exact hR _ _ | exact jb_r _ | exact hR0 _ _ | assumption) (by intro hR; first | omega | exact hR _ _ | exact jb_r _ | exact hR0 _ _ | assumption) (fun h1 => ?_) (fun h1 => ?_)
    · rw [show x3 = 5 by omega, hh]
      exact m_digest2 mq0 fd0
    · exfalso; omega
  | d + 1, x3, v4, hd, _, _ => by
    have hdr := jDig_r x3
    have ar := fd0.2.2.2 (jDig x3) hdr.1 hdr.2
    rw [mq0.same.cfg] at ar
    have body : jWP E mX5_digest (jQl fun r H' => MZ H H' ∧ FD H' ∧ r = dg3 H) 126 [some (jRF E 56), some (.long (jL (dgS (cfg H) h0 x3))), none, some (.int (jI x3)), v4] [.int (jI (jDig x3))] K := by
      refine j_istore 128 rfl st_5_4 (by decide) rfl dX5_digest_126 ?_
      refine j_ldc2 131 rfl kc_X5_280 dX5_digest_128 ?_
      refine j_lload_n 132 rfl rfl dX5_digest_131 ?_
      refine j_lmul 133 rfl dX5_digest_132 ?_
      refine j_aload_n 134 rfl rfl dX5_digest_133 ?_
      refine j_getr 137 rfl 15 fl_X5_37 dX5_digest_134 (by decide) ( rfl) ( rfl) ?_
      refine j_iload 139 rfl rfl dX5_digest_137 ?_
      refine j_iald 140 rfl dX5_digest_139 (by decide) rfl (by decide) rfl (by omega) ?_
      rw [ar.1]
      refine k_i2l 141 rfl dX5_digest_140 ?_
      refine j_ladd 142 rfl dX5_digest_141 ?_
      refine j_lstore_n 143 rfl su_5_1 (by decide) (Nat.le_of_ble_eq_true rfl) rfl dX5_digest_142 ?_
      refine j_ldc2 146 rfl kc_X5_280 dX5_digest_143 ?_
      refine j_lload_n 147 rfl rfl dX5_digest_146 ?_
      refine j_lmul 148 rfl dX5_digest_147 ?_
      refine j_aload_n 149 rfl rfl dX5_digest_148 ?_
      refine j_getr 152 rfl 16 fl_X5_40 dX5_digest_149 (by decide) ( rfl) ( rfl) ?_
      refine j_iload 154 rfl rfl dX5_digest_152 ?_
      refine j_iald 155 rfl dX5_digest_154 (by decide) rfl (by decide) rfl (by omega) ?_
      rw [ar.2.1]
      refine k_i2l 156 rfl dX5_digest_155 ?_
      refine j_ladd 157 rfl dX5_digest_156 ?_
      refine j_lstore_n 158 rfl su_5_1 (by decide) (Nat.le_of_ble_eq_true rfl) rfl dX5_digest_157 ?_
      refine j_iinc 161 rfl rfl st_5_3 (by decide) rfl dX5_digest_158 ?_
      refine j_goto 100 (by decide) dX5_digest_161 ?_
      exact m_digest1 hh mq0 fd0 d (x3 + 1) _ (by omega) rfl (fun _ => ⟨_, rfl⟩)
    refine j_iload_n 101 rfl rfl dX5_digest_100 ?_
    refine j_iconst 102 rfl dX5_digest_101 ?_
    refine j_icmp_ge 164 105 (by decide) rfl dX5_digest_102 (by intro hR; first | omega | exact hR _ _ | exact jb_r _ | exact hR0 _ _ | assumption) (by intro hR; first | omega | exact hR _ _ | exact jb_r _ | exact hR0 _ _ | assumption) (fun h1 => ?_) (fun h1 => ?_)
    · exfalso; omega
    · refine j_iload_n 106 rfl rfl dX5_digest_105 ?_
      refine j_iconst 107 rfl dX5_digest_106 ?_
      refine j_icmp_ge 114 110 (by decide) rfl dX5_digest_107 (by intro hR; first | omega | exact hR _ _ | exact jb_r _ | exact hR0 _ _ | assumption) (by intro hR; first | omega | exact hR _ _ | exact jb_r _ | exact hR0 _ _ | assumption) (fun h2 => ?_) (fun h2 => ?_)
      · refine j_iload_n 115 rfl rfl dX5_digest_114 ?_
        refine j_iconst 116 rfl dX5_digest_115 ?_
        refine j_icmp_ne 124 119 (by decide) rfl dX5_digest_116 (by intro hR; first | omega | exact hR _ _ | exact jb_r _ | exact hR0 _ _ | assumption) (by intro hR; first | omega | exact hR _ _ | exact jb_r _ | exact hR0 _ _ | assumption) (fun h3 => ?_) (fun h3 => ?_)
        · refine j_bipush 126 rfl rfl dX5_digest_124 ?_
          rw [show x3 = 4 by omega] at body ⊢
          exact body
        · refine j_bipush 121 rfl rfl dX5_digest_119 ?_
          refine j_goto 126 (by decide) dX5_digest_121 ?_
          rw [show x3 = 3 by omega] at body ⊢
          exact body
      · refine j_iload_n 111 rfl rfl dX5_digest_110 ?_
        refine j_goto 126 (by decide) dX5_digest_111 ?_
        rcases (show x3 = 0 ∨ x3 = 1 ∨ x3 = 2 by omega) with rfl | rfl | rfl
        · exact body
        · exact body
        · exact body
set_option maxHeartbeats 1000000 in
theorem m_digest0 {h0 : Int} (hh : dgBx H h0 (H 1 3).toNat = dgBx H (dgN (H 6) (31 * dgN (fCount H) 17 8 + w32 (H 1 2)) 9) (H 1 3).toNat) : ∀ (d : Nat) (x3 : Nat) (K : jH), (x3 : Int) + d = H 1 3 → MZ H K → FD K → jWP E mX5_digest (jQl fun r H' => MZ H H' ∧ FD H' ∧ r = dg3 H) 77 [some (jRF E 56), some (.long (jL (dgBx H h0 x3))), none, some (.int (jI x3)), none] [] K
  | 0, x3, K, hd, mq0, fd0 => by
    have hn := fd0.n
    have e1 : K 56 8 = H 1 3 := by rw [hn.2.1, mq0.1 1 (by omega)]
    refine j_iload_n 78 rfl rfl dX5_digest_77 ?_
    refine j_aload_n 79 rfl rfl dX5_digest_78 ?_
    refine g_geti 82 rfl 8 8 rfl fl_X5_109 dX5_digest_79 (by decide) ( rfl) ( rfl) ?_
    rw [e1]
    refine j_icmp_ge 98 85 (by decide) rfl dX5_digest_82 (by intro hR; first | omega | exact hR _ _ | exact jb_r _ | exact hR0 _ _ | assumption) (by intro hR; first | omega | exact hR _ _ | exact jb_r _ | exact hR0 _ _ | assumption) (fun h1 => ?_) (fun h1 => ?_)
    · have ex : x3 = (H 1 3).toNat := by omega
      rw [ex, hh]
      refine j_iconst 99 rfl dX5_digest_98 ?_
      refine j_istore_n 100 rfl st_5_3 (by decide) rfl dX5_digest_99 ?_
      exact m_digest1 (h0 := dgBx H (dgN (H 6) (31 * dgN (fCount H) 17 8 + w32 (H 1 2)) 9) (H 1 3).toNat) rfl mq0 fd0 5 0 none rfl rfl (fun z => by omega)
    · exfalso; omega
  | d + 1, x3, K, hd, mq0, fd0 => by
    have hn := fd0.n
    have e13 : K 1 3 = H 1 3 := by rw [mq0.1 1 (by omega)]
    have e1 : K 56 8 = H 1 3 := by rw [hn.2.1, e13]
    refine j_iload_n 78 rfl rfl dX5_digest_77 ?_
    refine j_aload_n 79 rfl rfl dX5_digest_78 ?_
    refine g_geti 82 rfl 8 8 rfl fl_X5_109 dX5_digest_79 (by decide) ( rfl) ( rfl) ?_
    rw [e1]
    refine j_icmp_ge 98 85 (by decide) rfl dX5_digest_82 (by intro hR; first | omega | exact hR _ _ | exact jb_r _ | exact hR0 _ _ | assumption) (by intro hR; first | omega | exact hR _ _ | exact jb_r _ | exact hR0 _ _ | assumption) (fun h1 => ?_) (fun h1 => ?_)
    · exfalso; omega
    · refine j_aload_n 86 rfl rfl dX5_digest_85 ?_
      refine j_lload_n 87 rfl rfl dX5_digest_86 ?_
      refine j_iload_n 88 rfl rfl dX5_digest_87 ?_
      refine jV2l 91 rfl dX5_digest_88 lk_X5_287 rfl rfl (by decide) ( rfl) ( rfl) (m_tellsBox (by omega) fd0) (fun v0 Hy0 ⟨cp0, fd1, hv0⟩ => ?_)
      rw [mq0.same.dgb] at hv0
      rw [hv0]
      refine j_lstore_n 92 rfl su_5_1 (by decide) (Nat.le_of_ble_eq_true rfl) rfl dX5_digest_91 ?_
      refine j_iinc 95 rfl rfl st_5_3 (by decide) rfl dX5_digest_92 ?_
      refine j_goto 77 (by decide) dX5_digest_95 ?_
      exact m_digest0 hh d (x3 + 1) Hy0 (by omega) (mq0.trans cp0) fd1
set_option maxHeartbeats 1000000 in
theorem m_digest (h : RI H) : jOk E mX5_digest [jRF E 56] H (jQl fun r H' => MZ H H' ∧ FD H' ∧ r = dg3 H) := by
  have hn := h.n
  refine jOk.rng (fun hR0 => ?_)
  refine jOk.ofe rfl (Nat.le_of_ble_eq_true rfl) (en_a_5 (E := E)) ?_
  refine j_ldc2 3 rfl kc_X5_282 dX5_digest_0 ?_
  refine j_lstore_n 4 rfl su_5_1 (by decide) (Nat.le_of_ble_eq_true rfl) rfl dX5_digest_3 ?_
  refine j_iconst 5 rfl dX5_digest_4 ?_
  refine j_istore_n 6 rfl st_5_3 (by decide) rfl dX5_digest_5 ?_
  have l2 : ∀ (d : Nat) (x3 : Nat) (K : jH), x3 + d = 9 → MZ H K → FD K → jWP E mX5_digest (jQl fun r H' => MZ H H' ∧ FD H' ∧ r = dg3 H) 49 [some (jRF E 56), some (.long (jL (dgN (H 6) (31 * dgN (fCount H) 17 8 + w32 (H 1 2)) x3))), none, some (.int (jI x3)), none] [] K := by
    intro d
    induction d with
    | zero =>
      intro x3 K hd mq0 fd0
      refine j_iload_n 50 rfl rfl dX5_digest_49 ?_
      refine j_bipush 52 rfl rfl dX5_digest_50 ?_
      refine j_icmp_ge 75 55 (by decide) rfl dX5_digest_52 (by intro hR; first | omega | exact hR _ _ | exact jb_r _ | exact hR0 _ _ | assumption) (by intro hR; first | omega | exact hR _ _ | exact jb_r _ | exact hR0 _ _ | assumption) (fun h1 => ?_) (fun h1 => ?_)
      · rw [show x3 = 9 by omega]
        refine j_iconst 76 rfl dX5_digest_75 ?_
        refine j_istore_n 77 rfl st_5_3 (by decide) rfl dX5_digest_76 ?_
        exact m_digest0 (h0 := dgN (H 6) (31 * dgN (fCount H) 17 8 + w32 (H 1 2)) 9) rfl (H 1 3).toNat 0 K (by omega) mq0 fd0
      · exfalso; omega
    | succ d ih =>
      intro x3 K hd mq0 fd0
      refine j_iload_n 50 rfl rfl dX5_digest_49 ?_
      refine j_bipush 52 rfl rfl dX5_digest_50 ?_
      refine j_icmp_ge 75 55 (by decide) rfl dX5_digest_52 (by intro hR; first | omega | exact hR _ _ | exact jb_r _ | exact hR0 _ _ | assumption) (by intro hR; first | omega | exact hR _ _ | exact jb_r _ | exact hR0 _ _ | assumption) (fun h1 => ?_) (fun h1 => ?_)
      · exfalso; omega
      · refine j_ldc2 58 rfl kc_X5_280 dX5_digest_55 ?_
        refine j_lload_n 59 rfl rfl dX5_digest_58 ?_
        refine j_lmul 60 rfl dX5_digest_59 ?_
        refine j_aload_n 61 rfl rfl dX5_digest_60 ?_
        refine j_getr 64 rfl 10 fl_X5_28 dX5_digest_61 (by decide) ( rfl) ( rfl) ?_
        refine j_iload_n 65 rfl rfl dX5_digest_64 ?_
        refine j_iald 66 rfl dX5_digest_65 (by decide) rfl (by decide) rfl (by omega) ?_
        rw [fd0.1.2.2.1 x3 (by omega) (by omega), mq0.1 6 (by omega)]
        refine k_i2l 67 rfl dX5_digest_66 ?_
        refine j_ladd 68 rfl dX5_digest_67 ?_
        refine j_lstore_n 69 rfl su_5_1 (by decide) (Nat.le_of_ble_eq_true rfl) rfl dX5_digest_68 ?_
        refine j_iinc 72 rfl rfl st_5_3 (by decide) rfl dX5_digest_69 ?_
        refine j_goto 49 (by decide) dX5_digest_72 ?_
        exact ih (x3 + 1) K (by omega) mq0 fd0
  have l1 : ∀ (d : Nat) (x3 : Nat) (K : jH), x3 + d = 8 → MZ H K → RI K → jWP E mX5_digest (jQl fun r H' => MZ H H' ∧ FD H' ∧ r = dg3 H) 6 [some (jRF E 56), some (.long (jL (dgN (fCount H) 17 x3))), none, some (.int (jI x3)), none] [] K := by
    intro d
    induction d with
    | zero =>
      intro x3 K hd mq0 ri0
      refine j_iload_n 7 rfl rfl dX5_digest_6 ?_
      refine j_bipush 9 rfl rfl dX5_digest_7 ?_
      refine j_icmp_ge 31 12 (by decide) rfl dX5_digest_9 (by intro hR; first | omega | exact hR _ _ | exact jb_r _ | exact hR0 _ _ | assumption) (by intro hR; first | omega | exact hR _ _ | exact jb_r _ | exact hR0 _ _ | assumption) (fun h1 => ?_) (fun h1 => ?_)
      · rw [show x3 = 8 by omega]
        refine j_ldc2 34 rfl kc_X5_280 dX5_digest_31 ?_
        refine j_lload_n 35 rfl rfl dX5_digest_34 ?_
        refine j_lmul 36 rfl dX5_digest_35 ?_
        refine j_aload_n 37 rfl rfl dX5_digest_36 ?_
        refine jV0i 40 rfl dX5_digest_37 lk_X5_126 rfl rfl (by decide) ( rfl) ( rfl) (r_reads ri0) (fun r1 H1 ⟨cp1, er1, _⟩ => ?_)
        rw [mq0.1 1 (by omega)] at er1
        rw [er1]
        refine k_i2l 41 rfl dX5_digest_40 ?_
        refine j_ladd 42 rfl dX5_digest_41 ?_
        refine j_lstore_n 43 rfl su_5_1 (by decide) (Nat.le_of_ble_eq_true rfl) rfl dX5_digest_42 ?_
        refine j_aload_n 44 rfl rfl dX5_digest_43 ?_
        have mq1 := mq0.trans cp1
        refine jV0v 47 rfl dX5_digest_44 lk_X5_183 rfl rfl (by decide) ( rfl) ( rfl) (m_find (cp1.ri ri0)) (fun H2 ⟨cp2, fd2⟩ => ?_)
        refine j_iconst 48 rfl dX5_digest_47 ?_
        refine j_istore_n 49 rfl st_5_3 (by decide) rfl dX5_digest_48 ?_
        exact l2 9 0 H2 rfl (mq1.trans cp2) fd2
      · exfalso; omega
    | succ d ih =>
      intro x3 K hd mq0 ri0
      refine j_iload_n 7 rfl rfl dX5_digest_6 ?_
      refine j_bipush 9 rfl rfl dX5_digest_7 ?_
      refine j_icmp_ge 31 12 (by decide) rfl dX5_digest_9 (by intro hR; first | omega | exact hR _ _ | exact jb_r _ | exact hR0 _ _ | assumption) (by intro hR; first | omega | exact hR _ _ | exact jb_r _ | exact hR0 _ _ | assumption) (fun h1 => ?_) (fun h1 => ?_)
      · exfalso; omega
      · refine j_ldc2 15 rfl kc_X5_280 dX5_digest_12 ?_
        refine j_lload_n 16 rfl rfl dX5_digest_15 ?_
        refine j_lmul 17 rfl dX5_digest_16 ?_
        refine j_aload_n 18 rfl rfl dX5_digest_17 ?_
        refine j_iload_n 19 rfl rfl dX5_digest_18 ?_
        refine jV1i 22 rfl dX5_digest_19 lk_X5_284 rfl rfl (by decide) ( rfl) ( rfl) (m_count (by omega) ri0) (fun r1 H1 ⟨cp0, fd1, hr1⟩ => ?_)
        rw [mq0.same.count] at hr1
        rw [hr1]
        refine k_i2l 23 rfl dX5_digest_22 ?_
        refine j_ladd 24 rfl dX5_digest_23 ?_
        refine j_lstore_n 25 rfl su_5_1 (by decide) (Nat.le_of_ble_eq_true rfl) rfl dX5_digest_24 ?_
        refine j_iinc 28 rfl rfl st_5_3 (by decide) rfl dX5_digest_25 ?_
        refine j_goto 6 (by decide) dX5_digest_28 ?_
        exact ih (x3 + 1) H1 (by omega) (mq0.trans cp0) fd1.1
  exact l1 8 0 H rfl (MZ.refl H) h
end S44
