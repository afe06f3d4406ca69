/-! ===== the class's course: load ===== -/
def jRow (H : jH) (k : Nat) : Prop := (∀ p, 0 ≤ p → p < 9 → 0 ≤ H k p ∧ H k p ≤ 8) ∧ (∀ p q, 0 ≤ p → p < 9 → 0 ≤ q → q < 9 → H k p = H k q → p = q)
def jTold (H : jH) : Prop := (0 ≤ H 7 3 ∧ H 7 3 ≤ 24) ∧ ∀ k, 0 ≤ k → k < H 7 3 → (0 ≤ H 8 k ∧ H 8 k < 60) ∧ (0 ≤ H 9 k ∧ H 9 k ≤ 8) ∧ (H 10 k = 0 ∨ H 10 k = 1 ∨ H 10 k = 2)
/-- the course at c is loaded with what is told -/
def cLd (c : Nat) (H H' : jH) (lid : Int) : Prop := (∀ k, k < c ∨ c + 8 < k → H' k = H k) ∧ (∀ i, i ≠ 0 → i ≠ 5 → H' c i = H c i) ∧ H' c 0 = H 1 3 ∧ H' c 5 = lid ∧ (∀ b, 0 ≤ b → b < 9 → H' (c + 1) b = H 3 b ∧ H' (c + 2) b = H 4 b ∧ H' (c + 3) b = H 5 b) ∧ (∀ p, 0 ≤ p → p < 9 → H' (c + 4) (H 6 p) = p) ∧
  (∀ t, 0 ≤ t → t < 60 → H' (c + 6) t = tm (H 8) (H 9) (H 10) 0 t (H 7 3) ∧ H' (c + 7) t = tm (H 8) (H 9) (H 10) 1 t (H 7 3) ∧ H' (c + 8) t = tm (H 8) (H 9) (H 10) 2 t (H 7 3))
section S17
variable {E : jE} {H : jH}
-- X1_load
set_option maxHeartbeats 4000000 in
theorem s_load_22 {lid : Int} (hlid : 0 ≤ lid ∧ lid < 512) (hrow : jRow H 6) (htd : jTold H) : jOk E mX1_load [jRF E 22, jRF E 1, jRF E 6, .int (jI lid), jRF E 7] H (jQv fun H' => cLd 22 H H' lid) := by
  refine jOk.rng (fun hR0 => ?_)
  obtain ⟨hsz, htk⟩ := htd
  refine jOk.rng (fun hR0 => ?_)
  refine jOk.ofe rfl (Nat.le_of_ble_eq_true rfl) (en_aaaia_6 (E := E)) ?_
  refine j_aload_n 1 rfl rfl dX1_load_0 ?_
  refine j_aload_n 2 rfl rfl dX1_load_1 ?_
  refine g_geti 5 rfl 3 3 rfl fl_X1_63 dX1_load_2 (by decide) ( rfl) ( rfl) ?_
  refine g_puti 8 rfl 0 0 rfl fl_X1_9 ft_1_0 dX1_load_5 (by decide) ( rfl) ( rfl) (by intro hR; first | omega | exact hR _ _ | exact jb_r _ | exact hR0 _ _ | assumption) ?_
  refine j_aload_n 9 rfl rfl dX1_load_8 ?_
  refine j_getr 12 rfl 4 fl_X1_66 dX1_load_9 (by decide) ( rfl) ( rfl) ?_
  refine j_iconst 13 rfl dX1_load_12 ?_
  refine j_aload_n 14 rfl rfl dX1_load_13 ?_
  refine j_getr 17 rfl 1 fl_X1_15 dX1_load_14 (by decide) ( rfl) ( rfl) ?_
  refine j_iconst 18 rfl dX1_load_17 ?_
  refine j_bipush 20 rfl rfl dX1_load_18 ?_
  refine j_copy 23 rfl lc_X1_67 dX1_load_20 (by decide) (by decide) rfl rfl rfl rfl (by decide) (by decide) (by omega) (by omega) (by omega) (by decide) (Nat.le_of_ble_eq_true rfl) ?_
  refine j_aload_n 24 rfl rfl dX1_load_23 ?_
  refine j_getr 27 rfl 5 fl_X1_73 dX1_load_24 (by decide) ( rfl) ( rfl) ?_
  refine j_iconst 28 rfl dX1_load_27 ?_
  refine j_aload_n 29 rfl rfl dX1_load_28 ?_
  refine j_getr 32 rfl 2 fl_X1_19 dX1_load_29 (by decide) ( rfl) ( rfl) ?_
  refine j_iconst 33 rfl dX1_load_32 ?_
  refine j_bipush 35 rfl rfl dX1_load_33 ?_
  refine j_copy 38 rfl lc_X1_67 dX1_load_35 (by decide) (by decide) rfl rfl rfl rfl (by decide) (by decide) (by omega) (by omega) (by omega) (by decide) (Nat.le_of_ble_eq_true rfl) ?_
  refine j_aload_n 39 rfl rfl dX1_load_38 ?_
  refine j_getr 42 rfl 6 fl_X1_74 dX1_load_39 (by decide) ( rfl) ( rfl) ?_
  refine j_iconst 43 rfl dX1_load_42 ?_
  refine j_aload_n 44 rfl rfl dX1_load_43 ?_
  refine j_getr 47 rfl 3 fl_X1_22 dX1_load_44 (by decide) ( rfl) ( rfl) ?_
  refine j_iconst 48 rfl dX1_load_47 ?_
  refine j_bipush 50 rfl rfl dX1_load_48 ?_
  refine j_copy 53 rfl lc_X1_67 dX1_load_50 (by decide) (by decide) rfl rfl rfl rfl (by decide) (by decide) (by omega) (by omega) (by omega) (by decide) (Nat.le_of_ble_eq_true rfl) ?_
  refine j_aload_n 54 rfl rfl dX1_load_53 ?_
  refine j_aload_n 55 rfl rfl dX1_load_54 ?_
  refine jV1v 58 rfl dX1_load_55 lk_X1_75 rfl rfl (by decide) ( rfl) ( rfl) (s_putRow_22 (Or.inl rfl) (fun p h0 h1 => by rw [jCpy_k (by decide), jCpy_k (by decide), jCpy_k (by decide), jU_k (by decide)]; exact hrow.1 p h0 h1)) (fun H1 e => ?_)
  subst e
  refine j_aload_n 59 rfl rfl dX1_load_58 ?_
  refine j_iload_n 60 rfl rfl dX1_load_59 ?_
  refine g_puti 63 rfl 5 5 rfl fl_X1_28 ft_1_5 dX1_load_60 (by decide) ( rfl) ( rfl) (by intro hR; first | omega | exact hR _ _ | exact jb_r _ | exact hR0 _ _ | assumption) ?_
  refine j_iconst 64 rfl dX1_load_63 ?_
  refine j_istore 66 rfl st_6_5 (by decide) rfl dX1_load_64 ?_
  refine j_iload 68 rfl rfl dX1_load_66 ?_
  refine j_iconst 69 rfl dX1_load_68 ?_
  refine j_icmp_ge 89 72 (by decide) rfl dX1_load_69 (by intro hR; first | omega | exact hR _ _ | exact jb_r _ | exact hR0 _ _ | assumption) (by intro hR; first | omega | exact hR _ _ | exact jb_r _ | exact hR0 _ _ | assumption) (fun h => ?_) (fun h => ?_)
  · exfalso; omega
  refine j_aload_n 73 rfl rfl dX1_load_72 ?_
  refine j_getr 76 rfl 6 fl_X1_33 dX1_load_73 (by decide) ( rfl) ( rfl) ?_
  refine j_iload 78 rfl rfl dX1_load_76 ?_
  refine j_aald 79 rfl dX1_load_78 (by decide) rfl (by decide) rfl (by omega) (rfl)  ?_
  refine j_iconst 80 rfl dX1_load_79 ?_
  refine jS2v 83 rfl dX1_load_80 lk_X1_79 rfl rfl (s_fill (N := 60) (by decide) rfl (by decide) rfl (by omega)) (fun H1 e => ?_)
  subst e
  refine j_iinc 86 rfl rfl st_6_5 (by decide) rfl dX1_load_83 ?_
  refine j_goto 66 (by decide) dX1_load_86 ?_
  refine j_iload 68 rfl rfl dX1_load_66 ?_
  refine j_iconst 69 rfl dX1_load_68 ?_
  refine j_icmp_ge 89 72 (by decide) rfl dX1_load_69 (by intro hR; first | omega | exact hR _ _ | exact jb_r _ | exact hR0 _ _ | assumption) (by intro hR; first | omega | exact hR _ _ | exact jb_r _ | exact hR0 _ _ | assumption) (fun h => ?_) (fun h => ?_)
  · exfalso; omega
  refine j_aload_n 73 rfl rfl dX1_load_72 ?_
  refine j_getr 76 rfl 6 fl_X1_33 dX1_load_73 (by decide) ( rfl) ( rfl) ?_
  refine j_iload 78 rfl rfl dX1_load_76 ?_
  refine j_aald 79 rfl dX1_load_78 (by decide) rfl (by decide) rfl (by omega) (rfl)  ?_
  refine j_iconst 80 rfl dX1_load_79 ?_
  refine jS2v 83 rfl dX1_load_80 lk_X1_79 rfl rfl (s_fill (N := 60) (by decide) rfl (by decide) rfl (by omega)) (fun H1 e => ?_)
  subst e
  refine j_iinc 86 rfl rfl st_6_5 (by decide) rfl dX1_load_83 ?_
  refine j_goto 66 (by decide) dX1_load_86 ?_
  refine j_iload 68 rfl rfl dX1_load_66 ?_
  refine j_iconst 69 rfl dX1_load_68 ?_
  refine j_icmp_ge 89 72 (by decide) rfl dX1_load_69 (by intro hR; first | omega | exact hR _ _ | exact jb_r _ | exact hR0 _ _ | assumption) (by intro hR; first | omega | exact hR _ _ | exact jb_r _ | exact hR0 _ _ | assumption) (fun h => ?_) (fun h => ?_)
  · exfalso; omega
  refine j_aload_n 73 rfl rfl dX1_load_72 ?_
  refine j_getr 76 rfl 6 fl_X1_33 dX1_load_73 (by decide) ( rfl) ( rfl) ?_
  refine j_iload 78 rfl rfl dX1_load_76 ?_
  refine j_aald 79 rfl dX1_load_78 (by decide) rfl (by decide) rfl (by omega) (rfl)  ?_
  refine j_iconst 80 rfl dX1_load_79 ?_
  refine jS2v 83 rfl dX1_load_80 lk_X1_79 rfl rfl (s_fill (N := 60) (by decide) rfl (by decide) rfl (by omega)) (fun H1 e => ?_)
  subst e
  refine j_iinc 86 rfl rfl st_6_5 (by decide) rfl dX1_load_83 ?_
  refine j_goto 66 (by decide) dX1_load_86 ?_
  refine j_iload 68 rfl rfl dX1_load_66 ?_
  refine j_iconst 69 rfl dX1_load_68 ?_
  refine j_icmp_ge 89 72 (by decide) rfl dX1_load_69 (by intro hR; first | omega | exact hR _ _ | exact jb_r _ | exact hR0 _ _ | assumption) (by intro hR; first | omega | exact hR _ _ | exact jb_r _ | exact hR0 _ _ | assumption) (fun h => ?_) (fun h => ?_)
  rotate_left
  · exfalso; omega
  refine j_iconst 90 rfl dX1_load_89 ?_
  refine j_istore 92 rfl st_6_5 (by decide) rfl dX1_load_90 ?_
  obtain ⟨H5, hH5⟩ : ∃ H5, H5 = jFill (jFill (jFill (jU (pr (jCpy (jCpy (jCpy (jU H 22 0 (H 1 3)) 3 23 0 0 9) 4 24 0 0 9) 5 25 0 0 9) 26 6 9) 22 5 lid) 28 ((60 : Nat) : Int) 0) 29 ((60 : Nat) : Int) 0) 30 ((60 : Nat) : Int) 0 := ⟨_, rfl⟩
  rw [← hH5]
  have f0 : ∀ k, k < 22 ∨ 30 < k → H5 k = H k := fun k hk => by
    rw [hH5, jFill_o (by omega), jFill_o (by omega), jFill_o (by omega), jU_o (by omega), pr_o _ (by omega), jCpy_o (by omega), jCpy_o (by omega), jCpy_o (by omega), jU_o (by omega)]
  have f1 : ∀ i, i ≠ 0 → i ≠ 5 → H5 22 i = H 22 i := fun i a b => by
    rw [hH5, jFill_k (by decide), jFill_k (by decide), jFill_k (by decide), jU_i b, pr_o _ (by decide), jCpy_k (by decide), jCpy_k (by decide), jCpy_k (by decide), jU_i a]
  have f2 : H5 22 0 = H 1 3 := by
    rw [hH5, jFill_k (by decide), jFill_k (by decide), jFill_k (by decide), jU_i (by omega), pr_o _ (by decide), jCpy_k (by decide), jCpy_k (by decide), jCpy_k (by decide), jU_s]
  have f3 : H5 22 5 = lid := by
    rw [hH5, jFill_k (by decide), jFill_k (by decide), jFill_k (by decide), jU_s]
  have f4 : ∀ b, 0 ≤ b → b < 9 → H5 23 b = H 3 b ∧ H5 24 b = H 4 b ∧ H5 25 b = H 5 b := fun b b0 b1 => by
    refine ⟨?_, ?_, ?_⟩
    · rw [hH5, jFill_k (by decide), jFill_k (by decide), jFill_k (by decide), jU_k (by decide), pr_o _ (by decide), jCpy_k (by decide), jCpy_k (by decide), jCpy_i (by omega) (by omega), jU_k (by decide), show (0 : Int) + (b - 0) = b by omega]
    · rw [hH5, jFill_k (by decide), jFill_k (by decide), jFill_k (by decide), jU_k (by decide), pr_o _ (by decide), jCpy_k (by decide), jCpy_i (by omega) (by omega), jCpy_k (by decide), jU_k (by decide), show (0 : Int) + (b - 0) = b by omega]
    · rw [hH5, jFill_k (by decide), jFill_k (by decide), jFill_k (by decide), jU_k (by decide), pr_o _ (by decide), jCpy_i (by omega) (by omega), jCpy_k (by decide), jCpy_k (by decide), jU_k (by decide), show (0 : Int) + (b - 0) = b by omega]
  have f5 : ∀ p, 0 ≤ p → p < 9 → H5 26 (H 6 p) = p := fun p p0 p1 => by
    obtain ⟨X, hX⟩ : ∃ X, X = jCpy (jCpy (jCpy (jU H 22 0 (H 1 3)) 3 23 0 0 9) 4 24 0 0 9) 5 25 0 0 9 := ⟨_, rfl⟩
    have e6 : ∀ q, X 6 q = H 6 q := fun q => by rw [hX, jCpy_k (by decide), jCpy_k (by decide), jCpy_k (by decide), jU_k (by decide)]
    rw [hH5, ← hX, jFill_k (by decide), jFill_k (by decide), jFill_k (by decide), jU_k (by decide)]
    have := pr_p X (k := 26) (rk := 6) (fun a b a0 a1 b0 b1 e => hrow.2 a b a0 a1 b0 b1 (by rw [← e6, ← e6]; exact e)) 9 (by omega) p p0 (by omega)
    rw [e6] at this
    exact this
  have f6 : ∀ t, 0 ≤ t → t < 60 → H5 28 t = 0 ∧ H5 29 t = 0 ∧ H5 30 t = 0 := fun t t0 t1 => by
    refine ⟨?_, ?_, ?_⟩
    · rw [hH5, jFill_k (by decide), jFill_k (by decide), jFill_i t0 (by omega)]
    · rw [hH5, jFill_k (by decide), jFill_i t0 (by omega)]
    · rw [hH5, jFill_i t0 (by omega)]
  have loop := jUp 0 (H 7 3) (fun i => ∀ Hi, ((∀ k, k ≠ 28 → k ≠ 29 → k ≠ 30 → Hi k = H5 k) ∧ (∀ t, 0 ≤ t → t < 60 → Hi 28 t = tm (H 8) (H 9) (H 10) 0 t i ∧ Hi 29 t = tm (H 8) (H 9) (H 10) 1 t i ∧ Hi 30 t = tm (H 8) (H 9) (H 10) 2 t i)) → jWP E mX1_load (jQv fun H' => cLd 22 H H' lid) 92 [some (jRF E 22), some (jRF E 1), some (jRF E 6), some (.int (jI lid)), some (jRF E 7), some (.int (jI i))] [] Hi) ?_ ?_ 0 (by omega) (by omega)
  · refine loop H5 ⟨fun _ _ _ _ => rfl, fun t t0 t1 => ?_⟩
    rw [tm_0, tm_0, tm_0]
    exact f6 t t0 t1
  · rintro Hi ⟨g1, g2⟩
    refine j_iload 94 rfl rfl dX1_load_92 ?_
    refine j_aload 96 rfl rfl dX1_load_94 ?_
    refine g_geti 99 rfl 3 3 rfl fl_X1_85 dX1_load_96 (by decide) ( rfl) ( rfl) ?_
    rw [g1 7 (by decide) (by decide) (by decide), f0 7 (by decide)]
    refine j_icmp_ge 143 102 (by decide) rfl dX1_load_99 (by intro hR; first | omega | exact hR _ _ | exact jb_r _ | exact hR0 _ _ | assumption) (by intro hR; first | omega | exact hR _ _ | exact jb_r _ | exact hR0 _ _ | assumption) (fun h => ?_) (fun h => ?_)
    · refine j_vretv dX1_load_143 rfl ?_
      refine ⟨fun k hk => ?_, fun i a b => ?_, ?_, ?_, fun b b0 b1 => ?_, fun p p0 p1 => ?_, g2⟩
      · rw [g1 k (by omega) (by omega) (by omega)]
        exact f0 k hk
      · rw [g1 22 (by decide) (by decide) (by decide)]
        exact f1 i a b
      · rw [g1 22 (by decide) (by decide) (by decide)]
        exact f2
      · rw [g1 22 (by decide) (by decide) (by decide)]
        exact f3
      · show Hi 23 b = _ ∧ Hi 24 b = _ ∧ Hi 25 b = _
        rw [g1 23 (by decide) (by decide) (by decide), g1 24 (by decide) (by decide) (by decide), g1 25 (by decide) (by decide) (by decide)]
        exact f4 b b0 b1
      · show Hi 26 _ = _
        rw [g1 26 (by decide) (by decide) (by decide)]
        exact f5 p p0 p1
    · exfalso; omega
  · rintro i h0 h1 ih Hi ⟨g1, g2⟩
    obtain ⟨t1, t2, t3⟩ := htk i h0 h1
    have e7 : Hi 7 = H 7 := (g1 7 (by decide) (by decide) (by decide)).trans (f0 7 (by decide))
    have e8 : Hi 8 = H 8 := (g1 8 (by decide) (by decide) (by decide)).trans (f0 8 (by decide))
    have e9 : Hi 9 = H 9 := (g1 9 (by decide) (by decide) (by decide)).trans (f0 9 (by decide))
    have e10 : Hi 10 = H 10 := (g1 10 (by decide) (by decide) (by decide)).trans (f0 10 (by decide))
    refine j_iload 94 rfl rfl dX1_load_92 ?_
    refine j_aload 96 rfl rfl dX1_load_94 ?_
    refine g_geti 99 rfl 3 3 rfl fl_X1_85 dX1_load_96 (by decide) ( rfl) ( rfl) ?_
    rw [e7]
    refine j_icmp_ge 143 102 (by decide) rfl dX1_load_99 (by intro hR; first | omega | exact hR _ _ | exact jb_r _ | exact hR0 _ _ | assumption) (by intro hR; first | omega | exact hR _ _ | exact jb_r _ | exact hR0 _ _ | assumption) (fun h => ?_) (fun h => ?_)
    · exfalso; omega
    · refine j_aload_n 103 rfl rfl dX1_load_102 ?_
      refine j_getr 106 rfl 6 fl_X1_33 dX1_load_103 (by decide) ( rfl) ( rfl) ?_
      refine j_aload 108 rfl rfl dX1_load_106 ?_
      refine j_getr 111 rfl 2 fl_X1_90 dX1_load_108 (by decide) ( rfl) ( rfl) ?_
      refine j_iload 113 rfl rfl dX1_load_111 ?_
      refine j_iald 114 rfl dX1_load_113 (by decide) rfl (by decide) rfl (by omega) ?_
      rw [e10]
      rcases t3 with ha | ha | ha
      · rw [ha]
        refine j_aald 115 rfl dX1_load_114 (by decide) rfl (by decide) rfl (by omega) (rfl)  ?_
        refine j_aload 117 rfl rfl dX1_load_115 ?_
        refine j_getr 120 rfl 0 fl_X1_92 dX1_load_117 (by decide) ( rfl) ( rfl) ?_
        refine j_iload 122 rfl rfl dX1_load_120 ?_
        refine j_iald 123 rfl dX1_load_122 (by decide) rfl (by decide) rfl (by omega) ?_
        rw [e8]
        refine j_dup2 124 rfl rfl rfl dX1_load_123 ?_
        refine j_iald 125 rfl dX1_load_124 (by decide) rfl (by decide) rfl (by omega) ?_
        refine j_iconst 126 rfl dX1_load_125 ?_
        refine j_aload 128 rfl rfl dX1_load_126 ?_
        refine j_getr 131 rfl 1 fl_X1_95 dX1_load_128 (by decide) ( rfl) ( rfl) ?_
        refine j_iload 133 rfl rfl dX1_load_131 ?_
        refine j_iald 134 rfl dX1_load_133 (by decide) rfl (by decide) rfl (by omega) ?_
        rw [e9]
        refine k_ishl 135 rfl dX1_load_134 ?_
        refine k_ior 136 rfl dX1_load_135 ?_
        refine j_iast 137 rfl dX1_load_136 (by decide) rfl (by decide) rfl (by omega) (by intro hR; exact jb_r _) ?_
        refine j_iinc 140 rfl rfl st_6_5 (by decide) rfl dX1_load_137 ?_
        refine j_goto 92 (by decide) dX1_load_140 ?_
        refine ih _ ⟨fun k a b d => ?_, fun t q0 q1 => ?_⟩
        · rw [jU_o (by omega)]
          exact g1 k a b d
        · rw [tm_s _ _ _ _ _ h0, tm_s _ _ _ _ _ h0, tm_s _ _ _ _ _ h0, ha, jU_k (a := 29) (by decide), jU_k (a := 30) (by decide)]
          obtain ⟨p1, p2, p3⟩ := g2 t q0 q1
          refine ⟨?_, ?_, ?_⟩
          · by_cases ht : t = H 8 i
            · subst ht
              rw [jU_s, if_pos ⟨rfl, rfl⟩, p1]
            · rw [jU_i ht, if_neg (fun q => ht q.2.symm), p1]
          · rw [if_neg (fun q => by omega), p2]
          · rw [if_neg (fun q => by omega), p3]
      · rw [ha]
        refine j_aald 115 rfl dX1_load_114 (by decide) rfl (by decide) rfl (by omega) (rfl)  ?_
        refine j_aload 117 rfl rfl dX1_load_115 ?_
        refine j_getr 120 rfl 0 fl_X1_92 dX1_load_117 (by decide) ( rfl) ( rfl) ?_
        refine j_iload 122 rfl rfl dX1_load_120 ?_
        refine j_iald 123 rfl dX1_load_122 (by decide) rfl (by decide) rfl (by omega) ?_
        rw [e8]
        refine j_dup2 124 rfl rfl rfl dX1_load_123 ?_
        refine j_iald 125 rfl dX1_load_124 (by decide) rfl (by decide) rfl (by omega) ?_
        refine j_iconst 126 rfl dX1_load_125 ?_
        refine j_aload 128 rfl rfl dX1_load_126 ?_
        refine j_getr 131 rfl 1 fl_X1_95 dX1_load_128 (by decide) ( rfl) ( rfl) ?_
        refine j_iload 133 rfl rfl dX1_load_131 ?_
        refine j_iald 134 rfl dX1_load_133 (by decide) rfl (by decide) rfl (by omega) ?_
        rw [e9]
        refine k_ishl 135 rfl dX1_load_134 ?_
        refine k_ior 136 rfl dX1_load_135 ?_
        refine j_iast 137 rfl dX1_load_136 (by decide) rfl (by decide) rfl (by omega) (by intro hR; exact jb_r _) ?_
        refine j_iinc 140 rfl rfl st_6_5 (by decide) rfl dX1_load_137 ?_
        refine j_goto 92 (by decide) dX1_load_140 ?_
        refine ih _ ⟨fun k a b d => ?_, fun t q0 q1 => ?_⟩
        · rw [jU_o (by omega)]
          exact g1 k a b d
        · rw [tm_s _ _ _ _ _ h0, tm_s _ _ _ _ _ h0, tm_s _ _ _ _ _ h0, ha, jU_k (a := 28) (by decide), jU_k (a := 30) (by decide)]
          obtain ⟨p1, p2, p3⟩ := g2 t q0 q1
          refine ⟨?_, ?_, ?_⟩
          · rw [if_neg (fun q => by omega), p1]
          · by_cases ht : t = H 8 i
            · subst ht
              rw [jU_s, if_pos ⟨rfl, rfl⟩, p2]
            · rw [jU_i ht, if_neg (fun q => ht q.2.symm), p2]
          · rw [if_neg (fun q => by omega), p3]
      · rw [ha]
        refine j_aald 115 rfl dX1_load_114 (by decide) rfl (by decide) rfl (by omega) (rfl)  ?_
        refine j_aload 117 rfl rfl dX1_load_115 ?_
        refine j_getr 120 rfl 0 fl_X1_92 dX1_load_117 (by decide) ( rfl) ( rfl) ?_
        refine j_iload 122 rfl rfl dX1_load_120 ?_
        refine j_iald 123 rfl dX1_load_122 (by decide) rfl (by decide) rfl (by omega) ?_
        rw [e8]
        refine j_dup2 124 rfl rfl rfl dX1_load_123 ?_
        refine j_iald 125 rfl dX1_load_124 (by decide) rfl (by decide) rfl (by omega) ?_
        refine j_iconst 126 rfl dX1_load_125 ?_
        refine j_aload 128 rfl rfl dX1_load_126 ?_
        refine j_getr 131 rfl 1 fl_X1_95 dX1_load_128 (by decide) ( rfl) ( rfl) ?_
        refine j_iload 133 rfl rfl dX1_load_131 ?_
        refine j_iald 134 rfl dX1_load_133 (by decide) rfl (by decide) rfl (by omega) ?_
        rw [e9]
        refine k_ishl 135 rfl dX1_load_134 ?_
        refine k_ior 136 rfl dX1_load_135 ?_
        refine j_iast 137 rfl dX1_load_136 (by decide) rfl (by decide) rfl (by omega) (by intro hR; exact jb_r _) ?_
        refine j_iinc 140 rfl rfl st_6_5 (by decide) rfl dX1_load_137 ?_
        refine j_goto 92 (by decide) dX1_load_140 ?_
        refine ih _ ⟨fun k a b d => ?_, fun t q0 q1 => ?_⟩
        · rw [jU_o (by omega)]
          exact g1 k a b d
        · rw [tm_s _ _ _ _ _ h0, tm_s _ _ _ _ _ h0, tm_s _ _ _ _ _ h0, ha, jU_k (a := 28) (by decide), jU_k (a := 29) (by decide)]
          obtain ⟨p1, p2, p3⟩ := g2 t q0 q1
          refine ⟨?_, ?_, ?_⟩
          · rw [if_neg (fun q => by omega), p1]
          · rw [if_neg (fun q => by omega), p2]
          · by_cases ht : t = H 8 i
            · subst ht
              rw [jU_s, if_pos ⟨rfl, rfl⟩, p3]
            · rw [jU_i ht, if_neg (fun q => ht q.2.symm), p3]
-- X1_load
set_option maxHeartbeats 4000000 in
theorem s_load_37 {lid : Int} (hlid : 0 ≤ lid ∧ lid < 512) (hrow : jRow H 6) (htd : jTold H) : jOk E mX1_load [jRF E 37, jRF E 1, jRF E 6, .int (jI lid), jRF E 7] H (jQv fun H' => cLd 37 H H' lid) := by
  refine jOk.rng (fun hR0 => ?_)
  obtain ⟨hsz, htk⟩ := htd
  refine jOk.rng (fun hR0 => ?_)
  refine jOk.ofe rfl (Nat.le_of_ble_eq_true rfl) (en_aaaia_6 (E := E)) ?_
  refine j_aload_n 1 rfl rfl dX1_load_0 ?_
  refine j_aload_n 2 rfl rfl dX1_load_1 ?_
  refine g_geti 5 rfl 3 3 rfl fl_X1_63 dX1_load_2 (by decide) ( rfl) ( rfl) ?_
  refine g_puti 8 rfl 0 0 rfl fl_X1_9 ft_1_0 dX1_load_5 (by decide) ( rfl) ( rfl) (by intro hR; first | omega | exact hR _ _ | exact jb_r _ | exact hR0 _ _ | assumption) ?_
  refine j_aload_n 9 rfl rfl dX1_load_8 ?_
  refine j_getr 12 rfl 4 fl_X1_66 dX1_load_9 (by decide) ( rfl) ( rfl) ?_
  refine j_iconst 13 rfl dX1_load_12 ?_
  refine j_aload_n 14 rfl rfl dX1_load_13 ?_
  refine j_getr 17 rfl 1 fl_X1_15 dX1_load_14 (by decide) ( rfl) ( rfl) ?_
  refine j_iconst 18 rfl dX1_load_17 ?_
  refine j_bipush 20 rfl rfl dX1_load_18 ?_
  refine j_copy 23 rfl lc_X1_67 dX1_load_20 (by decide) (by decide) rfl rfl rfl rfl (by decide) (by decide) (by omega) (by omega) (by omega) (by decide) (Nat.le_of_ble_eq_true rfl) ?_
  refine j_aload_n 24 rfl rfl dX1_load_23 ?_
  refine j_getr 27 rfl 5 fl_X1_73 dX1_load_24 (by decide) ( rfl) ( rfl) ?_
  refine j_iconst 28 rfl dX1_load_27 ?_
  refine j_aload_n 29 rfl rfl dX1_load_28 ?_
  refine j_getr 32 rfl 2 fl_X1_19 dX1_load_29 (by decide) ( rfl) ( rfl) ?_
  refine j_iconst 33 rfl dX1_load_32 ?_
  refine j_bipush 35 rfl rfl dX1_load_33 ?_
  refine j_copy 38 rfl lc_X1_67 dX1_load_35 (by decide) (by decide) rfl rfl rfl rfl (by decide) (by decide) (by omega) (by omega) (by omega) (by decide) (Nat.le_of_ble_eq_true rfl) ?_
  refine j_aload_n 39 rfl rfl dX1_load_38 ?_
  refine j_getr 42 rfl 6 fl_X1_74 dX1_load_39 (by decide) ( rfl) ( rfl) ?_
  refine j_iconst 43 rfl dX1_load_42 ?_
  refine j_aload_n 44 rfl rfl dX1_load_43 ?_
  refine j_getr 47 rfl 3 fl_X1_22 dX1_load_44 (by decide) ( rfl) ( rfl) ?_
  refine j_iconst 48 rfl dX1_load_47 ?_
  refine j_bipush 50 rfl rfl dX1_load_48 ?_
  refine j_copy 53 rfl lc_X1_67 dX1_load_50 (by decide) (by decide) rfl rfl rfl rfl (by decide) (by decide) (by omega) (by omega) (by omega) (by decide) (Nat.le_of_ble_eq_true rfl) ?_
  refine j_aload_n 54 rfl rfl dX1_load_53 ?_
  refine j_aload_n 55 rfl rfl dX1_load_54 ?_
  refine jV1v 58 rfl dX1_load_55 lk_X1_75 rfl rfl (by decide) ( rfl) ( rfl) (s_putRow_37 (Or.inl rfl) (fun p h0 h1 => by rw [jCpy_k (by decide), jCpy_k (by decide), jCpy_k (by decide), jU_k (by decide)]; exact hrow.1 p h0 h1)) (fun H1 e => ?_)
  subst e
  refine j_aload_n 59 rfl rfl dX1_load_58 ?_
  refine j_iload_n 60 rfl rfl dX1_load_59 ?_
  refine g_puti 63 rfl 5 5 rfl fl_X1_28 ft_1_5 dX1_load_60 (by decide) ( rfl) ( rfl) (by intro hR; first | omega | exact hR _ _ | exact jb_r _ | exact hR0 _ _ | assumption) ?_
  refine j_iconst 64 rfl dX1_load_63 ?_
  refine j_istore 66 rfl st_6_5 (by decide) rfl dX1_load_64 ?_
  refine j_iload 68 rfl rfl dX1_load_66 ?_
  refine j_iconst 69 rfl dX1_load_68 ?_
  refine j_icmp_ge 89 72 (by decide) rfl dX1_load_69 (by intro hR; first | omega | exact hR _ _ | exact jb_r _ | exact hR0 _ _ | assumption) (by intro hR; first | omega | exact hR _ _ | exact jb_r _ | exact hR0 _ _ | assumption) (fun h => ?_) (fun h => ?_)
  · exfalso; omega
  refine j_aload_n 73 rfl rfl dX1_load_72 ?_
  refine j_getr 76 rfl 6 fl_X1_33 dX1_load_73 (by decide) ( rfl) ( rfl) ?_
  refine j_iload 78 rfl rfl dX1_load_76 ?_
  refine j_aald 79 rfl dX1_load_78 (by decide) rfl (by decide) rfl (by omega) (rfl)  ?_
  refine j_iconst 80 rfl dX1_load_79 ?_
  refine jS2v 83 rfl dX1_load_80 lk_X1_79 rfl rfl (s_fill (N := 60) (by decide) rfl (by decide) rfl (by omega)) (fun H1 e => ?_)
  subst e
  refine j_iinc 86 rfl rfl st_6_5 (by decide) rfl dX1_load_83 ?_
  refine j_goto 66 (by decide) dX1_load_86 ?_
  refine j_iload 68 rfl rfl dX1_load_66 ?_
  refine j_iconst 69 rfl dX1_load_68 ?_
  refine j_icmp_ge 89 72 (by decide) rfl dX1_load_69 (by intro hR; first | omega | exact hR _ _ | exact jb_r _ | exact hR0 _ _ | assumption) (by intro hR; first | omega | exact hR _ _ | exact jb_r _ | exact hR0 _ _ | assumption) (fun h => ?_) (fun h => ?_)
  · exfalso; omega
  refine j_aload_n 73 rfl rfl dX1_load_72 ?_
  refine j_getr 76 rfl 6 fl_X1_33 dX1_load_73 (by decide) ( rfl) ( rfl) ?_
  refine j_iload 78 rfl rfl dX1_load_76 ?_
  refine j_aald 79 rfl dX1_load_78 (by decide) rfl (by decide) rfl (by omega) (rfl)  ?_
  refine j_iconst 80 rfl dX1_load_79 ?_
  refine jS2v 83 rfl dX1_load_80 lk_X1_79 rfl rfl (s_fill (N := 60) (by decide) rfl (by decide) rfl (by omega)) (fun H1 e => ?_)
  subst e
  refine j_iinc 86 rfl rfl st_6_5 (by decide) rfl dX1_load_83 ?_
  refine j_goto 66 (by decide) dX1_load_86 ?_
  refine j_iload 68 rfl rfl dX1_load_66 ?_
  refine j_iconst 69 rfl dX1_load_68 ?_
  refine j_icmp_ge 89 72 (by decide) rfl dX1_load_69 (by intro hR; first | omega | exact hR _ _ | exact jb_r _ | exact hR0 _ _ | assumption) (by intro hR; first | omega | exact hR _ _ | exact jb_r _ | exact hR0 _ _ | assumption) (fun h => ?_) (fun h => ?_)
  · exfalso; omega
  refine j_aload_n 73 rfl rfl dX1_load_72 ?_
  refine j_getr 76 rfl 6 fl_X1_33 dX1_load_73 (by decide) ( rfl) ( rfl) ?_
  refine j_iload 78 rfl rfl dX1_load_76 ?_
  refine j_aald 79 rfl dX1_load_78 (by decide) rfl (by decide) rfl (by omega) (rfl)  ?_
  refine j_iconst 80 rfl dX1_load_79 ?_
  refine jS2v 83 rfl dX1_load_80 lk_X1_79 rfl rfl (s_fill (N := 60) (by decide) rfl (by decide) rfl (by omega)) (fun H1 e => ?_)
  subst e
  refine j_iinc 86 rfl rfl st_6_5 (by decide) rfl dX1_load_83 ?_
  refine j_goto 66 (by decide) dX1_load_86 ?_
  refine j_iload 68 rfl rfl dX1_load_66 ?_
  refine j_iconst 69 rfl dX1_load_68 ?_
  refine j_icmp_ge 89 72 (by decide) rfl dX1_load_69 (by intro hR; first | omega | exact hR _ _ | exact jb_r _ | exact hR0 _ _ | assumption) (by intro hR; first | omega | exact hR _ _ | exact jb_r _ | exact hR0 _ _ | assumption) (fun h => ?_) (fun h => ?_)
  rotate_left
  · exfalso; omega
  refine j_iconst 90 rfl dX1_load_89 ?_
  refine j_istore 92 rfl st_6_5 (by decide) rfl dX1_load_90 ?_
  obtain ⟨H5, hH5⟩ : ∃ H5, H5 = jFill (jFill (jFill (jU (pr (jCpy (jCpy (jCpy (jU H 37 0 (H 1 3)) 3 38 0 0 9) 4 39 0 0 9) 5 40 0 0 9) 41 6 9) 37 5 lid) 43 ((60 : Nat) : Int) 0) 44 ((60 : Nat) : Int) 0) 45 ((60 : Nat) : Int) 0 := ⟨_, rfl⟩
  rw [← hH5]
  have f0 : ∀ k, k < 37 ∨ 45 < k → H5 k = H k := fun k hk => by
    rw [hH5, jFill_o (by omega), jFill_o (by omega), jFill_o (by omega), jU_o (by omega), pr_o _ (by omega), jCpy_o (by omega), jCpy_o (by omega), jCpy_o (by omega), jU_o (by omega)]
  have f1 : ∀ i, i ≠ 0 → i ≠ 5 → H5 37 i = H 37 i := fun i a b => by
    rw [hH5, jFill_k (by decide), jFill_k (by decide), jFill_k (by decide), jU_i b, pr_o _ (by decide), jCpy_k (by decide), jCpy_k (by decide), jCpy_k (by decide), jU_i a]
  have f2 : H5 37 0 = H 1 3 := by
    rw [hH5, jFill_k (by decide), jFill_k (by decide), jFill_k (by decide), jU_i (by omega), pr_o _ (by decide), jCpy_k (by decide), jCpy_k (by decide), jCpy_k (by decide), jU_s]
  have f3 : H5 37 5 = lid := by
    rw [hH5, jFill_k (by decide), jFill_k (by decide), jFill_k (by decide), jU_s]
  have f4 : ∀ b, 0 ≤ b → b < 9 → H5 38 b = H 3 b ∧ H5 39 b = H 4 b ∧ H5 40 b = H 5 b := fun b b0 b1 => by
    refine ⟨?_, ?_, ?_⟩
    · rw [hH5, jFill_k (by decide), jFill_k (by decide), jFill_k (by decide), jU_k (by decide), pr_o _ (by decide), jCpy_k (by decide), jCpy_k (by decide), jCpy_i (by omega) (by omega), jU_k (by decide), show (0 : Int) + (b - 0) = b by omega]
    · rw [hH5, jFill_k (by decide), jFill_k (by decide), jFill_k (by decide), jU_k (by decide), pr_o _ (by decide), jCpy_k (by decide), jCpy_i (by omega) (by omega), jCpy_k (by decide), jU_k (by decide), show (0 : Int) + (b - 0) = b by omega]
    · rw [hH5, jFill_k (by decide), jFill_k (by decide), jFill_k (by decide), jU_k (by decide), pr_o _ (by decide), jCpy_i (by omega) (by omega), jCpy_k (by decide), jCpy_k (by decide), jU_k (by decide), show (0 : Int) + (b - 0) = b by omega]
  have f5 : ∀ p, 0 ≤ p → p < 9 → H5 41 (H 6 p) = p := fun p p0 p1 => by
    obtain ⟨X, hX⟩ : ∃ X, X = jCpy (jCpy (jCpy (jU H 37 0 (H 1 3)) 3 38 0 0 9) 4 39 0 0 9) 5 40 0 0 9 := ⟨_, rfl⟩
    have e6 : ∀ q, X 6 q = H 6 q := fun q => by rw [hX, jCpy_k (by decide), jCpy_k (by decide), jCpy_k (by decide), jU_k (by decide)]
    rw [hH5, ← hX, jFill_k (by decide), jFill_k (by decide), jFill_k (by decide), jU_k (by decide)]
    have := pr_p X (k := 41) (rk := 6) (fun a b a0 a1 b0 b1 e => hrow.2 a b a0 a1 b0 b1 (by rw [← e6, ← e6]; exact e)) 9 (by omega) p p0 (by omega)
    rw [e6] at this
    exact this
  have f6 : ∀ t, 0 ≤ t → t < 60 → H5 43 t = 0 ∧ H5 44 t = 0 ∧ H5 45 t = 0 := fun t t0 t1 => by
    refine ⟨?_, ?_, ?_⟩
    · rw [hH5, jFill_k (by decide), jFill_k (by decide), jFill_i t0 (by omega)]
    · rw [hH5, jFill_k (by decide), jFill_i t0 (by omega)]
    · rw [hH5, jFill_i t0 (by omega)]
  have loop := jUp 0 (H 7 3) (fun i => ∀ Hi, ((∀ k, k ≠ 43 → k ≠ 44 → k ≠ 45 → Hi k = H5 k) ∧ (∀ t, 0 ≤ t → t < 60 → Hi 43 t = tm (H 8) (H 9) (H 10) 0 t i ∧ Hi 44 t = tm (H 8) (H 9) (H 10) 1 t i ∧ Hi 45 t = tm (H 8) (H 9) (H 10) 2 t i)) → jWP E mX1_load (jQv fun H' => cLd 37 H H' lid) 92 [some (jRF E 37), some (jRF E 1), some (jRF E 6), some (.int (jI lid)), some (jRF E 7), some (.int (jI i))] [] Hi) ?_ ?_ 0 (by omega) (by omega)
  · refine loop H5 ⟨fun _ _ _ _ => rfl, fun t t0 t1 => ?_⟩
    rw [tm_0, tm_0, tm_0]
    exact f6 t t0 t1
  · rintro Hi ⟨g1, g2⟩
    refine j_iload 94 rfl rfl dX1_load_92 ?_
    refine j_aload 96 rfl rfl dX1_load_94 ?_
    refine g_geti 99 rfl 3 3 rfl fl_X1_85 dX1_load_96 (by decide) ( rfl) ( rfl) ?_
    rw [g1 7 (by decide) (by decide) (by decide), f0 7 (by decide)]
    refine j_icmp_ge 143 102 (by decide) rfl dX1_load_99 (by intro hR; first | omega | exact hR _ _ | exact jb_r _ | exact hR0 _ _ | assumption) (by intro hR; first | omega | exact hR _ _ | exact jb_r _ | exact hR0 _ _ | assumption) (fun h => ?_) (fun h => ?_)
    · refine j_vretv dX1_load_143 rfl ?_
      refine ⟨fun k hk => ?_, fun i a b => ?_, ?_, ?_, fun b b0 b1 => ?_, fun p p0 p1 => ?_, g2⟩
      · rw [g1 k (by omega) (by omega) (by omega)]
        exact f0 k hk
      · rw [g1 37 (by decide) (by decide) (by decide)]
        exact f1 i a b
      · rw [g1 37 (by decide) (by decide) (by decide)]
        exact f2
      · rw [g1 37 (by decide) (by decide) (by decide)]
        exact f3
      · show Hi 38 b = _ ∧ Hi 39 b = _ ∧ Hi 40 b = _
        rw [g1 38 (by decide) (by decide) (by decide), g1 39 (by decide) (by decide) (by decide), g1 40 (by decide) (by decide) (by decide)]
        exact f4 b b0 b1
      · show Hi 41 _ = _
        rw [g1 41 (by decide) (by decide) (by decide)]
        exact f5 p p0 p1
    · exfalso; omega
  · rintro i h0 h1 ih Hi ⟨g1, g2⟩
    obtain ⟨t1, t2, t3⟩ := htk i h0 h1
    have e7 : Hi 7 = H 7 := (g1 7 (by decide) (by decide) (by decide)).trans (f0 7 (by decide))
    have e8 : Hi 8 = H 8 := (g1 8 (by decide) (by decide) (by decide)).trans (f0 8 (by decide))
    have e9 : Hi 9 = H 9 := (g1 9 (by decide) (by decide) (by decide)).trans (f0 9 (by decide))
    have e10 : Hi 10 = H 10 := (g1 10 (by decide) (by decide) (by decide)).trans (f0 10 (by decide))
    refine j_iload 94 rfl rfl dX1_load_92 ?_
    refine j_aload 96 rfl rfl dX1_load_94 ?_
    refine g_geti 99 rfl 3 3 rfl fl_X1_85 dX1_load_96 (by decide) ( rfl) ( rfl) ?_
    rw [e7]
    refine j_icmp_ge 143 102 (by decide) rfl dX1_load_99 (by intro hR; first | omega | exact hR _ _ | exact jb_r _ | exact hR0 _ _ | assumption) (by intro hR; first | omega | exact hR _ _ | exact jb_r _ | exact hR0 _ _ | assumption) (fun h => ?_) (fun h => ?_)
    · exfalso; omega
    · refine j_aload_n 103 rfl rfl dX1_load_102 ?_
      refine j_getr 106 rfl 6 fl_X1_33 dX1_load_103 (by decide) ( rfl) ( rfl) ?_
      refine j_aload 108 rfl rfl dX1_load_106 ?_
      refine j_getr 111 rfl 2 fl_X1_90 dX1_load_108 (by decide) ( rfl) ( rfl) ?_
      refine j_iload 113 rfl rfl dX1_load_111 ?_
      refine j_iald 114 rfl dX1_load_113 (by decide) rfl (by decide) rfl (by omega) ?_
      rw [e10]
      rcases t3 with ha | ha | ha
      · rw [ha]
        refine j_aald 115 rfl dX1_load_114 (by decide) rfl (by decide) rfl (by omega) (rfl)  ?_
        refine j_aload 117 rfl rfl dX1_load_115 ?_
        refine j_getr 120 rfl 0 fl_X1_92 dX1_load_117 (by decide) ( rfl) ( rfl) ?_
        refine j_iload 122 rfl rfl dX1_load_120 ?_
        refine j_iald 123 rfl dX1_load_122 (by decide) rfl (by decide) rfl (by omega) ?_
        rw [e8]
        refine j_dup2 124 rfl rfl rfl dX1_load_123 ?_
        refine j_iald 125 rfl dX1_load_124 (by decide) rfl (by decide) rfl (by omega) ?_
        refine j_iconst 126 rfl dX1_load_125 ?_
        refine j_aload 128 rfl rfl dX1_load_126 ?_
        refine j_getr 131 rfl 1 fl_X1_95 dX1_load_128 (by decide) ( rfl) ( rfl) ?_
        refine j_iload 133 rfl rfl dX1_load_131 ?_
        refine j_iald 134 rfl dX1_load_133 (by decide) rfl (by decide) rfl (by omega) ?_
        rw [e9]
        refine k_ishl 135 rfl dX1_load_134 ?_
        refine k_ior 136 rfl dX1_load_135 ?_
        refine j_iast 137 rfl dX1_load_136 (by decide) rfl (by decide) rfl (by omega) (by intro hR; exact jb_r _) ?_
        refine j_iinc 140 rfl rfl st_6_5 (by decide) rfl dX1_load_137 ?_
        refine j_goto 92 (by decide) dX1_load_140 ?_
        refine ih _ ⟨fun k a b d => ?_, fun t q0 q1 => ?_⟩
        · rw [jU_o (by omega)]
          exact g1 k a b d
        · rw [tm_s _ _ _ _ _ h0, tm_s _ _ _ _ _ h0, tm_s _ _ _ _ _ h0, ha, jU_k (a := 44) (by decide), jU_k (a := 45) (by decide)]
          obtain ⟨p1, p2, p3⟩ := g2 t q0 q1
          refine ⟨?_, ?_, ?_⟩
          · by_cases ht : t = H 8 i
            · subst ht
              rw [jU_s, if_pos ⟨rfl, rfl⟩, p1]
            · rw [jU_i ht, if_neg (fun q => ht q.2.symm), p1]
          · rw [if_neg (fun q => by omega), p2]
          · rw [if_neg (fun q => by omega), p3]
      · rw [ha]
        refine j_aald 115 rfl dX1_load_114 (by decide) rfl (by decide) rfl (by omega) (rfl)  ?_
        refine j_aload 117 rfl rfl dX1_load_115 ?_
        refine j_getr 120 rfl 0 fl_X1_92 dX1_load_117 (by decide) ( rfl) ( rfl) ?_
        refine j_iload 122 rfl rfl dX1_load_120 ?_
        refine j_iald 123 rfl dX1_load_122 (by decide) rfl (by decide) rfl (by omega) ?_
        rw [e8]
        refine j_dup2 124 rfl rfl rfl dX1_load_123 ?_
        refine j_iald 125 rfl dX1_load_124 (by decide) rfl (by decide) rfl (by omega) ?_
        refine j_iconst 126 rfl dX1_load_125 ?_
        refine j_aload 128 rfl rfl dX1_load_126 ?_
        refine j_getr 131 rfl 1 fl_X1_95 dX1_load_128 (by decide) ( rfl) ( rfl) ?_
        refine j_iload 133 rfl rfl dX1_load_131 ?_
        refine j_iald 134 rfl dX1_load_133 (by decide) rfl (by decide) rfl (by omega) ?_
        rw [e9]
        refine k_ishl 135 rfl dX1_load_134 ?_
        refine k_ior 136 rfl dX1_load_135 ?_
        refine j_iast 137 rfl dX1_load_136 (by decide) rfl (by decide) rfl (by omega) (by intro hR; exact jb_r _) ?_
        refine j_iinc 140 rfl rfl st_6_5 (by decide) rfl dX1_load_137 ?_
        refine j_goto 92 (by decide) dX1_load_140 ?_
        refine ih _ ⟨fun k a b d => ?_, fun t q0 q1 => ?_⟩
        · rw [jU_o (by omega)]
          exact g1 k a b d
        · rw [tm_s _ _ _ _ _ h0, tm_s _ _ _ _ _ h0, tm_s _ _ _ _ _ h0, ha, jU_k (a := 43) (by decide), jU_k (a := 45) (by decide)]
          obtain ⟨p1, p2, p3⟩ := g2 t q0 q1
          refine ⟨?_, ?_, ?_⟩
          · rw [if_neg (fun q => by omega), p1]
          · by_cases ht : t = H 8 i
            · subst ht
              rw [jU_s, if_pos ⟨rfl, rfl⟩, p2]
            · rw [jU_i ht, if_neg (fun q => ht q.2.symm), p2]
          · rw [if_neg (fun q => by omega), p3]
      · rw [ha]
        refine j_aald 115 rfl dX1_load_114 (by decide) rfl (by decide) rfl (by omega) (rfl)  ?_
        refine j_aload 117 rfl rfl dX1_load_115 ?_
        refine j_getr 120 rfl 0 fl_X1_92 dX1_load_117 (by decide) ( rfl) ( rfl) ?_
        refine j_iload 122 rfl rfl dX1_load_120 ?_
        refine j_iald 123 rfl dX1_load_122 (by decide) rfl (by decide) rfl (by omega) ?_
        rw [e8]
        refine j_dup2 124 rfl rfl rfl dX1_load_123 ?_
        refine j_iald 125 rfl dX1_load_124 (by decide) rfl (by decide) rfl (by omega) ?_
        refine j_iconst 126 rfl dX1_load_125 ?_
        refine j_aload 128 rfl rfl dX1_load_126 ?_
        refine j_getr 131 rfl 1 fl_X1_95 dX1_load_128 (by decide) ( rfl) ( rfl) ?_
        refine j_iload 133 rfl rfl dX1_load_131 ?_
        refine j_iald 134 rfl dX1_load_133 (by decide) rfl (by decide) rfl (by omega) ?_
        rw [e9]
        refine k_ishl 135 rfl dX1_load_134 ?_
        refine k_ior 136 rfl dX1_load_135 ?_
        refine j_iast 137 rfl dX1_load_136 (by decide) rfl (by decide) rfl (by omega) (by intro hR; exact jb_r _) ?_
        refine j_iinc 140 rfl rfl st_6_5 (by decide) rfl dX1_load_137 ?_
        refine j_goto 92 (by decide) dX1_load_140 ?_
        refine ih _ ⟨fun k a b d => ?_, fun t q0 q1 => ?_⟩
        · rw [jU_o (by omega)]
          exact g1 k a b d
        · rw [tm_s _ _ _ _ _ h0, tm_s _ _ _ _ _ h0, tm_s _ _ _ _ _ h0, ha, jU_k (a := 43) (by decide), jU_k (a := 44) (by decide)]
          obtain ⟨p1, p2, p3⟩ := g2 t q0 q1
          refine ⟨?_, ?_, ?_⟩
          · rw [if_neg (fun q => by omega), p1]
          · rw [if_neg (fun q => by omega), p2]
          · by_cases ht : t = H 8 i
            · subst ht
              rw [jU_s, if_pos ⟨rfl, rfl⟩, p3]
            · rw [jU_i ht, if_neg (fun q => ht q.2.symm), p3]
end S17
