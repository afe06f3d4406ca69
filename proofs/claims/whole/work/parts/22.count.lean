/-! ===== the class: count, write, read ===== -/
/-- the first j steps of a sheet's items told -/
def tlN (H : jH) (l : Nat) : Nat → jH
  | 0 => H
  | j + 1 => jU (jU (jU (jU (jU (tlN H l j) 8 (H 7 3 + j) (H l (3 * j))) 9 (H 7 3 + j) (H l (3 * j + 1))) 10 (H 7 3 + j) (H l (3 * j + 2))) 7 3 (H 7 3 + j + 1)) 0 10 1
def tl (H : jH) (l : Nat) (j : Int) : jH := tlN H l j.toNat
theorem tl_0 (H : jH) (l : Nat) : tl H l 0 = H := rfl
theorem tl_s (H : jH) (l : Nat) {j : Int} (h : 0 ≤ j) : tl H l (j + 1) = jU (jU (jU (jU (jU (tl H l j) 8 (H 7 3 + j) (H l (3 * j))) 9 (H 7 3 + j) (H l (3 * j + 1))) 10 (H 7 3 + j) (H l (3 * j + 2))) 7 3 (H 7 3 + j + 1)) 0 10 1 := by
  unfold tl
  have e : (j + 1).toNat = j.toNat + 1 := by omega
  have e2 : ((j.toNat : Nat) : Int) = j := Int.toNat_of_nonneg h
  rw [e, tlN, e2]
theorem tlN_o (H : jH) (l : Nat) {k : Nat} (h : k ≠ 0 ∧ k ≠ 7 ∧ k ≠ 8 ∧ k ≠ 9 ∧ k ≠ 10) : ∀ n, tlN H l n k = H k
  | 0 => rfl
  | n + 1 => by rw [tlN, jU_o h.1, jU_o h.2.1, jU_o h.2.2.2.2, jU_o h.2.2.2.1, jU_o h.2.2.1, tlN_o H l h n]
theorem tl_o (H : jH) (l : Nat) {k : Nat} (h : k ≠ 0 ∧ k ≠ 7 ∧ k ≠ 8 ∧ k ≠ 9 ∧ k ≠ 10) (j : Int) : tl H l j k = H k := tlN_o H l h _
theorem tlN_7 (H : jH) (l : Nat) : ∀ n : Nat, tlN H l n 7 3 = H 7 3 + n
  | 0 => by simp [tlN]
  | n + 1 => by rw [tlN, jU_k (by decide), jU_s]; omega
theorem tl_7 (H : jH) (l : Nat) {j : Int} (h : 0 ≤ j) : tl H l j 7 3 = H 7 3 + j := by
  unfold tl
  rw [tlN_7, Int.toNat_of_nonneg h]
def may3 (a b c : Int) : Prop := 0 ≤ a ∧ a < 60 ∧ 0 ≤ b ∧ b < 9 ∧ 0 ≤ c ∧ c < 3
/-- how many steps a sheet of z items f tells, where n are told -/
def isRd (f : Int → Int) (z n j : Int) : Prop := 0 ≤ j ∧ (∀ q, 0 ≤ q → q < j → 3 * q + 2 < z ∧ may3 (f (3 * q)) (f (3 * q + 1)) (f (3 * q + 2)) ∧ n + q < 24) ∧ ¬ (3 * j + 2 < z ∧ may3 (f (3 * j)) (f (3 * j + 1)) (f (3 * j + 2)) ∧ n + j < 24)
theorem isRd_one {f g : Int → Int} {z n j j2 : Int} (hfg : ∀ q, 0 ≤ q → q < z → f q = g q) (h : isRd f z n j) (h2 : isRd g z n j2) : j = j2 := by
  obtain ⟨a1, a2, a3⟩ := h
  obtain ⟨b1, b2, b3⟩ := h2
  rcases (show j < j2 ∨ j = j2 ∨ j2 < j by omega) with h | h | h
  · have := b2 j a1 h
    rw [← hfg (3 * j) (by omega) (by omega), ← hfg (3 * j + 1) (by omega) (by omega), ← hfg (3 * j + 2) (by omega) (by omega)] at this
    exact absurd this a3
  · exact h
  · have := a2 j2 b1 h
    rw [hfg (3 * j2) (by omega) (by omega), hfg (3 * j2 + 1) (by omega) (by omega), hfg (3 * j2 + 2) (by omega) (by omega)] at this
    exact absurd this b3
def fCount (H : jH) (w : Int) : Int := if w = 0 then H 1 3 else if w = 1 then H 1 1 else if w = 2 then H 7 3 else if w = 3 then H 0 6 else if w = 4 then H 0 2 else if w = 5 then sumI (H 5) (H 1 3) else if w = 6 then sumI (fun t => oc (pO (cfg H) t)) 60 else if w = 7 then sumI (fun b => if H 3 b = 4 then 1 else 0) (H 1 3) else if w = 8 then H 0 8 else -2
section S22
variable {E : jE} {H : jH}
-- X4_count
theorem s_count {w : Int} (hw : -2147483648 ≤ w ∧ w ≤ 2147483647) (h : CI H) : jOk E mX4_count [jRF E 0, .int (jI w)] H (jQi fun r H' => CQ H H' ∧ r = fCount H w) := by
  have hn := parsed_n h.1.1 h.1.2.1
  by_cases hok : 0 ≤ w ∧ w ≤ 8
  · rcases (show w = 0 ∨ w = 1 ∨ w = 2 ∨ w = 3 ∨ w = 4 ∨ w = 5 ∨ w = 6 ∨ w = 7 ∨ w = 8 by omega) with rfl | rfl | rfl | rfl | rfl | rfl | rfl | rfl | rfl
    · refine jOk.rng (fun hR0 => ?_)
      refine jOk.ofe rfl (Nat.le_of_ble_eq_true rfl) (en_ai_2 (E := E)) ?_
      refine j_iload_n 1 rfl rfl dX4_count_0 ?_
      refine j_tabIn 52 dX4_count_1 (by omega) (by omega) (by rfl) (by decide) ?_
      refine j_aload_n 53 rfl rfl dX4_count_52 ?_
      refine j_getr 56 rfl 0 fl_X4_12 dX4_count_53 (by decide) ( rfl) ( rfl) ?_
      refine g_geti 59 rfl 3 3 rfl fl_X4_173 dX4_count_56 (by decide) ( rfl) ( rfl) ?_
      refine j_ireti dX4_count_59 rfl ?_
      exact ⟨CQ.refl h, rfl⟩
    · refine jOk.rng (fun hR0 => ?_)
      refine jOk.ofe rfl (Nat.le_of_ble_eq_true rfl) (en_ai_2 (E := E)) ?_
      refine j_iload_n 1 rfl rfl dX4_count_0 ?_
      refine j_tabIn 60 dX4_count_1 (by omega) (by omega) (by rfl) (by decide) ?_
      refine j_aload_n 61 rfl rfl dX4_count_60 ?_
      refine j_getr 64 rfl 0 fl_X4_12 dX4_count_61 (by decide) ( rfl) ( rfl) ?_
      refine g_geti 67 rfl 1 1 rfl fl_X4_76 dX4_count_64 (by decide) ( rfl) ( rfl) ?_
      refine j_ireti dX4_count_67 rfl ?_
      exact ⟨CQ.refl h, rfl⟩
    · refine jOk.rng (fun hR0 => ?_)
      refine jOk.ofe rfl (Nat.le_of_ble_eq_true rfl) (en_ai_2 (E := E)) ?_
      refine j_iload_n 1 rfl rfl dX4_count_0 ?_
      refine j_tabIn 68 dX4_count_1 (by omega) (by omega) (by rfl) (by decide) ?_
      refine j_aload_n 69 rfl rfl dX4_count_68 ?_
      refine j_getr 72 rfl 3 fl_X4_27 dX4_count_69 (by decide) ( rfl) ( rfl) ?_
      refine g_geti 75 rfl 3 3 rfl fl_X4_113 dX4_count_72 (by decide) ( rfl) ( rfl) ?_
      refine j_ireti dX4_count_75 rfl ?_
      exact ⟨CQ.refl h, rfl⟩
    · refine jOk.rng (fun hR0 => ?_)
      refine jOk.ofe rfl (Nat.le_of_ble_eq_true rfl) (en_ai_2 (E := E)) ?_
      refine j_iload_n 1 rfl rfl dX4_count_0 ?_
      refine j_tabIn 76 dX4_count_1 (by omega) (by omega) (by rfl) (by decide) ?_
      refine j_aload_n 77 rfl rfl dX4_count_76 ?_
      refine g_geti 80 rfl 6 6 rfl fl_X4_37 dX4_count_77 (by decide) ( rfl) ( rfl) ?_
      refine j_ireti dX4_count_80 rfl ?_
      exact ⟨CQ.refl h, rfl⟩
    · refine jOk.rng (fun hR0 => ?_)
      refine jOk.ofe rfl (Nat.le_of_ble_eq_true rfl) (en_ai_2 (E := E)) ?_
      refine j_iload_n 1 rfl rfl dX4_count_0 ?_
      refine j_tabIn 81 dX4_count_1 (by omega) (by omega) (by rfl) (by decide) ?_
      refine j_aload_n 82 rfl rfl dX4_count_81 ?_
      refine g_geti 85 rfl 2 2 rfl fl_X4_20 dX4_count_82 (by decide) ( rfl) ( rfl) ?_
      refine j_ireti dX4_count_85 rfl ?_
      exact ⟨CQ.refl h, rfl⟩
    · refine jOk.rng (fun hR0 => ?_)
      refine jOk.ofe rfl (Nat.le_of_ble_eq_true rfl) (en_ai_2 (E := E)) ?_
      refine j_iload_n 1 rfl rfl dX4_count_0 ?_
      refine j_tabIn 86 dX4_count_1 (by omega) (by omega) (by rfl) (by decide) ?_
      refine j_aload_n 87 rfl rfl dX4_count_86 ?_
      refine j_getr 90 rfl 0 fl_X4_12 dX4_count_87 (by decide) ( rfl) ( rfl) ?_
      refine jV0i 93 rfl dX4_count_90 lk_X4_247 rfl rfl (by decide) ( rfl) ( rfl) (s_allSprings hn) (fun r H1 ⟨eh_, hr⟩ => ?_)
      obtain rfl := eh_.symm
      refine j_ireti dX4_count_93 rfl ?_
      exact ⟨CQ.refl h, hr⟩
    · refine jOk.rng (fun hR0 => ?_)
      refine jOk.ofe rfl (Nat.le_of_ble_eq_true rfl) (en_ai_2 (E := E)) ?_
      refine j_iload_n 1 rfl rfl dX4_count_0 ?_
      refine j_tabIn 94 dX4_count_1 (by omega) (by omega) (by rfl) (by decide) ?_
      refine j_aload_n 95 rfl rfl dX4_count_94 ?_
      refine jV0v 98 rfl dX4_count_95 lk_X4_143 rfl rfl (by decide) ( rfl) ( rfl) (s_runAsTold h) (fun H2 ⟨hq, h10⟩ => ?_)
      refine j_aload_n 99 rfl rfl dX4_count_98 ?_
      refine j_getr 102 rfl 9 fl_X4_52 dX4_count_99 (by decide) ( rfl) ( rfl) ?_
      refine j_bipush 104 rfl rfl dX4_count_102 ?_
      refine jV1i 107 rfl dX4_count_104 lk_X4_218 rfl rfl (by decide) ( rfl) ( rfl) (s_openings_22 (by omega) (fun t t0 t1 => by rw [(cq_arr hq h10 t0 (by omega)).1]; exact pO_r (cfg_ok h.1).1 t)) (fun r H1 ⟨eh_, hr⟩ => ?_)
      obtain rfl := eh_.symm
      refine j_ireti dX4_count_107 rfl ?_
      refine ⟨hq, ?_⟩
      rw [hr]
      exact sumI_cong (fun t t0 t1 => by rw [(cq_arr hq h10 t0 (by omega)).1])
    · refine jOk.rng (fun hR0 => ?_)
      refine jOk.ofe rfl (Nat.le_of_ble_eq_true rfl) (en_ai_2 (E := E)) ?_
      refine j_iload_n 1 rfl rfl dX4_count_0 ?_
      refine j_tabIn 108 dX4_count_1 (by omega) (by omega) (by rfl) (by decide) ?_
      refine j_aload_n 109 rfl rfl dX4_count_108 ?_
      refine j_getr 112 rfl 0 fl_X4_12 dX4_count_109 (by decide) ( rfl) ( rfl) ?_
      refine j_iconst 113 rfl dX4_count_112 ?_
      refine jV1i 116 rfl dX4_count_113 lk_X4_250 rfl rfl (by decide) ( rfl) ( rfl) (s_withLaw (by omega) hn) (fun r H1 ⟨eh_, hr⟩ => ?_)
      obtain rfl := eh_.symm
      refine j_ireti dX4_count_116 rfl ?_
      exact ⟨CQ.refl h, hr⟩
    · refine jOk.rng (fun hR0 => ?_)
      refine jOk.ofe rfl (Nat.le_of_ble_eq_true rfl) (en_ai_2 (E := E)) ?_
      refine j_iload_n 1 rfl rfl dX4_count_0 ?_
      refine j_tabIn 117 dX4_count_1 (by omega) (by omega) (by rfl) (by decide) ?_
      refine j_aload_n 118 rfl rfl dX4_count_117 ?_
      refine g_geti 121 rfl 8 8 rfl fl_X4_46 dX4_count_118 (by decide) ( rfl) ( rfl) ?_
      refine j_ireti dX4_count_121 rfl ?_
      exact ⟨CQ.refl h, rfl⟩
  · refine jOk.rng (fun hR0 => ?_)
    refine jOk.ofe rfl (Nat.le_of_ble_eq_true rfl) (en_ai_2 (E := E)) ?_
    refine j_iload_n 1 rfl rfl dX4_count_0 ?_
    refine j_tabOut 122 dX4_count_1 (by intro _; omega) (by omega) (by decide) ?_
    refine j_bipush 124 rfl rfl dX4_count_122 ?_
    refine j_ireti dX4_count_124 rfl ?_
    refine ⟨CQ.refl h, ?_⟩
    unfold fCount
    rw [if_neg (by omega), if_neg (by omega), if_neg (by omega), if_neg (by omega), if_neg (by omega), if_neg (by omega), if_neg (by omega), if_neg (by omega), if_neg (by omega)]
-- X4_write
theorem s_write {w s : Int} {k l : Nat} (hk : jShx s k l) (hw : -2147483648 ≤ w ∧ w ≤ 2147483647) (hs : -2147483648 ≤ s ∧ s ≤ 2147483647) (h : CI H) : jOk E mX4_write [jRF E 0, .int (jI w), .int (jI s)] H (jQi fun r H' =>
    (¬ ((w = 0 ∨ w = 1) ∧ 0 ≤ s ∧ s < 4) ∧ r = -2 ∧ H' = H) ∨ (((w = 0 ∨ w = 1) ∧ 0 ≤ s ∧ s < 4) ∧ H k 0 ≠ 0 ∧ r = -11 ∧ H' = jU H 0 8 1) ∨
    (((w = 0 ∨ w = 1) ∧ 0 ≤ s ∧ s < 4) ∧ H k 0 = 0 ∧ r = H k 2 ∧ ∃ H1, CQ H H1 ∧ H' = jMp H1 l (H k 2) (fun i => jCut (H k 1) (if w = 0 then pO (cfg H) i else pU (cfg H) i)))) := by
  by_cases hok : (w = 0 ∨ w = 1) ∧ 0 ≤ s ∧ s < 4
  · have hz : 0 ≤ H k 2 ∧ H k 2 ≤ 60 := by
      rcases hk with ⟨rfl, rfl, rfl⟩ | ⟨rfl, rfl, rfl⟩ | ⟨rfl, rfl, rfl⟩ | ⟨rfl, rfl, rfl⟩ | hb
      · exact (h.1.2.2.2.2.2.2 _ _ sh0).2.2
      · exact (h.1.2.2.2.2.2.2 _ _ sh1).2.2
      · exact (h.1.2.2.2.2.2.2 _ _ sh2).2.2
      · exact (h.1.2.2.2.2.2.2 _ _ sh3).2.2
      · omega
    rcases hk with ⟨rfl, rfl, rfl⟩ | ⟨rfl, rfl, rfl⟩ | ⟨rfl, rfl, rfl⟩ | ⟨rfl, rfl, rfl⟩ | hb
    · refine jOk.rng (fun hR0 => ?_)
      refine jOk.ofe rfl (Nat.le_of_ble_eq_true rfl) (en_aii_5 (E := E)) ?_
      refine j_iload_n 1 rfl rfl dX4_write_0 ?_
      refine jS1i 4 rfl dX4_write_1 lk_X4_140 rfl rfl (s_isEither (by omega)) (fun r1 H1 ⟨eh_, hr1⟩ => ?_)
      obtain rfl := eh_.symm
      refine j_if_eq 14 7 (by decide) rfl dX4_write_4 (by intro hR; first | omega | exact hR _ _ | exact jb_r _ | exact hR0 _ _ | assumption) (fun h4 => ?_) (fun h4 => ?_)
      · exfalso; omega
      refine j_iload_n 8 rfl rfl dX4_write_7 ?_
      refine jS1i 11 rfl dX4_write_8 lk_X4_120 rfl rfl (s_isSheet (by omega)) (fun r8 H1 ⟨eh_, hr8⟩ => ?_)
      obtain rfl := eh_.symm
      refine j_if_ne 17 14 (by decide) rfl dX4_write_11 (by intro hR; first | omega | exact hR _ _ | exact jb_r _ | exact hR0 _ _ | assumption) (fun h11 => ?_) (fun h11 => ?_)
      rotate_left
      · exfalso; omega
      refine j_aload_n 18 rfl rfl dX4_write_17 ?_
      refine j_getr 21 rfl 7 fl_X4_42 dX4_write_18 (by decide) ( rfl) ( rfl) ?_
      refine j_iload_n 22 rfl rfl dX4_write_21 ?_
      refine j_aald 23 rfl dX4_write_22 (by decide) rfl (by decide) rfl (by omega) (rfl)  ?_
      refine j_astore_n 24 rfl st_5_3 (by decide) rfl dX4_write_23 ?_
      refine j_aload_n 25 rfl rfl dX4_write_24 ?_
      refine g_geti 28 rfl 0 0 rfl fl_X4_123 dX4_write_25 (by decide) ( rfl) ( rfl) ?_
      refine j_if_eq 37 31 (by decide) rfl dX4_write_28 (by intro hR; first | omega | exact hR _ _ | exact jb_r _ | exact hR0 _ _ | assumption) (fun h2 => ?_) (fun h2 => ?_)
      rotate_left
      · refine j_aload_n 32 rfl rfl dX4_write_31 ?_
        refine j_iconst 33 rfl dX4_write_32 ?_
        refine jV1i 36 rfl dX4_write_33 lk_X4_126 rfl rfl (by decide) ( rfl) ( rfl) (s_finding (by omega)) (fun r33 H1 ⟨e, hr33⟩ => ?_)
        subst e
        refine j_ireti dX4_write_36 rfl ?_
        exact Or.inr (Or.inl ⟨hok, h2, by omega, rfl⟩)
      · refine j_aload_n 38 rfl rfl dX4_write_37 ?_
        refine jV0v 41 rfl dX4_write_38 lk_X4_143 rfl rfl (by decide) ( rfl) ( rfl) (s_runAsTold h) (fun H2 ⟨hq, h10⟩ => ?_)
        refine j_iconst 42 rfl dX4_write_41 ?_
        refine j_istore 44 rfl st_5_4 (by decide) rfl dX4_write_42 ?_
        have e1 : H2 14 = H 14 := hq.1 14 (by decide) (by decide)
        have loop := jUp 0 (H 14 2) (fun i => jWP E mX4_write (jQi fun r H' => (¬ ((w = 0 ∨ w = 1) ∧ 0 ≤ (0 : Int) ∧ (0 : Int) < 4) ∧ r = -2 ∧ H' = H) ∨ (((w = 0 ∨ w = 1) ∧ 0 ≤ (0 : Int) ∧ (0 : Int) < 4) ∧ H 14 0 ≠ 0 ∧ r = -11 ∧ H' = jU H 0 8 1) ∨ (((w = 0 ∨ w = 1) ∧ 0 ≤ (0 : Int) ∧ (0 : Int) < 4) ∧ H 14 0 = 0 ∧ r = H 14 2 ∧ ∃ H1, CQ H H1 ∧ H' = jMp H1 15 (H 14 2) (fun i => jCut (H 14 1) (if w = 0 then pO (cfg H) i else pU (cfg H) i)))) 44 [some (jRF E 0), some (.int (jI w)), some (.int (jI 0)), some (jRF E 14), some (.int (jI i))] [] (jMp H2 15 i (fun i => jCut (H 14 1) (if w = 0 then pO (cfg H) i else pU (cfg H) i)))) ?_ ?_ 0 (by omega) (by omega)
        · rw [jMp_0] at loop
          exact loop
        · refine j_iload 46 rfl rfl dX4_write_44 ?_
          refine j_aload_n 47 rfl rfl dX4_write_46 ?_
          refine g_geti 50 rfl 2 2 rfl fl_X4_129 dX4_write_47 (by decide) ( rfl) ( rfl) ?_
          rw [jMp_k (by decide), e1]
          refine j_icmp_ge 99 53 (by decide) rfl dX4_write_50 (by intro hR; first | omega | exact hR _ _ | exact jb_r _ | exact hR0 _ _ | assumption) (by intro hR; first | omega | exact hR _ _ | exact jb_r _ | exact hR0 _ _ | assumption) (fun h3 => ?_) (fun h3 => ?_)
          · refine j_aload_n 100 rfl rfl dX4_write_99 ?_
            refine g_geti 103 rfl 2 2 rfl fl_X4_129 dX4_write_100 (by decide) ( rfl) ( rfl) ?_
            rw [jMp_k (by decide), e1]
            refine j_ireti dX4_write_103 rfl ?_
            exact Or.inr (Or.inr ⟨hok, h2, rfl, H2, hq, rfl⟩)
          · exfalso; omega
        · intro i h0 h1 ih
          rw [← jMp_s H2 15 (fun i => jCut (H 14 1) (if w = 0 then pO (cfg H) i else pU (cfg H) i)) h0] at ih
          refine j_iload 46 rfl rfl dX4_write_44 ?_
          refine j_aload_n 47 rfl rfl dX4_write_46 ?_
          refine g_geti 50 rfl 2 2 rfl fl_X4_129 dX4_write_47 (by decide) ( rfl) ( rfl) ?_
          rw [jMp_k (by decide), e1]
          refine j_icmp_ge 99 53 (by decide) rfl dX4_write_50 (by intro hR; first | omega | exact hR _ _ | exact jb_r _ | exact hR0 _ _ | assumption) (by intro hR; first | omega | exact hR _ _ | exact jb_r _ | exact hR0 _ _ | assumption) (fun h3 => ?_) (fun h3 => ?_)
          · exfalso; omega
          · refine j_iload 55 rfl rfl dX4_write_53 ?_
            refine j_bipush 57 rfl rfl dX4_write_55 ?_
            refine j_icmp_ge 99 60 (by decide) rfl dX4_write_57 (by intro hR; first | omega | exact hR _ _ | exact jb_r _ | exact hR0 _ _ | assumption) (by intro hR; first | omega | exact hR _ _ | exact jb_r _ | exact hR0 _ _ | assumption) (fun h4 => ?_) (fun h4 => ?_)
            · exfalso; omega
            · refine j_aload_n 61 rfl rfl dX4_write_60 ?_
              refine j_iload 63 rfl rfl dX4_write_61 ?_
              refine j_iload_n 64 rfl rfl dX4_write_63 ?_
              refine j_if_ne 80 67 (by decide) rfl dX4_write_64 (by intro hR; first | omega | exact hR _ _ | exact jb_r _ | exact hR0 _ _ | assumption) (fun h5 => ?_) (fun h5 => ?_)
              · rw [if_neg h5] at ih
                refine j_aload_n 81 rfl rfl dX4_write_80 ?_
                refine j_getr 84 rfl 9 fl_X4_52 dX4_write_81 (by decide) ( rfl) ( rfl) ?_
                refine j_getr 87 rfl 8 fl_X4_149 dX4_write_84 (by decide) ( rfl) ( rfl) ?_
                refine j_iload 89 rfl rfl dX4_write_87 ?_
                refine j_iald 90 rfl dX4_write_89 (by decide) rfl (by decide) rfl (by omega) ?_
                rw [jMp_k (by decide), (cq_arr hq h10 h0 (by omega)).2]
                refine jV2v 93 rfl dX4_write_90 lk_X4_231 rfl rfl (by decide) ( rfl) ( rfl) (s_put sh0 (by omega) (by have := pU_r (cfg_ok h.1).1 i; omega)) (fun H3 e => ?_)
                subst e
                rw [jMp_k (by decide), e1]
                refine j_iinc 96 rfl rfl st_5_4 (by decide) rfl dX4_write_93 ?_
                refine j_goto 44 (by decide) dX4_write_96 ?_
                exact ih
              · rw [if_pos h5] at ih
                refine j_aload_n 68 rfl rfl dX4_write_67 ?_
                refine j_getr 71 rfl 9 fl_X4_52 dX4_write_68 (by decide) ( rfl) ( rfl) ?_
                refine j_getr 74 rfl 7 fl_X4_146 dX4_write_71 (by decide) ( rfl) ( rfl) ?_
                refine j_iload 76 rfl rfl dX4_write_74 ?_
                refine j_iald 77 rfl dX4_write_76 (by decide) rfl (by decide) rfl (by omega) ?_
                refine j_goto 90 (by decide) dX4_write_77 ?_
                rw [jMp_k (by decide), (cq_arr hq h10 h0 (by omega)).1]
                refine jV2v 93 rfl dX4_write_90 lk_X4_231 rfl rfl (by decide) ( rfl) ( rfl) (s_put sh0 (by omega) (by have := pO_r (cfg_ok h.1).1 i; omega)) (fun H3 e => ?_)
                subst e
                rw [jMp_k (by decide), e1]
                refine j_iinc 96 rfl rfl st_5_4 (by decide) rfl dX4_write_93 ?_
                refine j_goto 44 (by decide) dX4_write_96 ?_
                exact ih
    · refine jOk.rng (fun hR0 => ?_)
      refine jOk.ofe rfl (Nat.le_of_ble_eq_true rfl) (en_aii_5 (E := E)) ?_
      refine j_iload_n 1 rfl rfl dX4_write_0 ?_
      refine jS1i 4 rfl dX4_write_1 lk_X4_140 rfl rfl (s_isEither (by omega)) (fun r1 H1 ⟨eh_, hr1⟩ => ?_)
      obtain rfl := eh_.symm
      refine j_if_eq 14 7 (by decide) rfl dX4_write_4 (by intro hR; first | omega | exact hR _ _ | exact jb_r _ | exact hR0 _ _ | assumption) (fun h4 => ?_) (fun h4 => ?_)
      · exfalso; omega
      refine j_iload_n 8 rfl rfl dX4_write_7 ?_
      refine jS1i 11 rfl dX4_write_8 lk_X4_120 rfl rfl (s_isSheet (by omega)) (fun r8 H1 ⟨eh_, hr8⟩ => ?_)
      obtain rfl := eh_.symm
      refine j_if_ne 17 14 (by decide) rfl dX4_write_11 (by intro hR; first | omega | exact hR _ _ | exact jb_r _ | exact hR0 _ _ | assumption) (fun h11 => ?_) (fun h11 => ?_)
      rotate_left
      · exfalso; omega
      refine j_aload_n 18 rfl rfl dX4_write_17 ?_
      refine j_getr 21 rfl 7 fl_X4_42 dX4_write_18 (by decide) ( rfl) ( rfl) ?_
      refine j_iload_n 22 rfl rfl dX4_write_21 ?_
      refine j_aald 23 rfl dX4_write_22 (by decide) rfl (by decide) rfl (by omega) (rfl)  ?_
      refine j_astore_n 24 rfl st_5_3 (by decide) rfl dX4_write_23 ?_
      refine j_aload_n 25 rfl rfl dX4_write_24 ?_
      refine g_geti 28 rfl 0 0 rfl fl_X4_123 dX4_write_25 (by decide) ( rfl) ( rfl) ?_
      refine j_if_eq 37 31 (by decide) rfl dX4_write_28 (by intro hR; first | omega | exact hR _ _ | exact jb_r _ | exact hR0 _ _ | assumption) (fun h2 => ?_) (fun h2 => ?_)
      rotate_left
      · refine j_aload_n 32 rfl rfl dX4_write_31 ?_
        refine j_iconst 33 rfl dX4_write_32 ?_
        refine jV1i 36 rfl dX4_write_33 lk_X4_126 rfl rfl (by decide) ( rfl) ( rfl) (s_finding (by omega)) (fun r33 H1 ⟨e, hr33⟩ => ?_)
        subst e
        refine j_ireti dX4_write_36 rfl ?_
        exact Or.inr (Or.inl ⟨hok, h2, by omega, rfl⟩)
      · refine j_aload_n 38 rfl rfl dX4_write_37 ?_
        refine jV0v 41 rfl dX4_write_38 lk_X4_143 rfl rfl (by decide) ( rfl) ( rfl) (s_runAsTold h) (fun H2 ⟨hq, h10⟩ => ?_)
        refine j_iconst 42 rfl dX4_write_41 ?_
        refine j_istore 44 rfl st_5_4 (by decide) rfl dX4_write_42 ?_
        have e1 : H2 16 = H 16 := hq.1 16 (by decide) (by decide)
        have loop := jUp 0 (H 16 2) (fun i => jWP E mX4_write (jQi fun r H' => (¬ ((w = 0 ∨ w = 1) ∧ 0 ≤ (1 : Int) ∧ (1 : Int) < 4) ∧ r = -2 ∧ H' = H) ∨ (((w = 0 ∨ w = 1) ∧ 0 ≤ (1 : Int) ∧ (1 : Int) < 4) ∧ H 16 0 ≠ 0 ∧ r = -11 ∧ H' = jU H 0 8 1) ∨ (((w = 0 ∨ w = 1) ∧ 0 ≤ (1 : Int) ∧ (1 : Int) < 4) ∧ H 16 0 = 0 ∧ r = H 16 2 ∧ ∃ H1, CQ H H1 ∧ H' = jMp H1 17 (H 16 2) (fun i => jCut (H 16 1) (if w = 0 then pO (cfg H) i else pU (cfg H) i)))) 44 [some (jRF E 0), some (.int (jI w)), some (.int (jI 1)), some (jRF E 16), some (.int (jI i))] [] (jMp H2 17 i (fun i => jCut (H 16 1) (if w = 0 then pO (cfg H) i else pU (cfg H) i)))) ?_ ?_ 0 (by omega) (by omega)
        · rw [jMp_0] at loop
          exact loop
        · refine j_iload 46 rfl rfl dX4_write_44 ?_
          refine j_aload_n 47 rfl rfl dX4_write_46 ?_
          refine g_geti 50 rfl 2 2 rfl fl_X4_129 dX4_write_47 (by decide) ( rfl) ( rfl) ?_
          rw [jMp_k (by decide), e1]
          refine j_icmp_ge 99 53 (by decide) rfl dX4_write_50 (by intro hR; first | omega | exact hR _ _ | exact jb_r _ | exact hR0 _ _ | assumption) (by intro hR; first | omega | exact hR _ _ | exact jb_r _ | exact hR0 _ _ | assumption) (fun h3 => ?_) (fun h3 => ?_)
          · refine j_aload_n 100 rfl rfl dX4_write_99 ?_
            refine g_geti 103 rfl 2 2 rfl fl_X4_129 dX4_write_100 (by decide) ( rfl) ( rfl) ?_
            rw [jMp_k (by decide), e1]
            refine j_ireti dX4_write_103 rfl ?_
            exact Or.inr (Or.inr ⟨hok, h2, rfl, H2, hq, rfl⟩)
          · exfalso; omega
        · intro i h0 h1 ih
          rw [← jMp_s H2 17 (fun i => jCut (H 16 1) (if w = 0 then pO (cfg H) i else pU (cfg H) i)) h0] at ih
          refine j_iload 46 rfl rfl dX4_write_44 ?_
          refine j_aload_n 47 rfl rfl dX4_write_46 ?_
          refine g_geti 50 rfl 2 2 rfl fl_X4_129 dX4_write_47 (by decide) ( rfl) ( rfl) ?_
          rw [jMp_k (by decide), e1]
          refine j_icmp_ge 99 53 (by decide) rfl dX4_write_50 (by intro hR; first | omega | exact hR _ _ | exact jb_r _ | exact hR0 _ _ | assumption) (by intro hR; first | omega | exact hR _ _ | exact jb_r _ | exact hR0 _ _ | assumption) (fun h3 => ?_) (fun h3 => ?_)
          · exfalso; omega
          · refine j_iload 55 rfl rfl dX4_write_53 ?_
            refine j_bipush 57 rfl rfl dX4_write_55 ?_
            refine j_icmp_ge 99 60 (by decide) rfl dX4_write_57 (by intro hR; first | omega | exact hR _ _ | exact jb_r _ | exact hR0 _ _ | assumption) (by intro hR; first | omega | exact hR _ _ | exact jb_r _ | exact hR0 _ _ | assumption) (fun h4 => ?_) (fun h4 => ?_)
            · exfalso; omega
            · refine j_aload_n 61 rfl rfl dX4_write_60 ?_
              refine j_iload 63 rfl rfl dX4_write_61 ?_
              refine j_iload_n 64 rfl rfl dX4_write_63 ?_
              refine j_if_ne 80 67 (by decide) rfl dX4_write_64 (by intro hR; first | omega | exact hR _ _ | exact jb_r _ | exact hR0 _ _ | assumption) (fun h5 => ?_) (fun h5 => ?_)
              · rw [if_neg h5] at ih
                refine j_aload_n 81 rfl rfl dX4_write_80 ?_
                refine j_getr 84 rfl 9 fl_X4_52 dX4_write_81 (by decide) ( rfl) ( rfl) ?_
                refine j_getr 87 rfl 8 fl_X4_149 dX4_write_84 (by decide) ( rfl) ( rfl) ?_
                refine j_iload 89 rfl rfl dX4_write_87 ?_
                refine j_iald 90 rfl dX4_write_89 (by decide) rfl (by decide) rfl (by omega) ?_
                rw [jMp_k (by decide), (cq_arr hq h10 h0 (by omega)).2]
                refine jV2v 93 rfl dX4_write_90 lk_X4_231 rfl rfl (by decide) ( rfl) ( rfl) (s_put sh1 (by omega) (by have := pU_r (cfg_ok h.1).1 i; omega)) (fun H3 e => ?_)
                subst e
                rw [jMp_k (by decide), e1]
                refine j_iinc 96 rfl rfl st_5_4 (by decide) rfl dX4_write_93 ?_
                refine j_goto 44 (by decide) dX4_write_96 ?_
                exact ih
              · rw [if_pos h5] at ih
                refine j_aload_n 68 rfl rfl dX4_write_67 ?_
                refine j_getr 71 rfl 9 fl_X4_52 dX4_write_68 (by decide) ( rfl) ( rfl) ?_
                refine j_getr 74 rfl 7 fl_X4_146 dX4_write_71 (by decide) ( rfl) ( rfl) ?_
                refine j_iload 76 rfl rfl dX4_write_74 ?_
                refine j_iald 77 rfl dX4_write_76 (by decide) rfl (by decide) rfl (by omega) ?_
                refine j_goto 90 (by decide) dX4_write_77 ?_
                rw [jMp_k (by decide), (cq_arr hq h10 h0 (by omega)).1]
                refine jV2v 93 rfl dX4_write_90 lk_X4_231 rfl rfl (by decide) ( rfl) ( rfl) (s_put sh1 (by omega) (by have := pO_r (cfg_ok h.1).1 i; omega)) (fun H3 e => ?_)
                subst e
                rw [jMp_k (by decide), e1]
                refine j_iinc 96 rfl rfl st_5_4 (by decide) rfl dX4_write_93 ?_
                refine j_goto 44 (by decide) dX4_write_96 ?_
                exact ih
    · refine jOk.rng (fun hR0 => ?_)
      refine jOk.ofe rfl (Nat.le_of_ble_eq_true rfl) (en_aii_5 (E := E)) ?_
      refine j_iload_n 1 rfl rfl dX4_write_0 ?_
      refine jS1i 4 rfl dX4_write_1 lk_X4_140 rfl rfl (s_isEither (by omega)) (fun r1 H1 ⟨eh_, hr1⟩ => ?_)
      obtain rfl := eh_.symm
      refine j_if_eq 14 7 (by decide) rfl dX4_write_4 (by intro hR; first | omega | exact hR _ _ | exact jb_r _ | exact hR0 _ _ | assumption) (fun h4 => ?_) (fun h4 => ?_)
      · exfalso; omega
      refine j_iload_n 8 rfl rfl dX4_write_7 ?_
      refine jS1i 11 rfl dX4_write_8 lk_X4_120 rfl rfl (s_isSheet (by omega)) (fun r8 H1 ⟨eh_, hr8⟩ => ?_)
      obtain rfl := eh_.symm
      refine j_if_ne 17 14 (by decide) rfl dX4_write_11 (by intro hR; first | omega | exact hR _ _ | exact jb_r _ | exact hR0 _ _ | assumption) (fun h11 => ?_) (fun h11 => ?_)
      rotate_left
      · exfalso; omega
      refine j_aload_n 18 rfl rfl dX4_write_17 ?_
      refine j_getr 21 rfl 7 fl_X4_42 dX4_write_18 (by decide) ( rfl) ( rfl) ?_
      refine j_iload_n 22 rfl rfl dX4_write_21 ?_
      refine j_aald 23 rfl dX4_write_22 (by decide) rfl (by decide) rfl (by omega) (rfl)  ?_
      refine j_astore_n 24 rfl st_5_3 (by decide) rfl dX4_write_23 ?_
      refine j_aload_n 25 rfl rfl dX4_write_24 ?_
      refine g_geti 28 rfl 0 0 rfl fl_X4_123 dX4_write_25 (by decide) ( rfl) ( rfl) ?_
      refine j_if_eq 37 31 (by decide) rfl dX4_write_28 (by intro hR; first | omega | exact hR _ _ | exact jb_r _ | exact hR0 _ _ | assumption) (fun h2 => ?_) (fun h2 => ?_)
      rotate_left
      · refine j_aload_n 32 rfl rfl dX4_write_31 ?_
        refine j_iconst 33 rfl dX4_write_32 ?_
        refine jV1i 36 rfl dX4_write_33 lk_X4_126 rfl rfl (by decide) ( rfl) ( rfl) (s_finding (by omega)) (fun r33 H1 ⟨e, hr33⟩ => ?_)
        subst e
        refine j_ireti dX4_write_36 rfl ?_
        exact Or.inr (Or.inl ⟨hok, h2, by omega, rfl⟩)
      · refine j_aload_n 38 rfl rfl dX4_write_37 ?_
        refine jV0v 41 rfl dX4_write_38 lk_X4_143 rfl rfl (by decide) ( rfl) ( rfl) (s_runAsTold h) (fun H2 ⟨hq, h10⟩ => ?_)
        refine j_iconst 42 rfl dX4_write_41 ?_
        refine j_istore 44 rfl st_5_4 (by decide) rfl dX4_write_42 ?_
        have e1 : H2 18 = H 18 := hq.1 18 (by decide) (by decide)
        have loop := jUp 0 (H 18 2) (fun i => jWP E mX4_write (jQi fun r H' => (¬ ((w = 0 ∨ w = 1) ∧ 0 ≤ (2 : Int) ∧ (2 : Int) < 4) ∧ r = -2 ∧ H' = H) ∨ (((w = 0 ∨ w = 1) ∧ 0 ≤ (2 : Int) ∧ (2 : Int) < 4) ∧ H 18 0 ≠ 0 ∧ r = -11 ∧ H' = jU H 0 8 1) ∨ (((w = 0 ∨ w = 1) ∧ 0 ≤ (2 : Int) ∧ (2 : Int) < 4) ∧ H 18 0 = 0 ∧ r = H 18 2 ∧ ∃ H1, CQ H H1 ∧ H' = jMp H1 19 (H 18 2) (fun i => jCut (H 18 1) (if w = 0 then pO (cfg H) i else pU (cfg H) i)))) 44 [some (jRF E 0), some (.int (jI w)), some (.int (jI 2)), some (jRF E 18), some (.int (jI i))] [] (jMp H2 19 i (fun i => jCut (H 18 1) (if w = 0 then pO (cfg H) i else pU (cfg H) i)))) ?_ ?_ 0 (by omega) (by omega)
        · rw [jMp_0] at loop
          exact loop
        · refine j_iload 46 rfl rfl dX4_write_44 ?_
          refine j_aload_n 47 rfl rfl dX4_write_46 ?_
          refine g_geti 50 rfl 2 2 rfl fl_X4_129 dX4_write_47 (by decide) ( rfl) ( rfl) ?_
          rw [jMp_k (by decide), e1]
          refine j_icmp_ge 99 53 (by decide) rfl dX4_write_50 (by intro hR; first | omega | exact hR _ _ | exact jb_r _ | exact hR0 _ _ | assumption) (by intro hR; first | omega | exact hR _ _ | exact jb_r _ | exact hR0 _ _ | assumption) (fun h3 => ?_) (fun h3 => ?_)
          · refine j_aload_n 100 rfl rfl dX4_write_99 ?_
            refine g_geti 103 rfl 2 2 rfl fl_X4_129 dX4_write_100 (by decide) ( rfl) ( rfl) ?_
            rw [jMp_k (by decide), e1]
            refine j_ireti dX4_write_103 rfl ?_
            exact Or.inr (Or.inr ⟨hok, h2, rfl, H2, hq, rfl⟩)
          · exfalso; omega
        · intro i h0 h1 ih
          rw [← jMp_s H2 19 (fun i => jCut (H 18 1) (if w = 0 then pO (cfg H) i else pU (cfg H) i)) h0] at ih
          refine j_iload 46 rfl rfl dX4_write_44 ?_
          refine j_aload_n 47 rfl rfl dX4_write_46 ?_
          refine g_geti 50 rfl 2 2 rfl fl_X4_129 dX4_write_47 (by decide) ( rfl) ( rfl) ?_
          rw [jMp_k (by decide), e1]
          refine j_icmp_ge 99 53 (by decide) rfl dX4_write_50 (by intro hR; first | omega | exact hR _ _ | exact jb_r _ | exact hR0 _ _ | assumption) (by intro hR; first | omega | exact hR _ _ | exact jb_r _ | exact hR0 _ _ | assumption) (fun h3 => ?_) (fun h3 => ?_)
          · exfalso; omega
          · refine j_iload 55 rfl rfl dX4_write_53 ?_
            refine j_bipush 57 rfl rfl dX4_write_55 ?_
            refine j_icmp_ge 99 60 (by decide) rfl dX4_write_57 (by intro hR; first | omega | exact hR _ _ | exact jb_r _ | exact hR0 _ _ | assumption) (by intro hR; first | omega | exact hR _ _ | exact jb_r _ | exact hR0 _ _ | assumption) (fun h4 => ?_) (fun h4 => ?_)
            · exfalso; omega
            · refine j_aload_n 61 rfl rfl dX4_write_60 ?_
              refine j_iload 63 rfl rfl dX4_write_61 ?_
              refine j_iload_n 64 rfl rfl dX4_write_63 ?_
              refine j_if_ne 80 67 (by decide) rfl dX4_write_64 (by intro hR; first | omega | exact hR _ _ | exact jb_r _ | exact hR0 _ _ | assumption) (fun h5 => ?_) (fun h5 => ?_)
              · rw [if_neg h5] at ih
                refine j_aload_n 81 rfl rfl dX4_write_80 ?_
                refine j_getr 84 rfl 9 fl_X4_52 dX4_write_81 (by decide) ( rfl) ( rfl) ?_
                refine j_getr 87 rfl 8 fl_X4_149 dX4_write_84 (by decide) ( rfl) ( rfl) ?_
                refine j_iload 89 rfl rfl dX4_write_87 ?_
                refine j_iald 90 rfl dX4_write_89 (by decide) rfl (by decide) rfl (by omega) ?_
                rw [jMp_k (by decide), (cq_arr hq h10 h0 (by omega)).2]
                refine jV2v 93 rfl dX4_write_90 lk_X4_231 rfl rfl (by decide) ( rfl) ( rfl) (s_put sh2 (by omega) (by have := pU_r (cfg_ok h.1).1 i; omega)) (fun H3 e => ?_)
                subst e
                rw [jMp_k (by decide), e1]
                refine j_iinc 96 rfl rfl st_5_4 (by decide) rfl dX4_write_93 ?_
                refine j_goto 44 (by decide) dX4_write_96 ?_
                exact ih
              · rw [if_pos h5] at ih
                refine j_aload_n 68 rfl rfl dX4_write_67 ?_
                refine j_getr 71 rfl 9 fl_X4_52 dX4_write_68 (by decide) ( rfl) ( rfl) ?_
                refine j_getr 74 rfl 7 fl_X4_146 dX4_write_71 (by decide) ( rfl) ( rfl) ?_
                refine j_iload 76 rfl rfl dX4_write_74 ?_
                refine j_iald 77 rfl dX4_write_76 (by decide) rfl (by decide) rfl (by omega) ?_
                refine j_goto 90 (by decide) dX4_write_77 ?_
                rw [jMp_k (by decide), (cq_arr hq h10 h0 (by omega)).1]
                refine jV2v 93 rfl dX4_write_90 lk_X4_231 rfl rfl (by decide) ( rfl) ( rfl) (s_put sh2 (by omega) (by have := pO_r (cfg_ok h.1).1 i; omega)) (fun H3 e => ?_)
                subst e
                rw [jMp_k (by decide), e1]
                refine j_iinc 96 rfl rfl st_5_4 (by decide) rfl dX4_write_93 ?_
                refine j_goto 44 (by decide) dX4_write_96 ?_
                exact ih
    · refine jOk.rng (fun hR0 => ?_)
      refine jOk.ofe rfl (Nat.le_of_ble_eq_true rfl) (en_aii_5 (E := E)) ?_
      refine j_iload_n 1 rfl rfl dX4_write_0 ?_
      refine jS1i 4 rfl dX4_write_1 lk_X4_140 rfl rfl (s_isEither (by omega)) (fun r1 H1 ⟨eh_, hr1⟩ => ?_)
      obtain rfl := eh_.symm
      refine j_if_eq 14 7 (by decide) rfl dX4_write_4 (by intro hR; first | omega | exact hR _ _ | exact jb_r _ | exact hR0 _ _ | assumption) (fun h4 => ?_) (fun h4 => ?_)
      · exfalso; omega
      refine j_iload_n 8 rfl rfl dX4_write_7 ?_
      refine jS1i 11 rfl dX4_write_8 lk_X4_120 rfl rfl (s_isSheet (by omega)) (fun r8 H1 ⟨eh_, hr8⟩ => ?_)
      obtain rfl := eh_.symm
      refine j_if_ne 17 14 (by decide) rfl dX4_write_11 (by intro hR; first | omega | exact hR _ _ | exact jb_r _ | exact hR0 _ _ | assumption) (fun h11 => ?_) (fun h11 => ?_)
      rotate_left
      · exfalso; omega
      refine j_aload_n 18 rfl rfl dX4_write_17 ?_
      refine j_getr 21 rfl 7 fl_X4_42 dX4_write_18 (by decide) ( rfl) ( rfl) ?_
      refine j_iload_n 22 rfl rfl dX4_write_21 ?_
      refine j_aald 23 rfl dX4_write_22 (by decide) rfl (by decide) rfl (by omega) (rfl)  ?_
      refine j_astore_n 24 rfl st_5_3 (by decide) rfl dX4_write_23 ?_
      refine j_aload_n 25 rfl rfl dX4_write_24 ?_
      refine g_geti 28 rfl 0 0 rfl fl_X4_123 dX4_write_25 (by decide) ( rfl) ( rfl) ?_
      refine j_if_eq 37 31 (by decide) rfl dX4_write_28 (by intro hR; first | omega | exact hR _ _ | exact jb_r _ | exact hR0 _ _ | assumption) (fun h2 => ?_) (fun h2 => ?_)
      rotate_left
      · refine j_aload_n 32 rfl rfl dX4_write_31 ?_
        refine j_iconst 33 rfl dX4_write_32 ?_
        refine jV1i 36 rfl dX4_write_33 lk_X4_126 rfl rfl (by decide) ( rfl) ( rfl) (s_finding (by omega)) (fun r33 H1 ⟨e, hr33⟩ => ?_)
        subst e
        refine j_ireti dX4_write_36 rfl ?_
        exact Or.inr (Or.inl ⟨hok, h2, by omega, rfl⟩)
      · refine j_aload_n 38 rfl rfl dX4_write_37 ?_
        refine jV0v 41 rfl dX4_write_38 lk_X4_143 rfl rfl (by decide) ( rfl) ( rfl) (s_runAsTold h) (fun H2 ⟨hq, h10⟩ => ?_)
        refine j_iconst 42 rfl dX4_write_41 ?_
        refine j_istore 44 rfl st_5_4 (by decide) rfl dX4_write_42 ?_
        have e1 : H2 20 = H 20 := hq.1 20 (by decide) (by decide)
        have loop := jUp 0 (H 20 2) (fun i => jWP E mX4_write (jQi fun r H' => (¬ ((w = 0 ∨ w = 1) ∧ 0 ≤ (3 : Int) ∧ (3 : Int) < 4) ∧ r = -2 ∧ H' = H) ∨ (((w = 0 ∨ w = 1) ∧ 0 ≤ (3 : Int) ∧ (3 : Int) < 4) ∧ H 20 0 ≠ 0 ∧ r = -11 ∧ H' = jU H 0 8 1) ∨ (((w = 0 ∨ w = 1) ∧ 0 ≤ (3 : Int) ∧ (3 : Int) < 4) ∧ H 20 0 = 0 ∧ r = H 20 2 ∧ ∃ H1, CQ H H1 ∧ H' = jMp H1 21 (H 20 2) (fun i => jCut (H 20 1) (if w = 0 then pO (cfg H) i else pU (cfg H) i)))) 44 [some (jRF E 0), some (.int (jI w)), some (.int (jI 3)), some (jRF E 20), some (.int (jI i))] [] (jMp H2 21 i (fun i => jCut (H 20 1) (if w = 0 then pO (cfg H) i else pU (cfg H) i)))) ?_ ?_ 0 (by omega) (by omega)
        · rw [jMp_0] at loop
          exact loop
        · refine j_iload 46 rfl rfl dX4_write_44 ?_
          refine j_aload_n 47 rfl rfl dX4_write_46 ?_
          refine g_geti 50 rfl 2 2 rfl fl_X4_129 dX4_write_47 (by decide) ( rfl) ( rfl) ?_
          rw [jMp_k (by decide), e1]
          refine j_icmp_ge 99 53 (by decide) rfl dX4_write_50 (by intro hR; first | omega | exact hR _ _ | exact jb_r _ | exact hR0 _ _ | assumption) (by intro hR; first | omega | exact hR _ _ | exact jb_r _ | exact hR0 _ _ | assumption) (fun h3 => ?_) (fun h3 => ?_)
          · refine j_aload_n 100 rfl rfl dX4_write_99 ?_
            refine g_geti 103 rfl 2 2 rfl fl_X4_129 dX4_write_100 (by decide) ( rfl) ( rfl) ?_
            rw [jMp_k (by decide), e1]
            refine j_ireti dX4_write_103 rfl ?_
            exact Or.inr (Or.inr ⟨hok, h2, rfl, H2, hq, rfl⟩)
          · exfalso; omega
        · intro i h0 h1 ih
          rw [← jMp_s H2 21 (fun i => jCut (H 20 1) (if w = 0 then pO (cfg H) i else pU (cfg H) i)) h0] at ih
          refine j_iload 46 rfl rfl dX4_write_44 ?_
          refine j_aload_n 47 rfl rfl dX4_write_46 ?_
          refine g_geti 50 rfl 2 2 rfl fl_X4_129 dX4_write_47 (by decide) ( rfl) ( rfl) ?_
          rw [jMp_k (by decide), e1]
          refine j_icmp_ge 99 53 (by decide) rfl dX4_write_50 (by intro hR; first | omega | exact hR _ _ | exact jb_r _ | exact hR0 _ _ | assumption) (by intro hR; first | omega | exact hR _ _ | exact jb_r _ | exact hR0 _ _ | assumption) (fun h3 => ?_) (fun h3 => ?_)
          · exfalso; omega
          · refine j_iload 55 rfl rfl dX4_write_53 ?_
            refine j_bipush 57 rfl rfl dX4_write_55 ?_
            refine j_icmp_ge 99 60 (by decide) rfl dX4_write_57 (by intro hR; first | omega | exact hR _ _ | exact jb_r _ | exact hR0 _ _ | assumption) (by intro hR; first | omega | exact hR _ _ | exact jb_r _ | exact hR0 _ _ | assumption) (fun h4 => ?_) (fun h4 => ?_)
            · exfalso; omega
            · refine j_aload_n 61 rfl rfl dX4_write_60 ?_
              refine j_iload 63 rfl rfl dX4_write_61 ?_
              refine j_iload_n 64 rfl rfl dX4_write_63 ?_
              refine j_if_ne 80 67 (by decide) rfl dX4_write_64 (by intro hR; first | omega | exact hR _ _ | exact jb_r _ | exact hR0 _ _ | assumption) (fun h5 => ?_) (fun h5 => ?_)
              · rw [if_neg h5] at ih
                refine j_aload_n 81 rfl rfl dX4_write_80 ?_
                refine j_getr 84 rfl 9 fl_X4_52 dX4_write_81 (by decide) ( rfl) ( rfl) ?_
                refine j_getr 87 rfl 8 fl_X4_149 dX4_write_84 (by decide) ( rfl) ( rfl) ?_
                refine j_iload 89 rfl rfl dX4_write_87 ?_
                refine j_iald 90 rfl dX4_write_89 (by decide) rfl (by decide) rfl (by omega) ?_
                rw [jMp_k (by decide), (cq_arr hq h10 h0 (by omega)).2]
                refine jV2v 93 rfl dX4_write_90 lk_X4_231 rfl rfl (by decide) ( rfl) ( rfl) (s_put sh3 (by omega) (by have := pU_r (cfg_ok h.1).1 i; omega)) (fun H3 e => ?_)
                subst e
                rw [jMp_k (by decide), e1]
                refine j_iinc 96 rfl rfl st_5_4 (by decide) rfl dX4_write_93 ?_
                refine j_goto 44 (by decide) dX4_write_96 ?_
                exact ih
              · rw [if_pos h5] at ih
                refine j_aload_n 68 rfl rfl dX4_write_67 ?_
                refine j_getr 71 rfl 9 fl_X4_52 dX4_write_68 (by decide) ( rfl) ( rfl) ?_
                refine j_getr 74 rfl 7 fl_X4_146 dX4_write_71 (by decide) ( rfl) ( rfl) ?_
                refine j_iload 76 rfl rfl dX4_write_74 ?_
                refine j_iald 77 rfl dX4_write_76 (by decide) rfl (by decide) rfl (by omega) ?_
                refine j_goto 90 (by decide) dX4_write_77 ?_
                rw [jMp_k (by decide), (cq_arr hq h10 h0 (by omega)).1]
                refine jV2v 93 rfl dX4_write_90 lk_X4_231 rfl rfl (by decide) ( rfl) ( rfl) (s_put sh3 (by omega) (by have := pO_r (cfg_ok h.1).1 i; omega)) (fun H3 e => ?_)
                subst e
                rw [jMp_k (by decide), e1]
                refine j_iinc 96 rfl rfl st_5_4 (by decide) rfl dX4_write_93 ?_
                refine j_goto 44 (by decide) dX4_write_96 ?_
                exact ih
    · exfalso; omega
  · refine jOk.rng (fun hR0 => ?_)
    refine jOk.ofe rfl (Nat.le_of_ble_eq_true rfl) (en_aii_5 (E := E)) ?_
    refine j_iload_n 1 rfl rfl dX4_write_0 ?_
    refine jS1i 4 rfl dX4_write_1 lk_X4_140 rfl rfl (s_isEither (by omega)) (fun r1 H1 ⟨eh_, hr1⟩ => ?_)
    obtain rfl := eh_.symm
    refine j_if_eq 14 7 (by decide) rfl dX4_write_4 (by intro hR; first | omega | exact hR _ _ | exact jb_r _ | exact hR0 _ _ | assumption) (fun h4 => ?_) (fun h4 => ?_)
    · refine j_bipush 16 rfl rfl dX4_write_14 ?_
      refine j_ireti dX4_write_16 rfl ?_
      exact Or.inl ⟨by omega, rfl, rfl⟩
    · refine j_iload_n 8 rfl rfl dX4_write_7 ?_
      refine jS1i 11 rfl dX4_write_8 lk_X4_120 rfl rfl (s_isSheet (by omega)) (fun r8 H1 ⟨eh_, hr8⟩ => ?_)
      obtain rfl := eh_.symm
      refine j_if_ne 17 14 (by decide) rfl dX4_write_11 (by intro hR; first | omega | exact hR _ _ | exact jb_r _ | exact hR0 _ _ | assumption) (fun h11 => ?_) (fun h11 => ?_)
      · exfalso; omega
      · refine j_bipush 16 rfl rfl dX4_write_14 ?_
        refine j_ireti dX4_write_16 rfl ?_
        exact Or.inl ⟨by omega, rfl, rfl⟩
-- X4_read
theorem s_read {s : Int} {k l : Nat} (hk : jShx s k l) (hs : -2147483648 ≤ s ∧ s ≤ 2147483647) (h : CI H) : jOk E mX4_read [jRF E 0, .int (jI s)] H (jQi fun r H' =>
    (¬ (0 ≤ s ∧ s < 4) ∧ r = -2 ∧ H' = H) ∨ ((0 ≤ s ∧ s < 4) ∧ H k 0 ≠ 0 ∧ r = -11 ∧ H' = jU H 0 8 1) ∨
    ((0 ≤ s ∧ s < 4) ∧ H k 0 = 0 ∧ isRd (H l) (H k 2) (H 7 3) r ∧ H' = tl H l r)) := by
  have htd := h.1.2.2.2.2.1.1
  by_cases hok : 0 ≤ s ∧ s < 4
  · have hz : 0 ≤ H k 2 ∧ H k 2 ≤ 60 := by
      rcases hk with ⟨rfl, rfl, rfl⟩ | ⟨rfl, rfl, rfl⟩ | ⟨rfl, rfl, rfl⟩ | ⟨rfl, rfl, rfl⟩ | hb
      · exact (h.1.2.2.2.2.2.2 _ _ sh0).2.2
      · exact (h.1.2.2.2.2.2.2 _ _ sh1).2.2
      · exact (h.1.2.2.2.2.2.2 _ _ sh2).2.2
      · exact (h.1.2.2.2.2.2.2 _ _ sh3).2.2
      · omega
    rcases hk with ⟨rfl, rfl, rfl⟩ | ⟨rfl, rfl, rfl⟩ | ⟨rfl, rfl, rfl⟩ | ⟨rfl, rfl, rfl⟩ | hb
    · refine jOk.rng (fun hR1 => ?_)
      refine jOk.rng (fun hR0 => ?_)
      refine jOk.ofe rfl (Nat.le_of_ble_eq_true rfl) (en_ai_6 (E := E)) ?_
      refine j_iload_n 1 rfl rfl dX4_read_0 ?_
      refine jS1i 4 rfl dX4_read_1 lk_X4_120 rfl rfl (s_isSheet (by omega)) (fun r1 H1 ⟨eh_, hr1⟩ => ?_)
      obtain rfl := eh_.symm
      refine j_if_ne 10 7 (by decide) rfl dX4_read_4 (by intro hR; first | omega | exact hR _ _ | exact jb_r _ | exact hR0 _ _ | assumption) (fun h4 => ?_) (fun h4 => ?_)
      rotate_left
      · exfalso; omega
      refine j_aload_n 11 rfl rfl dX4_read_10 ?_
      refine j_getr 14 rfl 7 fl_X4_42 dX4_read_11 (by decide) ( rfl) ( rfl) ?_
      refine j_iload_n 15 rfl rfl dX4_read_14 ?_
      refine j_aald 16 rfl dX4_read_15 (by decide) rfl (by decide) rfl (by omega) (rfl)  ?_
      refine j_astore_n 17 rfl st_6_2 (by decide) rfl dX4_read_16 ?_
      refine j_aload_n 18 rfl rfl dX4_read_17 ?_
      refine g_geti 21 rfl 0 0 rfl fl_X4_123 dX4_read_18 (by decide) ( rfl) ( rfl) ?_
      refine j_if_eq 30 24 (by decide) rfl dX4_read_21 (by intro hR; first | omega | exact hR _ _ | exact jb_r _ | exact hR0 _ _ | assumption) (fun h2 => ?_) (fun h2 => ?_)
      rotate_left
      · refine j_aload_n 25 rfl rfl dX4_read_24 ?_
        refine j_iconst 26 rfl dX4_read_25 ?_
        refine jV1i 29 rfl dX4_read_26 lk_X4_126 rfl rfl (by decide) ( rfl) ( rfl) (s_finding (by omega)) (fun r26 H1 ⟨e, hr26⟩ => ?_)
        subst e
        refine j_ireti dX4_read_29 rfl ?_
        exact Or.inr (Or.inl ⟨hok, h2, by omega, rfl⟩)
      · refine j_aload_n 31 rfl rfl dX4_read_30 ?_
        refine j_getr 34 rfl 3 fl_X4_27 dX4_read_31 (by decide) ( rfl) ( rfl) ?_
        refine g_geti 37 rfl 3 3 rfl fl_X4_113 dX4_read_34 (by decide) ( rfl) ( rfl) ?_
        refine j_istore_n 38 rfl st_6_3 (by decide) rfl dX4_read_37 ?_
        refine j_iconst 39 rfl dX4_read_38 ?_
        refine j_istore 41 rfl st_6_4 (by decide) rfl dX4_read_39 ?_
        refine j_iconst 42 rfl dX4_read_41 ?_
        refine j_istore 44 rfl st_6_5 (by decide) rfl dX4_read_42 ?_
        have loop := jUp 0 21 (fun i => (∀ q, 0 ≤ q → q < i → 3 * q + 2 < H 14 2 ∧ may3 (H 15 (3 * q)) (H 15 (3 * q + 1)) (H 15 (3 * q + 2)) ∧ H 7 3 + q < 24) → jWP E mX4_read (jQi fun r H' => (¬ (0 ≤ (0 : Int) ∧ (0 : Int) < 4) ∧ r = -2 ∧ H' = H) ∨ ((0 ≤ (0 : Int) ∧ (0 : Int) < 4) ∧ H 14 0 ≠ 0 ∧ r = -11 ∧ H' = jU H 0 8 1) ∨ ((0 ≤ (0 : Int) ∧ (0 : Int) < 4) ∧ H 14 0 = 0 ∧ isRd (H 15) (H 14 2) (H 7 3) r ∧ H' = tl H 15 r)) 44 [some (jRF E 0), some (.int (jI 0)), some (jRF E 14), some (.int (jI (H 7 3))), some (.int (jI 1)), some (.int (jI (3 * i)))] [] (tl H 15 i)) ?_ ?_ 0 (by omega) (by omega)
        · exact loop (fun q a b => by omega)
        · intro hz2
          exfalso
          have := hz2 20 (by omega) (by omega)
          omega
        · intro i h0 h1 ih hz2
          have fin : ∀ x4 x5, ¬ (3 * i + 2 < H 14 2 ∧ may3 (H 15 (3 * i)) (H 15 (3 * i + 1)) (H 15 (3 * i + 2)) ∧ H 7 3 + i < 24) → jWP E mX4_read (jQi fun r H' => (¬ (0 ≤ (0 : Int) ∧ (0 : Int) < 4) ∧ r = -2 ∧ H' = H) ∨ ((0 ≤ (0 : Int) ∧ (0 : Int) < 4) ∧ H 14 0 ≠ 0 ∧ r = -11 ∧ H' = jU H 0 8 1) ∨ ((0 ≤ (0 : Int) ∧ (0 : Int) < 4) ∧ H 14 0 = 0 ∧ isRd (H 15) (H 14 2) (H 7 3) r ∧ H' = tl H 15 r)) 114 [some (jRF E 0), some (.int (jI 0)), some (jRF E 14), some (.int (jI (H 7 3))), x4, x5] [] (tl H 15 i) := by
            intro x4 x5 hn
            refine j_aload_n 115 rfl rfl dX4_read_114 ?_
            refine j_getr 118 rfl 3 fl_X4_27 dX4_read_115 (by decide) ( rfl) ( rfl) ?_
            refine g_geti 121 rfl 3 3 rfl fl_X4_113 dX4_read_118 (by decide) ( rfl) ( rfl) ?_
            rw [tl_7 H 15 h0]
            refine j_iload_n 122 rfl rfl dX4_read_121 ?_
            refine j_isub 123 rfl dX4_read_122 ?_
            rw [show H 7 3 + i - H 7 3 = i by omega]
            refine j_ireti dX4_read_123 rfl ?_
            exact Or.inr (Or.inr ⟨hok, h2, ⟨h0, hz2, hn⟩, rfl⟩)
          refine j_iload 46 rfl rfl dX4_read_44 ?_
          refine j_if_eq 114 49 (by decide) rfl dX4_read_46 (by intro hR; first | omega | exact hR _ _ | exact jb_r _ | exact hR0 _ _ | assumption) (fun h3 => ?_) (fun h3 => ?_)
          · exfalso; omega
          · refine j_iload 51 rfl rfl dX4_read_49 ?_
            refine j_iconst 52 rfl dX4_read_51 ?_
            refine j_iadd 53 rfl dX4_read_52 ?_
            refine j_aload_n 54 rfl rfl dX4_read_53 ?_
            refine g_geti 57 rfl 2 2 rfl fl_X4_129 dX4_read_54 (by decide) ( rfl) ( rfl) ?_
            rw [tl_o H 15 (by decide)]
            refine j_icmp_ge 114 60 (by decide) rfl dX4_read_57 (by intro hR; first | omega | exact hR _ _ | exact jb_r _ | exact hR0 _ _ | assumption) (by intro hR; first | omega | exact hR _ _ | exact jb_r _ | exact hR0 _ _ | assumption) (fun h4 => ?_) (fun h4 => ?_)
            · exact fin _ _ (fun q => by omega)
            · refine j_iload 62 rfl rfl dX4_read_60 ?_
              refine j_iconst 63 rfl dX4_read_62 ?_
              refine j_iadd 64 rfl dX4_read_63 ?_
              refine j_bipush 66 rfl rfl dX4_read_64 ?_
              refine j_icmp_ge 114 69 (by decide) rfl dX4_read_66 (by intro hR; first | omega | exact hR _ _ | exact jb_r _ | exact hR0 _ _ | assumption) (by intro hR; first | omega | exact hR _ _ | exact jb_r _ | exact hR0 _ _ | assumption) (fun h5 => ?_) (fun h5 => ?_)
              · exfalso; omega
              · refine j_aload_n 70 rfl rfl dX4_read_69 ?_
                refine j_aload_n 71 rfl rfl dX4_read_70 ?_
                refine j_getr 74 rfl 3 fl_X4_130 dX4_read_71 (by decide) ( rfl) ( rfl) ?_
                refine j_iload 76 rfl rfl dX4_read_74 ?_
                refine j_iald 77 rfl dX4_read_76 (by decide) rfl (by decide) rfl (by omega) ?_
                rw [tl_o H 15 (by decide)]
                refine j_aload_n 78 rfl rfl dX4_read_77 ?_
                refine j_getr 81 rfl 3 fl_X4_130 dX4_read_78 (by decide) ( rfl) ( rfl) ?_
                refine j_iload 83 rfl rfl dX4_read_81 ?_
                refine j_iconst 84 rfl dX4_read_83 ?_
                refine j_iadd 85 rfl dX4_read_84 ?_
                refine j_iald 86 rfl dX4_read_85 (by decide) rfl (by decide) rfl (by omega) ?_
                rw [tl_o H 15 (by decide)]
                refine j_aload_n 87 rfl rfl dX4_read_86 ?_
                refine j_getr 90 rfl 3 fl_X4_130 dX4_read_87 (by decide) ( rfl) ( rfl) ?_
                refine j_iload 92 rfl rfl dX4_read_90 ?_
                refine j_iconst 93 rfl dX4_read_92 ?_
                refine j_iadd 94 rfl dX4_read_93 ?_
                refine j_iald 95 rfl dX4_read_94 (by decide) rfl (by decide) rfl (by omega) ?_
                rw [tl_o H 15 (by decide)]
                have e7 := tl_7 H 15 h0
                have q20 : 0 < i → H 7 3 + (i - 1) < 24 := fun q => (hz2 (i - 1) (by omega) (by omega)).2.2
                refine jV3i 98 rfl dX4_read_95 lk_X4_133 rfl rfl (by decide) ( rfl) ( rfl) (s_tell (hR1 15 (3 * i)) (hR1 15 (3 * i + 1)) (hR1 15 (3 * i + 2)) (by rw [e7]; omega)) (fun x H3 hx => ?_)
                rw [e7] at hx
                rcases hx with ⟨x1, x2, x3⟩ | ⟨x1, x2, x3, x4⟩ | ⟨x1, x2, x3, x4⟩
                · subst x3
                  refine j_if_le 105 101 (by decide) rfl dX4_read_98 (by intro hR; first | omega | exact hR _ _ | exact jb_r _ | exact hR0 _ _ | assumption) (fun h6 => ?_) (fun h6 => ?_)
                  · refine j_iconst 106 rfl dX4_read_105 ?_
                    refine j_istore 108 rfl st_6_4 (by decide) rfl dX4_read_106 ?_
                    refine j_iinc 111 rfl rfl st_6_5 (by decide) rfl dX4_read_108 ?_
                    refine j_goto 44 (by decide) dX4_read_111 ?_
                    refine j_iload 46 rfl rfl dX4_read_44 ?_
                    refine j_if_eq 114 49 (by decide) rfl dX4_read_46 (by intro hR; first | omega | exact hR _ _ | exact jb_r _ | exact hR0 _ _ | assumption) (fun h7 => ?_) (fun h7 => ?_)
                    · exact fin _ _ (fun q => x1 q.2.1)
                    · exfalso; omega
                  · exfalso; omega
                · subst x4
                  refine j_if_le 105 101 (by decide) rfl dX4_read_98 (by intro hR; first | omega | exact hR _ _ | exact jb_r _ | exact hR0 _ _ | assumption) (fun h6 => ?_) (fun h6 => ?_)
                  · refine j_iconst 106 rfl dX4_read_105 ?_
                    refine j_istore 108 rfl st_6_4 (by decide) rfl dX4_read_106 ?_
                    refine j_iinc 111 rfl rfl st_6_5 (by decide) rfl dX4_read_108 ?_
                    refine j_goto 44 (by decide) dX4_read_111 ?_
                    refine j_iload 46 rfl rfl dX4_read_44 ?_
                    refine j_if_eq 114 49 (by decide) rfl dX4_read_46 (by intro hR; first | omega | exact hR _ _ | exact jb_r _ | exact hR0 _ _ | assumption) (fun h7 => ?_) (fun h7 => ?_)
                    · exact fin _ _ (fun q => by omega)
                    · exfalso; omega
                  · exfalso; omega
                · subst x4
                  rw [← tl_s H 15 h0]
                  refine j_if_le 105 101 (by decide) rfl dX4_read_98 (by intro hR; first | omega | exact hR _ _ | exact jb_r _ | exact hR0 _ _ | assumption) (fun h6 => ?_) (fun h6 => ?_)
                  · exfalso; omega
                  · refine j_iconst 102 rfl dX4_read_101 ?_
                    refine j_goto 106 (by decide) dX4_read_102 ?_
                    refine j_istore 108 rfl st_6_4 (by decide) rfl dX4_read_106 ?_
                    refine j_iinc 111 rfl rfl st_6_5 (by decide) rfl dX4_read_108 ?_
                    refine j_goto 44 (by decide) dX4_read_111 ?_
                    rw [show 3 * i + 3 = 3 * (i + 1) by omega]
                    refine ih (fun q q0 q1 => ?_)
                    by_cases hqi : q = i
                    · subst hqi
                      exact ⟨h4, x1, x2⟩
                    · exact hz2 q q0 (by omega)
    · refine jOk.rng (fun hR1 => ?_)
      refine jOk.rng (fun hR0 => ?_)
      refine jOk.ofe rfl (Nat.le_of_ble_eq_true rfl) (en_ai_6 (E := E)) ?_
      refine j_iload_n 1 rfl rfl dX4_read_0 ?_
      refine jS1i 4 rfl dX4_read_1 lk_X4_120 rfl rfl (s_isSheet (by omega)) (fun r1 H1 ⟨eh_, hr1⟩ => ?_)
      obtain rfl := eh_.symm
      refine j_if_ne 10 7 (by decide) rfl dX4_read_4 (by intro hR; first | omega | exact hR _ _ | exact jb_r _ | exact hR0 _ _ | assumption) (fun h4 => ?_) (fun h4 => ?_)
      rotate_left
      · exfalso; omega
      refine j_aload_n 11 rfl rfl dX4_read_10 ?_
      refine j_getr 14 rfl 7 fl_X4_42 dX4_read_11 (by decide) ( rfl) ( rfl) ?_
      refine j_iload_n 15 rfl rfl dX4_read_14 ?_
      refine j_aald 16 rfl dX4_read_15 (by decide) rfl (by decide) rfl (by omega) (rfl)  ?_
      refine j_astore_n 17 rfl st_6_2 (by decide) rfl dX4_read_16 ?_
      refine j_aload_n 18 rfl rfl dX4_read_17 ?_
      refine g_geti 21 rfl 0 0 rfl fl_X4_123 dX4_read_18 (by decide) ( rfl) ( rfl) ?_
      refine j_if_eq 30 24 (by decide) rfl dX4_read_21 (by intro hR; first | omega | exact hR _ _ | exact jb_r _ | exact hR0 _ _ | assumption) (fun h2 => ?_) (fun h2 => ?_)
      rotate_left
      · refine j_aload_n 25 rfl rfl dX4_read_24 ?_
        refine j_iconst 26 rfl dX4_read_25 ?_
        refine jV1i 29 rfl dX4_read_26 lk_X4_126 rfl rfl (by decide) ( rfl) ( rfl) (s_finding (by omega)) (fun r26 H1 ⟨e, hr26⟩ => ?_)
        subst e
        refine j_ireti dX4_read_29 rfl ?_
        exact Or.inr (Or.inl ⟨hok, h2, by omega, rfl⟩)
      · refine j_aload_n 31 rfl rfl dX4_read_30 ?_
        refine j_getr 34 rfl 3 fl_X4_27 dX4_read_31 (by decide) ( rfl) ( rfl) ?_
        refine g_geti 37 rfl 3 3 rfl fl_X4_113 dX4_read_34 (by decide) ( rfl) ( rfl) ?_
        refine j_istore_n 38 rfl st_6_3 (by decide) rfl dX4_read_37 ?_
        refine j_iconst 39 rfl dX4_read_38 ?_
        refine j_istore 41 rfl st_6_4 (by decide) rfl dX4_read_39 ?_
        refine j_iconst 42 rfl dX4_read_41 ?_
        refine j_istore 44 rfl st_6_5 (by decide) rfl dX4_read_42 ?_
        have loop := jUp 0 21 (fun i => (∀ q, 0 ≤ q → q < i → 3 * q + 2 < H 16 2 ∧ may3 (H 17 (3 * q)) (H 17 (3 * q + 1)) (H 17 (3 * q + 2)) ∧ H 7 3 + q < 24) → jWP E mX4_read (jQi fun r H' => (¬ (0 ≤ (1 : Int) ∧ (1 : Int) < 4) ∧ r = -2 ∧ H' = H) ∨ ((0 ≤ (1 : Int) ∧ (1 : Int) < 4) ∧ H 16 0 ≠ 0 ∧ r = -11 ∧ H' = jU H 0 8 1) ∨ ((0 ≤ (1 : Int) ∧ (1 : Int) < 4) ∧ H 16 0 = 0 ∧ isRd (H 17) (H 16 2) (H 7 3) r ∧ H' = tl H 17 r)) 44 [some (jRF E 0), some (.int (jI 1)), some (jRF E 16), some (.int (jI (H 7 3))), some (.int (jI 1)), some (.int (jI (3 * i)))] [] (tl H 17 i)) ?_ ?_ 0 (by omega) (by omega)
        · exact loop (fun q a b => by omega)
        · intro hz2
          exfalso
          have := hz2 20 (by omega) (by omega)
          omega
        · intro i h0 h1 ih hz2
          have fin : ∀ x4 x5, ¬ (3 * i + 2 < H 16 2 ∧ may3 (H 17 (3 * i)) (H 17 (3 * i + 1)) (H 17 (3 * i + 2)) ∧ H 7 3 + i < 24) → jWP E mX4_read (jQi fun r H' => (¬ (0 ≤ (1 : Int) ∧ (1 : Int) < 4) ∧ r = -2 ∧ H' = H) ∨ ((0 ≤ (1 : Int) ∧ (1 : Int) < 4) ∧ H 16 0 ≠ 0 ∧ r = -11 ∧ H' = jU H 0 8 1) ∨ ((0 ≤ (1 : Int) ∧ (1 : Int) < 4) ∧ H 16 0 = 0 ∧ isRd (H 17) (H 16 2) (H 7 3) r ∧ H' = tl H 17 r)) 114 [some (jRF E 0), some (.int (jI 1)), some (jRF E 16), some (.int (jI (H 7 3))), x4, x5] [] (tl H 17 i) := by
            intro x4 x5 hn
            refine j_aload_n 115 rfl rfl dX4_read_114 ?_
            refine j_getr 118 rfl 3 fl_X4_27 dX4_read_115 (by decide) ( rfl) ( rfl) ?_
            refine g_geti 121 rfl 3 3 rfl fl_X4_113 dX4_read_118 (by decide) ( rfl) ( rfl) ?_
            rw [tl_7 H 17 h0]
            refine j_iload_n 122 rfl rfl dX4_read_121 ?_
            refine j_isub 123 rfl dX4_read_122 ?_
            rw [show H 7 3 + i - H 7 3 = i by omega]
            refine j_ireti dX4_read_123 rfl ?_
            exact Or.inr (Or.inr ⟨hok, h2, ⟨h0, hz2, hn⟩, rfl⟩)
          refine j_iload 46 rfl rfl dX4_read_44 ?_
          refine j_if_eq 114 49 (by decide) rfl dX4_read_46 (by intro hR; first | omega | exact hR _ _ | exact jb_r _ | exact hR0 _ _ | assumption) (fun h3 => ?_) (fun h3 => ?_)
          · exfalso; omega
          · refine j_iload 51 rfl rfl dX4_read_49 ?_
            refine j_iconst 52 rfl dX4_read_51 ?_
            refine j_iadd 53 rfl dX4_read_52 ?_
            refine j_aload_n 54 rfl rfl dX4_read_53 ?_
            refine g_geti 57 rfl 2 2 rfl fl_X4_129 dX4_read_54 (by decide) ( rfl) ( rfl) ?_
            rw [tl_o H 17 (by decide)]
            refine j_icmp_ge 114 60 (by decide) rfl dX4_read_57 (by intro hR; first | omega | exact hR _ _ | exact jb_r _ | exact hR0 _ _ | assumption) (by intro hR; first | omega | exact hR _ _ | exact jb_r _ | exact hR0 _ _ | assumption) (fun h4 => ?_) (fun h4 => ?_)
            · exact fin _ _ (fun q => by omega)
            · refine j_iload 62 rfl rfl dX4_read_60 ?_
              refine j_iconst 63 rfl dX4_read_62 ?_
              refine j_iadd 64 rfl dX4_read_63 ?_
              refine j_bipush 66 rfl rfl dX4_read_64 ?_
              refine j_icmp_ge 114 69 (by decide) rfl dX4_read_66 (by intro hR; first | omega | exact hR _ _ | exact jb_r _ | exact hR0 _ _ | assumption) (by intro hR; first | omega | exact hR _ _ | exact jb_r _ | exact hR0 _ _ | assumption) (fun h5 => ?_) (fun h5 => ?_)
              · exfalso; omega
              · refine j_aload_n 70 rfl rfl dX4_read_69 ?_
                refine j_aload_n 71 rfl rfl dX4_read_70 ?_
                refine j_getr 74 rfl 3 fl_X4_130 dX4_read_71 (by decide) ( rfl) ( rfl) ?_
                refine j_iload 76 rfl rfl dX4_read_74 ?_
                refine j_iald 77 rfl dX4_read_76 (by decide) rfl (by decide) rfl (by omega) ?_
                rw [tl_o H 17 (by decide)]
                refine j_aload_n 78 rfl rfl dX4_read_77 ?_
                refine j_getr 81 rfl 3 fl_X4_130 dX4_read_78 (by decide) ( rfl) ( rfl) ?_
                refine j_iload 83 rfl rfl dX4_read_81 ?_
                refine j_iconst 84 rfl dX4_read_83 ?_
                refine j_iadd 85 rfl dX4_read_84 ?_
                refine j_iald 86 rfl dX4_read_85 (by decide) rfl (by decide) rfl (by omega) ?_
                rw [tl_o H 17 (by decide)]
                refine j_aload_n 87 rfl rfl dX4_read_86 ?_
                refine j_getr 90 rfl 3 fl_X4_130 dX4_read_87 (by decide) ( rfl) ( rfl) ?_
                refine j_iload 92 rfl rfl dX4_read_90 ?_
                refine j_iconst 93 rfl dX4_read_92 ?_
                refine j_iadd 94 rfl dX4_read_93 ?_
                refine j_iald 95 rfl dX4_read_94 (by decide) rfl (by decide) rfl (by omega) ?_
                rw [tl_o H 17 (by decide)]
                have e7 := tl_7 H 17 h0
                have q20 : 0 < i → H 7 3 + (i - 1) < 24 := fun q => (hz2 (i - 1) (by omega) (by omega)).2.2
                refine jV3i 98 rfl dX4_read_95 lk_X4_133 rfl rfl (by decide) ( rfl) ( rfl) (s_tell (hR1 17 (3 * i)) (hR1 17 (3 * i + 1)) (hR1 17 (3 * i + 2)) (by rw [e7]; omega)) (fun x H3 hx => ?_)
                rw [e7] at hx
                rcases hx with ⟨x1, x2, x3⟩ | ⟨x1, x2, x3, x4⟩ | ⟨x1, x2, x3, x4⟩
                · subst x3
                  refine j_if_le 105 101 (by decide) rfl dX4_read_98 (by intro hR; first | omega | exact hR _ _ | exact jb_r _ | exact hR0 _ _ | assumption) (fun h6 => ?_) (fun h6 => ?_)
                  · refine j_iconst 106 rfl dX4_read_105 ?_
                    refine j_istore 108 rfl st_6_4 (by decide) rfl dX4_read_106 ?_
                    refine j_iinc 111 rfl rfl st_6_5 (by decide) rfl dX4_read_108 ?_
                    refine j_goto 44 (by decide) dX4_read_111 ?_
                    refine j_iload 46 rfl rfl dX4_read_44 ?_
                    refine j_if_eq 114 49 (by decide) rfl dX4_read_46 (by intro hR; first | omega | exact hR _ _ | exact jb_r _ | exact hR0 _ _ | assumption) (fun h7 => ?_) (fun h7 => ?_)
                    · exact fin _ _ (fun q => x1 q.2.1)
                    · exfalso; omega
                  · exfalso; omega
                · subst x4
                  refine j_if_le 105 101 (by decide) rfl dX4_read_98 (by intro hR; first | omega | exact hR _ _ | exact jb_r _ | exact hR0 _ _ | assumption) (fun h6 => ?_) (fun h6 => ?_)
                  · refine j_iconst 106 rfl dX4_read_105 ?_
                    refine j_istore 108 rfl st_6_4 (by decide) rfl dX4_read_106 ?_
                    refine j_iinc 111 rfl rfl st_6_5 (by decide) rfl dX4_read_108 ?_
                    refine j_goto 44 (by decide) dX4_read_111 ?_
                    refine j_iload 46 rfl rfl dX4_read_44 ?_
                    refine j_if_eq 114 49 (by decide) rfl dX4_read_46 (by intro hR; first | omega | exact hR _ _ | exact jb_r _ | exact hR0 _ _ | assumption) (fun h7 => ?_) (fun h7 => ?_)
                    · exact fin _ _ (fun q => by omega)
                    · exfalso; omega
                  · exfalso; omega
                · subst x4
                  rw [← tl_s H 17 h0]
                  refine j_if_le 105 101 (by decide) rfl dX4_read_98 (by intro hR; first | omega | exact hR _ _ | exact jb_r _ | exact hR0 _ _ | assumption) (fun h6 => ?_) (fun h6 => ?_)
                  · exfalso; omega
                  · refine j_iconst 102 rfl dX4_read_101 ?_
                    refine j_goto 106 (by decide) dX4_read_102 ?_
                    refine j_istore 108 rfl st_6_4 (by decide) rfl dX4_read_106 ?_
                    refine j_iinc 111 rfl rfl st_6_5 (by decide) rfl dX4_read_108 ?_
                    refine j_goto 44 (by decide) dX4_read_111 ?_
                    rw [show 3 * i + 3 = 3 * (i + 1) by omega]
                    refine ih (fun q q0 q1 => ?_)
                    by_cases hqi : q = i
                    · subst hqi
                      exact ⟨h4, x1, x2⟩
                    · exact hz2 q q0 (by omega)
    · refine jOk.rng (fun hR1 => ?_)
      refine jOk.rng (fun hR0 => ?_)
      refine jOk.ofe rfl (Nat.le_of_ble_eq_true rfl) (en_ai_6 (E := E)) ?_
      refine j_iload_n 1 rfl rfl dX4_read_0 ?_
      refine jS1i 4 rfl dX4_read_1 lk_X4_120 rfl rfl (s_isSheet (by omega)) (fun r1 H1 ⟨eh_, hr1⟩ => ?_)
      obtain rfl := eh_.symm
      refine j_if_ne 10 7 (by decide) rfl dX4_read_4 (by intro hR; first | omega | exact hR _ _ | exact jb_r _ | exact hR0 _ _ | assumption) (fun h4 => ?_) (fun h4 => ?_)
      rotate_left
      · exfalso; omega
      refine j_aload_n 11 rfl rfl dX4_read_10 ?_
      refine j_getr 14 rfl 7 fl_X4_42 dX4_read_11 (by decide) ( rfl) ( rfl) ?_
      refine j_iload_n 15 rfl rfl dX4_read_14 ?_
      refine j_aald 16 rfl dX4_read_15 (by decide) rfl (by decide) rfl (by omega) (rfl)  ?_
      refine j_astore_n 17 rfl st_6_2 (by decide) rfl dX4_read_16 ?_
      refine j_aload_n 18 rfl rfl dX4_read_17 ?_
      refine g_geti 21 rfl 0 0 rfl fl_X4_123 dX4_read_18 (by decide) ( rfl) ( rfl) ?_
      refine j_if_eq 30 24 (by decide) rfl dX4_read_21 (by intro hR; first | omega | exact hR _ _ | exact jb_r _ | exact hR0 _ _ | assumption) (fun h2 => ?_) (fun h2 => ?_)
      rotate_left
      · refine j_aload_n 25 rfl rfl dX4_read_24 ?_
        refine j_iconst 26 rfl dX4_read_25 ?_
        refine jV1i 29 rfl dX4_read_26 lk_X4_126 rfl rfl (by decide) ( rfl) ( rfl) (s_finding (by omega)) (fun r26 H1 ⟨e, hr26⟩ => ?_)
        subst e
        refine j_ireti dX4_read_29 rfl ?_
        exact Or.inr (Or.inl ⟨hok, h2, by omega, rfl⟩)
      · refine j_aload_n 31 rfl rfl dX4_read_30 ?_
        refine j_getr 34 rfl 3 fl_X4_27 dX4_read_31 (by decide) ( rfl) ( rfl) ?_
        refine g_geti 37 rfl 3 3 rfl fl_X4_113 dX4_read_34 (by decide) ( rfl) ( rfl) ?_
        refine j_istore_n 38 rfl st_6_3 (by decide) rfl dX4_read_37 ?_
        refine j_iconst 39 rfl dX4_read_38 ?_
        refine j_istore 41 rfl st_6_4 (by decide) rfl dX4_read_39 ?_
        refine j_iconst 42 rfl dX4_read_41 ?_
        refine j_istore 44 rfl st_6_5 (by decide) rfl dX4_read_42 ?_
        have loop := jUp 0 21 (fun i => (∀ q, 0 ≤ q → q < i → 3 * q + 2 < H 18 2 ∧ may3 (H 19 (3 * q)) (H 19 (3 * q + 1)) (H 19 (3 * q + 2)) ∧ H 7 3 + q < 24) → jWP E mX4_read (jQi fun r H' => (¬ (0 ≤ (2 : Int) ∧ (2 : Int) < 4) ∧ r = -2 ∧ H' = H) ∨ ((0 ≤ (2 : Int) ∧ (2 : Int) < 4) ∧ H 18 0 ≠ 0 ∧ r = -11 ∧ H' = jU H 0 8 1) ∨ ((0 ≤ (2 : Int) ∧ (2 : Int) < 4) ∧ H 18 0 = 0 ∧ isRd (H 19) (H 18 2) (H 7 3) r ∧ H' = tl H 19 r)) 44 [some (jRF E 0), some (.int (jI 2)), some (jRF E 18), some (.int (jI (H 7 3))), some (.int (jI 1)), some (.int (jI (3 * i)))] [] (tl H 19 i)) ?_ ?_ 0 (by omega) (by omega)
        · exact loop (fun q a b => by omega)
        · intro hz2
          exfalso
          have := hz2 20 (by omega) (by omega)
          omega
        · intro i h0 h1 ih hz2
          have fin : ∀ x4 x5, ¬ (3 * i + 2 < H 18 2 ∧ may3 (H 19 (3 * i)) (H 19 (3 * i + 1)) (H 19 (3 * i + 2)) ∧ H 7 3 + i < 24) → jWP E mX4_read (jQi fun r H' => (¬ (0 ≤ (2 : Int) ∧ (2 : Int) < 4) ∧ r = -2 ∧ H' = H) ∨ ((0 ≤ (2 : Int) ∧ (2 : Int) < 4) ∧ H 18 0 ≠ 0 ∧ r = -11 ∧ H' = jU H 0 8 1) ∨ ((0 ≤ (2 : Int) ∧ (2 : Int) < 4) ∧ H 18 0 = 0 ∧ isRd (H 19) (H 18 2) (H 7 3) r ∧ H' = tl H 19 r)) 114 [some (jRF E 0), some (.int (jI 2)), some (jRF E 18), some (.int (jI (H 7 3))), x4, x5] [] (tl H 19 i) := by
            intro x4 x5 hn
            refine j_aload_n 115 rfl rfl dX4_read_114 ?_
            refine j_getr 118 rfl 3 fl_X4_27 dX4_read_115 (by decide) ( rfl) ( rfl) ?_
            refine g_geti 121 rfl 3 3 rfl fl_X4_113 dX4_read_118 (by decide) ( rfl) ( rfl) ?_
            rw [tl_7 H 19 h0]
            refine j_iload_n 122 rfl rfl dX4_read_121 ?_
            refine j_isub 123 rfl dX4_read_122 ?_
            rw [show H 7 3 + i - H 7 3 = i by omega]
            refine j_ireti dX4_read_123 rfl ?_
            exact Or.inr (Or.inr ⟨hok, h2, ⟨h0, hz2, hn⟩, rfl⟩)
          refine j_iload 46 rfl rfl dX4_read_44 ?_
          refine j_if_eq 114 49 (by decide) rfl dX4_read_46 (by intro hR; first | omega | exact hR _ _ | exact jb_r _ | exact hR0 _ _ | assumption) (fun h3 => ?_) (fun h3 => ?_)
          · exfalso; omega
          · refine j_iload 51 rfl rfl dX4_read_49 ?_
            refine j_iconst 52 rfl dX4_read_51 ?_
            refine j_iadd 53 rfl dX4_read_52 ?_
            refine j_aload_n 54 rfl rfl dX4_read_53 ?_
            refine g_geti 57 rfl 2 2 rfl fl_X4_129 dX4_read_54 (by decide) ( rfl) ( rfl) ?_
            rw [tl_o H 19 (by decide)]
            refine j_icmp_ge 114 60 (by decide) rfl dX4_read_57 (by intro hR; first | omega | exact hR _ _ | exact jb_r _ | exact hR0 _ _ | assumption) (by intro hR; first | omega | exact hR _ _ | exact jb_r _ | exact hR0 _ _ | assumption) (fun h4 => ?_) (fun h4 => ?_)
            · exact fin _ _ (fun q => by omega)
            · refine j_iload 62 rfl rfl dX4_read_60 ?_
              refine j_iconst 63 rfl dX4_read_62 ?_
              refine j_iadd 64 rfl dX4_read_63 ?_
              refine j_bipush 66 rfl rfl dX4_read_64 ?_
              refine j_icmp_ge 114 69 (by decide) rfl dX4_read_66 (by intro hR; first | omega | exact hR _ _ | exact jb_r _ | exact hR0 _ _ | assumption) (by intro hR; first | omega | exact hR _ _ | exact jb_r _ | exact hR0 _ _ | assumption) (fun h5 => ?_) (fun h5 => ?_)
              · exfalso; omega
              · refine j_aload_n 70 rfl rfl dX4_read_69 ?_
                refine j_aload_n 71 rfl rfl dX4_read_70 ?_
                refine j_getr 74 rfl 3 fl_X4_130 dX4_read_71 (by decide) ( rfl) ( rfl) ?_
                refine j_iload 76 rfl rfl dX4_read_74 ?_
                refine j_iald 77 rfl dX4_read_76 (by decide) rfl (by decide) rfl (by omega) ?_
                rw [tl_o H 19 (by decide)]
                refine j_aload_n 78 rfl rfl dX4_read_77 ?_
                refine j_getr 81 rfl 3 fl_X4_130 dX4_read_78 (by decide) ( rfl) ( rfl) ?_
                refine j_iload 83 rfl rfl dX4_read_81 ?_
                refine j_iconst 84 rfl dX4_read_83 ?_
                refine j_iadd 85 rfl dX4_read_84 ?_
                refine j_iald 86 rfl dX4_read_85 (by decide) rfl (by decide) rfl (by omega) ?_
                rw [tl_o H 19 (by decide)]
                refine j_aload_n 87 rfl rfl dX4_read_86 ?_
                refine j_getr 90 rfl 3 fl_X4_130 dX4_read_87 (by decide) ( rfl) ( rfl) ?_
                refine j_iload 92 rfl rfl dX4_read_90 ?_
                refine j_iconst 93 rfl dX4_read_92 ?_
                refine j_iadd 94 rfl dX4_read_93 ?_
                refine j_iald 95 rfl dX4_read_94 (by decide) rfl (by decide) rfl (by omega) ?_
                rw [tl_o H 19 (by decide)]
                have e7 := tl_7 H 19 h0
                have q20 : 0 < i → H 7 3 + (i - 1) < 24 := fun q => (hz2 (i - 1) (by omega) (by omega)).2.2
                refine jV3i 98 rfl dX4_read_95 lk_X4_133 rfl rfl (by decide) ( rfl) ( rfl) (s_tell (hR1 19 (3 * i)) (hR1 19 (3 * i + 1)) (hR1 19 (3 * i + 2)) (by rw [e7]; omega)) (fun x H3 hx => ?_)
                rw [e7] at hx
                rcases hx with ⟨x1, x2, x3⟩ | ⟨x1, x2, x3, x4⟩ | ⟨x1, x2, x3, x4⟩
                · subst x3
                  refine j_if_le 105 101 (by decide) rfl dX4_read_98 (by intro hR; first | omega | exact hR _ _ | exact jb_r _ | exact hR0 _ _ | assumption) (fun h6 => ?_) (fun h6 => ?_)
                  · refine j_iconst 106 rfl dX4_read_105 ?_
                    refine j_istore 108 rfl st_6_4 (by decide) rfl dX4_read_106 ?_
                    refine j_iinc 111 rfl rfl st_6_5 (by decide) rfl dX4_read_108 ?_
                    refine j_goto 44 (by decide) dX4_read_111 ?_
                    refine j_iload 46 rfl rfl dX4_read_44 ?_
                    refine j_if_eq 114 49 (by decide) rfl dX4_read_46 (by intro hR; first | omega | exact hR _ _ | exact jb_r _ | exact hR0 _ _ | assumption) (fun h7 => ?_) (fun h7 => ?_)
                    · exact fin _ _ (fun q => x1 q.2.1)
                    · exfalso; omega
                  · exfalso; omega
                · subst x4
                  refine j_if_le 105 101 (by decide) rfl dX4_read_98 (by intro hR; first | omega | exact hR _ _ | exact jb_r _ | exact hR0 _ _ | assumption) (fun h6 => ?_) (fun h6 => ?_)
                  · refine j_iconst 106 rfl dX4_read_105 ?_
                    refine j_istore 108 rfl st_6_4 (by decide) rfl dX4_read_106 ?_
                    refine j_iinc 111 rfl rfl st_6_5 (by decide) rfl dX4_read_108 ?_
                    refine j_goto 44 (by decide) dX4_read_111 ?_
                    refine j_iload 46 rfl rfl dX4_read_44 ?_
                    refine j_if_eq 114 49 (by decide) rfl dX4_read_46 (by intro hR; first | omega | exact hR _ _ | exact jb_r _ | exact hR0 _ _ | assumption) (fun h7 => ?_) (fun h7 => ?_)
                    · exact fin _ _ (fun q => by omega)
                    · exfalso; omega
                  · exfalso; omega
                · subst x4
                  rw [← tl_s H 19 h0]
                  refine j_if_le 105 101 (by decide) rfl dX4_read_98 (by intro hR; first | omega | exact hR _ _ | exact jb_r _ | exact hR0 _ _ | assumption) (fun h6 => ?_) (fun h6 => ?_)
                  · exfalso; omega
                  · refine j_iconst 102 rfl dX4_read_101 ?_
                    refine j_goto 106 (by decide) dX4_read_102 ?_
                    refine j_istore 108 rfl st_6_4 (by decide) rfl dX4_read_106 ?_
                    refine j_iinc 111 rfl rfl st_6_5 (by decide) rfl dX4_read_108 ?_
                    refine j_goto 44 (by decide) dX4_read_111 ?_
                    rw [show 3 * i + 3 = 3 * (i + 1) by omega]
                    refine ih (fun q q0 q1 => ?_)
                    by_cases hqi : q = i
                    · subst hqi
                      exact ⟨h4, x1, x2⟩
                    · exact hz2 q q0 (by omega)
    · refine jOk.rng (fun hR1 => ?_)
      refine jOk.rng (fun hR0 => ?_)
      refine jOk.ofe rfl (Nat.le_of_ble_eq_true rfl) (en_ai_6 (E := E)) ?_
      refine j_iload_n 1 rfl rfl dX4_read_0 ?_
      refine jS1i 4 rfl dX4_read_1 lk_X4_120 rfl rfl (s_isSheet (by omega)) (fun r1 H1 ⟨eh_, hr1⟩ => ?_)
      obtain rfl := eh_.symm
      refine j_if_ne 10 7 (by decide) rfl dX4_read_4 (by intro hR; first | omega | exact hR _ _ | exact jb_r _ | exact hR0 _ _ | assumption) (fun h4 => ?_) (fun h4 => ?_)
      rotate_left
      · exfalso; omega
      refine j_aload_n 11 rfl rfl dX4_read_10 ?_
      refine j_getr 14 rfl 7 fl_X4_42 dX4_read_11 (by decide) ( rfl) ( rfl) ?_
      refine j_iload_n 15 rfl rfl dX4_read_14 ?_
      refine j_aald 16 rfl dX4_read_15 (by decide) rfl (by decide) rfl (by omega) (rfl)  ?_
      refine j_astore_n 17 rfl st_6_2 (by decide) rfl dX4_read_16 ?_
      refine j_aload_n 18 rfl rfl dX4_read_17 ?_
      refine g_geti 21 rfl 0 0 rfl fl_X4_123 dX4_read_18 (by decide) ( rfl) ( rfl) ?_
      refine j_if_eq 30 24 (by decide) rfl dX4_read_21 (by intro hR; first | omega | exact hR _ _ | exact jb_r _ | exact hR0 _ _ | assumption) (fun h2 => ?_) (fun h2 => ?_)
      rotate_left
      · refine j_aload_n 25 rfl rfl dX4_read_24 ?_
        refine j_iconst 26 rfl dX4_read_25 ?_
        refine jV1i 29 rfl dX4_read_26 lk_X4_126 rfl rfl (by decide) ( rfl) ( rfl) (s_finding (by omega)) (fun r26 H1 ⟨e, hr26⟩ => ?_)
        subst e
        refine j_ireti dX4_read_29 rfl ?_
        exact Or.inr (Or.inl ⟨hok, h2, by omega, rfl⟩)
      · refine j_aload_n 31 rfl rfl dX4_read_30 ?_
        refine j_getr 34 rfl 3 fl_X4_27 dX4_read_31 (by decide) ( rfl) ( rfl) ?_
        refine g_geti 37 rfl 3 3 rfl fl_X4_113 dX4_read_34 (by decide) ( rfl) ( rfl) ?_
        refine j_istore_n 38 rfl st_6_3 (by decide) rfl dX4_read_37 ?_
        refine j_iconst 39 rfl dX4_read_38 ?_
        refine j_istore 41 rfl st_6_4 (by decide) rfl dX4_read_39 ?_
        refine j_iconst 42 rfl dX4_read_41 ?_
        refine j_istore 44 rfl st_6_5 (by decide) rfl dX4_read_42 ?_
        have loop := jUp 0 21 (fun i => (∀ q, 0 ≤ q → q < i → 3 * q + 2 < H 20 2 ∧ may3 (H 21 (3 * q)) (H 21 (3 * q + 1)) (H 21 (3 * q + 2)) ∧ H 7 3 + q < 24) → jWP E mX4_read (jQi fun r H' => (¬ (0 ≤ (3 : Int) ∧ (3 : Int) < 4) ∧ r = -2 ∧ H' = H) ∨ ((0 ≤ (3 : Int) ∧ (3 : Int) < 4) ∧ H 20 0 ≠ 0 ∧ r = -11 ∧ H' = jU H 0 8 1) ∨ ((0 ≤ (3 : Int) ∧ (3 : Int) < 4) ∧ H 20 0 = 0 ∧ isRd (H 21) (H 20 2) (H 7 3) r ∧ H' = tl H 21 r)) 44 [some (jRF E 0), some (.int (jI 3)), some (jRF E 20), some (.int (jI (H 7 3))), some (.int (jI 1)), some (.int (jI (3 * i)))] [] (tl H 21 i)) ?_ ?_ 0 (by omega) (by omega)
        · exact loop (fun q a b => by omega)
        · intro hz2
          exfalso
          have := hz2 20 (by omega) (by omega)
          omega
        · intro i h0 h1 ih hz2
          have fin : ∀ x4 x5, ¬ (3 * i + 2 < H 20 2 ∧ may3 (H 21 (3 * i)) (H 21 (3 * i + 1)) (H 21 (3 * i + 2)) ∧ H 7 3 + i < 24) → jWP E mX4_read (jQi fun r H' => (¬ (0 ≤ (3 : Int) ∧ (3 : Int) < 4) ∧ r = -2 ∧ H' = H) ∨ ((0 ≤ (3 : Int) ∧ (3 : Int) < 4) ∧ H 20 0 ≠ 0 ∧ r = -11 ∧ H' = jU H 0 8 1) ∨ ((0 ≤ (3 : Int) ∧ (3 : Int) < 4) ∧ H 20 0 = 0 ∧ isRd (H 21) (H 20 2) (H 7 3) r ∧ H' = tl H 21 r)) 114 [some (jRF E 0), some (.int (jI 3)), some (jRF E 20), some (.int (jI (H 7 3))), x4, x5] [] (tl H 21 i) := by
            intro x4 x5 hn
            refine j_aload_n 115 rfl rfl dX4_read_114 ?_
            refine j_getr 118 rfl 3 fl_X4_27 dX4_read_115 (by decide) ( rfl) ( rfl) ?_
            refine g_geti 121 rfl 3 3 rfl fl_X4_113 dX4_read_118 (by decide) ( rfl) ( rfl) ?_
            rw [tl_7 H 21 h0]
            refine j_iload_n 122 rfl rfl dX4_read_121 ?_
            refine j_isub 123 rfl dX4_read_122 ?_
            rw [show H 7 3 + i - H 7 3 = i by omega]
            refine j_ireti dX4_read_123 rfl ?_
            exact Or.inr (Or.inr ⟨hok, h2, ⟨h0, hz2, hn⟩, rfl⟩)
          refine j_iload 46 rfl rfl dX4_read_44 ?_
          refine j_if_eq 114 49 (by decide) rfl dX4_read_46 (by intro hR; first | omega | exact hR _ _ | exact jb_r _ | exact hR0 _ _ | assumption) (fun h3 => ?_) (fun h3 => ?_)
          · exfalso; omega
          · refine j_iload 51 rfl rfl dX4_read_49 ?_
            refine j_iconst 52 rfl dX4_read_51 ?_
            refine j_iadd 53 rfl dX4_read_52 ?_
            refine j_aload_n 54 rfl rfl dX4_read_53 ?_
            refine g_geti 57 rfl 2 2 rfl fl_X4_129 dX4_read_54 (by decide) ( rfl) ( rfl) ?_
            rw [tl_o H 21 (by decide)]
            refine j_icmp_ge 114 60 (by decide) rfl dX4_read_57 (by intro hR; first | omega | exact hR _ _ | exact jb_r _ | exact hR0 _ _ | assumption) (by intro hR; first | omega | exact hR _ _ | exact jb_r _ | exact hR0 _ _ | assumption) (fun h4 => ?_) (fun h4 => ?_)
            · exact fin _ _ (fun q => by omega)
            · refine j_iload 62 rfl rfl dX4_read_60 ?_
              refine j_iconst 63 rfl dX4_read_62 ?_
              refine j_iadd 64 rfl dX4_read_63 ?_
              refine j_bipush 66 rfl rfl dX4_read_64 ?_
              refine j_icmp_ge 114 69 (by decide) rfl dX4_read_66 (by intro hR; first | omega | exact hR _ _ | exact jb_r _ | exact hR0 _ _ | assumption) (by intro hR; first | omega | exact hR _ _ | exact jb_r _ | exact hR0 _ _ | assumption) (fun h5 => ?_) (fun h5 => ?_)
              · exfalso; omega
              · refine j_aload_n 70 rfl rfl dX4_read_69 ?_
                refine j_aload_n 71 rfl rfl dX4_read_70 ?_
                refine j_getr 74 rfl 3 fl_X4_130 dX4_read_71 (by decide) ( rfl) ( rfl) ?_
                refine j_iload 76 rfl rfl dX4_read_74 ?_
                refine j_iald 77 rfl dX4_read_76 (by decide) rfl (by decide) rfl (by omega) ?_
                rw [tl_o H 21 (by decide)]
                refine j_aload_n 78 rfl rfl dX4_read_77 ?_
                refine j_getr 81 rfl 3 fl_X4_130 dX4_read_78 (by decide) ( rfl) ( rfl) ?_
                refine j_iload 83 rfl rfl dX4_read_81 ?_
                refine j_iconst 84 rfl dX4_read_83 ?_
                refine j_iadd 85 rfl dX4_read_84 ?_
                refine j_iald 86 rfl dX4_read_85 (by decide) rfl (by decide) rfl (by omega) ?_
                rw [tl_o H 21 (by decide)]
                refine j_aload_n 87 rfl rfl dX4_read_86 ?_
                refine j_getr 90 rfl 3 fl_X4_130 dX4_read_87 (by decide) ( rfl) ( rfl) ?_
                refine j_iload 92 rfl rfl dX4_read_90 ?_
                refine j_iconst 93 rfl dX4_read_92 ?_
                refine j_iadd 94 rfl dX4_read_93 ?_
                refine j_iald 95 rfl dX4_read_94 (by decide) rfl (by decide) rfl (by omega) ?_
                rw [tl_o H 21 (by decide)]
                have e7 := tl_7 H 21 h0
                have q20 : 0 < i → H 7 3 + (i - 1) < 24 := fun q => (hz2 (i - 1) (by omega) (by omega)).2.2
                refine jV3i 98 rfl dX4_read_95 lk_X4_133 rfl rfl (by decide) ( rfl) ( rfl) (s_tell (hR1 21 (3 * i)) (hR1 21 (3 * i + 1)) (hR1 21 (3 * i + 2)) (by rw [e7]; omega)) (fun x H3 hx => ?_)
                rw [e7] at hx
                rcases hx with ⟨x1, x2, x3⟩ | ⟨x1, x2, x3, x4⟩ | ⟨x1, x2, x3, x4⟩
                · subst x3
                  refine j_if_le 105 101 (by decide) rfl dX4_read_98 (by intro hR; first | omega | exact hR _ _ | exact jb_r _ | exact hR0 _ _ | assumption) (fun h6 => ?_) (fun h6 => ?_)
                  · refine j_iconst 106 rfl dX4_read_105 ?_
                    refine j_istore 108 rfl st_6_4 (by decide) rfl dX4_read_106 ?_
                    refine j_iinc 111 rfl rfl st_6_5 (by decide) rfl dX4_read_108 ?_
                    refine j_goto 44 (by decide) dX4_read_111 ?_
                    refine j_iload 46 rfl rfl dX4_read_44 ?_
                    refine j_if_eq 114 49 (by decide) rfl dX4_read_46 (by intro hR; first | omega | exact hR _ _ | exact jb_r _ | exact hR0 _ _ | assumption) (fun h7 => ?_) (fun h7 => ?_)
                    · exact fin _ _ (fun q => x1 q.2.1)
                    · exfalso; omega
                  · exfalso; omega
                · subst x4
                  refine j_if_le 105 101 (by decide) rfl dX4_read_98 (by intro hR; first | omega | exact hR _ _ | exact jb_r _ | exact hR0 _ _ | assumption) (fun h6 => ?_) (fun h6 => ?_)
                  · refine j_iconst 106 rfl dX4_read_105 ?_
                    refine j_istore 108 rfl st_6_4 (by decide) rfl dX4_read_106 ?_
                    refine j_iinc 111 rfl rfl st_6_5 (by decide) rfl dX4_read_108 ?_
                    refine j_goto 44 (by decide) dX4_read_111 ?_
                    refine j_iload 46 rfl rfl dX4_read_44 ?_
                    refine j_if_eq 114 49 (by decide) rfl dX4_read_46 (by intro hR; first | omega | exact hR _ _ | exact jb_r _ | exact hR0 _ _ | assumption) (fun h7 => ?_) (fun h7 => ?_)
                    · exact fin _ _ (fun q => by omega)
                    · exfalso; omega
                  · exfalso; omega
                · subst x4
                  rw [← tl_s H 21 h0]
                  refine j_if_le 105 101 (by decide) rfl dX4_read_98 (by intro hR; first | omega | exact hR _ _ | exact jb_r _ | exact hR0 _ _ | assumption) (fun h6 => ?_) (fun h6 => ?_)
                  · exfalso; omega
                  · refine j_iconst 102 rfl dX4_read_101 ?_
                    refine j_goto 106 (by decide) dX4_read_102 ?_
                    refine j_istore 108 rfl st_6_4 (by decide) rfl dX4_read_106 ?_
                    refine j_iinc 111 rfl rfl st_6_5 (by decide) rfl dX4_read_108 ?_
                    refine j_goto 44 (by decide) dX4_read_111 ?_
                    rw [show 3 * i + 3 = 3 * (i + 1) by omega]
                    refine ih (fun q q0 q1 => ?_)
                    by_cases hqi : q = i
                    · subst hqi
                      exact ⟨h4, x1, x2⟩
                    · exact hz2 q q0 (by omega)
    · exfalso; omega
  · refine jOk.rng (fun hR0 => ?_)
    refine jOk.ofe rfl (Nat.le_of_ble_eq_true rfl) (en_ai_6 (E := E)) ?_
    refine j_iload_n 1 rfl rfl dX4_read_0 ?_
    refine jS1i 4 rfl dX4_read_1 lk_X4_120 rfl rfl (s_isSheet (by omega)) (fun r1 H1 ⟨eh_, hr1⟩ => ?_)
    obtain rfl := eh_.symm
    refine j_if_ne 10 7 (by decide) rfl dX4_read_4 (by intro hR; first | omega | exact hR _ _ | exact jb_r _ | exact hR0 _ _ | assumption) (fun h4 => ?_) (fun h4 => ?_)
    · exfalso; omega
    · refine j_bipush 9 rfl rfl dX4_read_7 ?_
      refine j_ireti dX4_read_9 rfl ?_
      exact Or.inl ⟨by omega, rfl, rfl⟩
end S22
