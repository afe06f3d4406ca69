/-! ===== the reference reads the text ===== -/
def vK (k c : Int) : Int := if k = 0 then jIdx c else c - 48
theorem jIdx_r (c : Int) : -1 ≤ jIdx c ∧ jIdx c ≤ 4 := by unfold jIdx; repeat' split; all_goals omega
theorem due_k {B k c : Int} (hk : 0 ≤ k ∧ k < 3) : dueP (4 * B + k) c ↔ (k = 0 ∧ 0 ≤ jIdx c) ∨ (0 < k ∧ 49 ≤ c ∧ c ≤ 57) := by
  unfold dueP
  omega
def mFr (H H' : jH) : Prop := (∀ q, q ≠ 56 → q ≠ 62 → H' q = H q) ∧ (∀ j, j ≠ 7 → j ≠ 8 → H' 56 j = H 56 j)
section S36
variable {E : jE} {H K : jH}
-- X5_readsBox
set_option maxHeartbeats 1000000 in
theorem m_readsBox {B : Int} (hB : 0 ≤ B ∧ B ≤ 8) (h8 : H 56 8 = B) (h7 : H 56 7 = 4 * B) (hn : 0 ≤ H 56 6 ∧ H 56 6 ≤ 35) : jOk E mX5_readsBox [jRF E 56] H (jQi fun r H' => mFr H H' ∧ ((r = 1 ∧ (∀ k, 0 ≤ k → k < 3 → 4 * B + k < H 56 6 ∧ dueP (4 * B + k) (H 61 (4 * B + k))) ∧ H' 56 7 = 4 * B + 3 ∧ H' 56 8 = B + 1 ∧ (∀ i, i < 3 * B → H' 62 i = H 62 i) ∧ (∀ k, 0 ≤ k → k < 3 → H' 62 (3 * B + k) = vK k (H 61 (4 * B + k)))) ∨ (r = 0 ∧ ∃ j, (0 ≤ j ∧ j < 3) ∧ (∀ k, 0 ≤ k → k < j → 4 * B + k < H 56 6 ∧ dueP (4 * B + k) (H 61 (4 * B + k))) ∧ ¬ (4 * B + j < H 56 6 ∧ dueP (4 * B + j) (H 61 (4 * B + j))) ∧ H' 56 7 = 4 * B + j))) := by
  refine jOk.rng (fun hR0 => ?_)
  refine jOk.ofe rfl (Nat.le_of_ble_eq_true rfl) (en_a_4 (E := E)) ?_
  refine j_aload_n 1 rfl rfl dX5_readsBox_0 ?_
  refine g_geti 4 rfl 8 8 rfl fl_X5_109 dX5_readsBox_1 (by decide) ( rfl) ( rfl) ?_
  refine j_bipush 6 rfl rfl dX5_readsBox_4 ?_
  rw [h8]
  refine j_icmp_ne 11 9 (by decide) rfl dX5_readsBox_6 (by intro hR; first | omega | exact hR _ _ | exact jb_r _ | exact hR0 _ _ | assumption) (by intro hR; first | omega | exact hR _ _ | exact jb_r _ | exact hR0 _ _ | assumption) (fun h1 => ?_) (fun h1 => ?_)
  rotate_left
  · exfalso; omega
  refine j_iconst 12 rfl dX5_readsBox_11 ?_
  refine j_istore_n 13 rfl st_4_1 (by decide) rfl dX5_readsBox_12 ?_
  have loop := jUp 0 3 (fun k => ∀ Hi x2 x3, jCk [none, none, x2, x3] 3 = true → mFr H Hi → Hi 56 8 = B → Hi 56 7 = 4 * B + k → (∀ i, i < 3 * B → Hi 62 i = H 62 i) → (∀ q, 0 ≤ q → q < k → Hi 62 (3 * B + q) = vK q (H 61 (4 * B + q)) ∧ 4 * B + q < H 56 6 ∧ dueP (4 * B + q) (H 61 (4 * B + q))) → jWP E mX5_readsBox (jQi fun r H' => mFr H H' ∧ ((r = 1 ∧ (∀ k, 0 ≤ k → k < 3 → 4 * B + k < H 56 6 ∧ dueP (4 * B + k) (H 61 (4 * B + k))) ∧ H' 56 7 = 4 * B + 3 ∧ H' 56 8 = B + 1 ∧ (∀ i, i < 3 * B → H' 62 i = H 62 i) ∧ (∀ k, 0 ≤ k → k < 3 → H' 62 (3 * B + k) = vK k (H 61 (4 * B + k)))) ∨ (r = 0 ∧ ∃ j, (0 ≤ j ∧ j < 3) ∧ (∀ k, 0 ≤ k → k < j → 4 * B + k < H 56 6 ∧ dueP (4 * B + k) (H 61 (4 * B + k))) ∧ ¬ (4 * B + j < H 56 6 ∧ dueP (4 * B + j) (H 61 (4 * B + j))) ∧ H' 56 7 = 4 * B + j))) 13 [some (jRF E 56), some (.int (jI k)), x2, x3] [] Hi) ?_ ?_ 0 (by omega) (by omega)
  · exact loop H none none rfl ⟨fun _ _ _ => rfl, fun _ _ _ => rfl⟩ h8 (by omega) (fun _ _ => rfl) (fun q q0 q1 => by omega)
  · intro Hi x2 x3 _ g1 g2 g3 g4 g5
    refine j_iload_n 14 rfl rfl dX5_readsBox_13 ?_
    refine j_iconst 15 rfl dX5_readsBox_14 ?_
    refine j_icmp_ge 114 18 (by decide) rfl dX5_readsBox_15 (by intro hR; first | omega | exact hR _ _ | exact jb_r _ | exact hR0 _ _ | assumption) (by intro hR; first | omega | exact hR _ _ | exact jb_r _ | exact hR0 _ _ | assumption) (fun h2 => ?_) (fun h2 => ?_)
    · refine j_aload_n 115 rfl rfl dX5_readsBox_114 ?_
      refine j_dup 116 rfl rfl dX5_readsBox_115 ?_
      refine g_geti 119 rfl 8 8 rfl fl_X5_109 dX5_readsBox_116 (by decide) ( rfl) ( rfl) ?_
      rw [g2]
      refine j_iconst 120 rfl dX5_readsBox_119 ?_
      refine j_iadd 121 rfl dX5_readsBox_120 ?_
      refine g_puti 124 rfl 8 8 rfl fl_X5_109 ft_5_8 dX5_readsBox_121 (by decide) ( rfl) ( rfl) (by intro hR; first | omega | exact hR _ _ | exact jb_r _ | exact hR0 _ _ | assumption) ?_
      refine j_iconst 125 rfl dX5_readsBox_124 ?_
      refine j_zreti dX5_readsBox_125 rfl (by first | decide | omega) ?_
      refine ⟨⟨fun q a b => by rw [jU_o a]; exact g1.1 q a b, fun j a b => by rw [jU_i b]; exact g1.2 j a b⟩, Or.inl ⟨rfl, fun k k0 k1 => (g5 k k0 k1).2, by rw [jU_i (by decide)]; exact g3, jU_s, fun i hi => by rw [jU_k (by decide)]; exact g4 i hi, fun k k0 k1 => by rw [jU_k (by decide)]; exact (g5 k k0 k1).1⟩⟩
    · exfalso; omega
  · intro k k0 k1 ih Hi x2 x3 hck g1 g2 g3 g4 g5
    have e6 : Hi 56 6 = H 56 6 := g1.2 6 (by decide) (by decide)
    have e61 : Hi 61 = H 61 := g1.1 61 (by decide) (by decide)
    have hdk := due_k (B := B) (k := k) (c := H 61 (4 * B + k)) (by omega)
    have hxr := hR0 61 (4 * B + k)
    have hj := jIdx_r (H 61 (4 * B + k))
    have hj1 : jIdx (-1) = -1 := by decide
    -- no box
    have bad : ∀ x2 x3 : Int, ¬ (4 * B + k < H 56 6 ∧ ((k = 0 ∧ 0 ≤ jIdx (H 61 (4 * B + k))) ∨ (0 < k ∧ 49 ≤ H 61 (4 * B + k) ∧ H 61 (4 * B + k) ≤ 57))) → x3 = -1 → jWP E mX5_readsBox (jQi fun r H' => mFr H H' ∧ ((r = 1 ∧ (∀ k, 0 ≤ k → k < 3 → 4 * B + k < H 56 6 ∧ dueP (4 * B + k) (H 61 (4 * B + k))) ∧ H' 56 7 = 4 * B + 3 ∧ H' 56 8 = B + 1 ∧ (∀ i, i < 3 * B → H' 62 i = H 62 i) ∧ (∀ k, 0 ≤ k → k < 3 → H' 62 (3 * B + k) = vK k (H 61 (4 * B + k)))) ∨ (r = 0 ∧ ∃ j, (0 ≤ j ∧ j < 3) ∧ (∀ k, 0 ≤ k → k < j → 4 * B + k < H 56 6 ∧ dueP (4 * B + k) (H 61 (4 * B + k))) ∧ ¬ (4 * B + j < H 56 6 ∧ dueP (4 * B + j) (H 61 (4 * B + j))) ∧ H' 56 7 = 4 * B + j))) 77 [some (jRF E 56), some (.int (jI k)), some (.int (jI x2)), some (.int (jI x3))] [] Hi := by
      intro x2 x3 hno hx
      rw [← hdk] at hno
      subst hx
      refine j_iload_n 78 rfl rfl dX5_readsBox_77 ?_
      refine j_iconst 79 rfl dX5_readsBox_78 ?_
      refine j_icmp_ne 84 82 (by decide) rfl dX5_readsBox_79 (by intro hR; first | omega | exact hR _ _ | exact jb_r _ | exact hR0 _ _ | assumption) (by intro hR; first | omega | exact hR _ _ | exact jb_r _ | exact hR0 _ _ | assumption) (fun h3 => ?_) (fun h3 => ?_)
      · exfalso; omega
      · refine j_iconst 83 rfl dX5_readsBox_82 ?_
        refine j_zreti dX5_readsBox_83 rfl (by first | decide | omega) ?_
        exact ⟨g1, Or.inr ⟨rfl, k, by omega, fun q q0 q1 => (g5 q q0 q1).2, hno, g3⟩⟩
    have good : ∀ x2 x3 : Int, (4 * B + k < H 56 6 ∧ ((k = 0 ∧ 0 ≤ jIdx (H 61 (4 * B + k))) ∨ (0 < k ∧ 49 ≤ H 61 (4 * B + k) ∧ H 61 (4 * B + k) ≤ 57))) → x3 = vK k (H 61 (4 * B + k)) → (0 ≤ x3 ∧ x3 ≤ 9) → jWP E mX5_readsBox (jQi fun r H' => mFr H H' ∧ ((r = 1 ∧ (∀ k, 0 ≤ k → k < 3 → 4 * B + k < H 56 6 ∧ dueP (4 * B + k) (H 61 (4 * B + k))) ∧ H' 56 7 = 4 * B + 3 ∧ H' 56 8 = B + 1 ∧ (∀ i, i < 3 * B → H' 62 i = H 62 i) ∧ (∀ k, 0 ≤ k → k < 3 → H' 62 (3 * B + k) = vK k (H 61 (4 * B + k)))) ∨ (r = 0 ∧ ∃ j, (0 ≤ j ∧ j < 3) ∧ (∀ k, 0 ≤ k → k < j → 4 * B + k < H 56 6 ∧ dueP (4 * B + k) (H 61 (4 * B + k))) ∧ ¬ (4 * B + j < H 56 6 ∧ dueP (4 * B + j) (H 61 (4 * B + j))) ∧ H' 56 7 = 4 * B + j))) 77 [some (jRF E 56), some (.int (jI k)), some (.int (jI x2)), some (.int (jI x3))] [] Hi := by
      intro x2 x3 hyes hx hr
      rw [← hdk] at hyes
      refine j_iload_n 78 rfl rfl dX5_readsBox_77 ?_
      refine j_iconst 79 rfl dX5_readsBox_78 ?_
      refine j_icmp_ne 84 82 (by decide) rfl dX5_readsBox_79 (by intro hR; first | omega | exact hR _ _ | exact jb_r _ | exact hR0 _ _ | assumption) (by intro hR; first | omega | exact hR _ _ | exact jb_r _ | exact hR0 _ _ | assumption) (fun h3 => ?_) (fun h3 => ?_)
      · refine j_aload_n 85 rfl rfl dX5_readsBox_84 ?_
        refine j_getr 88 rfl 9 fl_X5_25 dX5_readsBox_85 (by decide) ( rfl) ( rfl) ?_
        refine j_iconst 89 rfl dX5_readsBox_88 ?_
        refine j_aload_n 90 rfl rfl dX5_readsBox_89 ?_
        refine g_geti 93 rfl 8 8 rfl fl_X5_109 dX5_readsBox_90 (by decide) ( rfl) ( rfl) ?_
        rw [g2]
        refine j_imul 94 rfl dX5_readsBox_93 ?_
        refine j_iload_n 95 rfl rfl dX5_readsBox_94 ?_
        refine j_iadd 96 rfl dX5_readsBox_95 ?_
        refine j_iload_n 97 rfl rfl dX5_readsBox_96 ?_
        refine j_iast 98 rfl dX5_readsBox_97 (by decide) rfl (by decide) rfl (by omega) (by intro _; omega) ?_
        refine j_aload_n 99 rfl rfl dX5_readsBox_98 ?_
        refine j_dup 100 rfl rfl dX5_readsBox_99 ?_
        refine g_geti 103 rfl 7 7 rfl fl_X5_112 dX5_readsBox_100 (by decide) ( rfl) ( rfl) ?_
        try simp (disch := omega) only [jU_s, jU_k, jU_i]
        rw [g3]
        refine j_iconst 104 rfl dX5_readsBox_103 ?_
        refine j_iadd 105 rfl dX5_readsBox_104 ?_
        refine g_puti 108 rfl 7 7 rfl fl_X5_112 ft_5_7 dX5_readsBox_105 (by decide) ( rfl) ( rfl) (by intro hR; first | omega | exact hR _ _ | exact jb_r _ | exact hR0 _ _ | assumption) ?_
        refine j_iinc 111 rfl rfl st_4_1 (by decide) rfl dX5_readsBox_108 ?_
        refine j_goto 13 (by decide) dX5_readsBox_111 ?_
        refine ih _ _ _ rfl ⟨fun q a b => by rw [jU_o a, jU_o b]; exact g1.1 q a b, fun j a b => by rw [jU_i a, jU_k (by decide)]; exact g1.2 j a b⟩ (by rw [jU_i (by decide), jU_k (by decide)]; exact g2) (by rw [jU_s]; omega) (fun i hi => by rw [jU_k (by decide), jU_i (by omega)]; exact g4 i hi) (fun q q0 q1 => ?_)
        by_cases e : q = k
        · subst e
          exact ⟨by rw [jU_k (by decide), jU_s]; exact hx, hyes⟩
        · rw [jU_k (by decide), jU_i (by omega)]
          exact g5 q q0 (by omega)
      · exfalso; omega
    have chk : ∀ c : Int, (c = H 61 (4 * B + k) ∧ 4 * B + k < H 56 6) ∨ (c = -1 ∧ H 56 6 ≤ 4 * B + k) → jWP E mX5_readsBox (jQi fun r H' => mFr H H' ∧ ((r = 1 ∧ (∀ k, 0 ≤ k → k < 3 → 4 * B + k < H 56 6 ∧ dueP (4 * B + k) (H 61 (4 * B + k))) ∧ H' 56 7 = 4 * B + 3 ∧ H' 56 8 = B + 1 ∧ (∀ i, i < 3 * B → H' 62 i = H 62 i) ∧ (∀ k, 0 ≤ k → k < 3 → H' 62 (3 * B + k) = vK k (H 61 (4 * B + k)))) ∨ (r = 0 ∧ ∃ j, (0 ≤ j ∧ j < 3) ∧ (∀ k, 0 ≤ k → k < j → 4 * B + k < H 56 6 ∧ dueP (4 * B + k) (H 61 (4 * B + k))) ∧ ¬ (4 * B + j < H 56 6 ∧ dueP (4 * B + j) (H 61 (4 * B + j))) ∧ H' 56 7 = 4 * B + j))) 43 [some (jRF E 56), some (.int (jI k)), some (.int (jI c)), x3] [] Hi := by
      intro c hc
      have hcr : -2147483648 ≤ c ∧ c ≤ 2147483647 := by omega
      refine j_iload_n 44 rfl rfl dX5_readsBox_43 ?_
      refine j_if_ne 54 47 (by decide) rfl dX5_readsBox_44 (by intro hR; first | omega | exact hR _ _ | exact jb_r _ | exact hR0 _ _ | assumption) (fun h3 => ?_) (fun h3 => ?_)
      · have vk : vK k (H 61 (4 * B + k)) = H 61 (4 * B + k) - 48 := by unfold vK; rw [if_neg h3]
        refine j_iload_n 55 rfl rfl dX5_readsBox_54 ?_
        refine j_i2l 56 rfl (by intro hR; first | omega | exact hR _ _ | exact jb_r _ | exact hR0 _ _ | assumption) dX5_readsBox_55 ?_
        refine j_ldc2 59 rfl kc_X5_118 dX5_readsBox_56 ?_
        refine j_ldc2 62 rfl kc_X5_120 dX5_readsBox_59 ?_
        refine jS3i 65 rfl dX5_readsBox_62 lk_X5_75 rfl rfl (m_in (by omega) (by omega) (by omega)) (fun r62 H1 ⟨eh_, hr62⟩ => ?_)
        obtain rfl := eh_.symm
        refine j_if_eq 75 68 (by decide) rfl dX5_readsBox_65 (by intro hR; first | omega | exact hR _ _ | exact jb_r _ | exact hR0 _ _ | assumption) (fun h65 => ?_) (fun h65 => ?_)
        · refine j_iconst 76 rfl dX5_readsBox_75 ?_
          refine j_istore_n 77 rfl st_4_3 (by decide) rfl dX5_readsBox_76 ?_
          first | exact good _ _ (by omega) (by omega) (by omega) | exact bad _ _ (by omega) (by omega)
        · refine j_iload_n 69 rfl rfl dX5_readsBox_68 ?_
          refine j_bipush 71 rfl rfl dX5_readsBox_69 ?_
          refine j_isub 72 rfl dX5_readsBox_71 ?_
          refine j_goto 76 (by decide) dX5_readsBox_72 ?_
          refine j_istore_n 77 rfl st_4_3 (by decide) rfl dX5_readsBox_76 ?_
          first | exact good _ _ (by omega) (by omega) (by omega) | exact bad _ _ (by omega) (by omega)
      · have hk0 : k = 0 := by omega
        have vk : vK k (H 61 (4 * B + k)) = jIdx (H 61 (4 * B + k)) := by unfold vK; rw [if_pos hk0]
        refine j_iload_n 48 rfl rfl dX5_readsBox_47 ?_
        refine jS1i 51 rfl dX5_readsBox_48 lk_X5_115 rfl rfl (m_lawOf hcr) (fun r1 H9 ⟨eh_, hr1⟩ => ?_)
        obtain rfl := eh_.symm
        refine j_goto 76 (by decide) dX5_readsBox_51 ?_
        rcases hc with ⟨c1, c2⟩ | ⟨c1, c2⟩
        · rw [c1] at hr1
          by_cases e : 0 ≤ jIdx (H 61 (4 * B + k))
          · refine j_istore_n 77 rfl st_4_3 (by decide) rfl dX5_readsBox_76 ?_
            exact good _ _ (by omega) (by omega) (by omega)
          · refine j_istore_n 77 rfl st_4_3 (by decide) rfl dX5_readsBox_76 ?_
            exact bad _ _ (by omega) (by omega)
        · rw [c1, hj1] at hr1
          refine j_istore_n 77 rfl st_4_3 (by decide) rfl dX5_readsBox_76 ?_
          exact bad _ _ (by omega) hr1
    refine j_iload_n 14 rfl rfl dX5_readsBox_13 ?_
    refine j_iconst 15 rfl dX5_readsBox_14 ?_
    refine j_icmp_ge 114 18 (by decide) rfl dX5_readsBox_15 (by intro hR; first | omega | exact hR _ _ | exact jb_r _ | exact hR0 _ _ | assumption) (by intro hR; first | omega | exact hR _ _ | exact jb_r _ | exact hR0 _ _ | assumption) (fun h2 => ?_) (fun h2 => ?_)
    · exfalso; omega
    · refine j_aload_n 19 rfl rfl dX5_readsBox_18 ?_
      refine g_geti 22 rfl 7 7 rfl fl_X5_112 dX5_readsBox_19 (by decide) ( rfl) ( rfl) ?_
      refine j_aload_n 23 rfl rfl dX5_readsBox_22 ?_
      refine g_geti 26 rfl 6 6 rfl fl_X5_106 dX5_readsBox_23 (by decide) ( rfl) ( rfl) ?_
      rw [g3, e6]
      refine j_icmp_ge 41 29 (by decide) rfl dX5_readsBox_26 (by intro hR; first | omega | exact hR _ _ | exact jb_r _ | exact hR0 _ _ | assumption) (by intro hR; first | omega | exact hR _ _ | exact jb_r _ | exact hR0 _ _ | assumption) (fun h3 => ?_) (fun h3 => ?_)
      · refine j_iconst 42 rfl dX5_readsBox_41 ?_
        refine j_istore_n 43 rfl st_4_2 (by decide) rfl dX5_readsBox_42 ?_
        exact chk _ (Or.inr ⟨rfl, by omega⟩)
      · refine j_aload_n 30 rfl rfl dX5_readsBox_29 ?_
        refine j_getr 33 rfl 5 fl_X5_22 dX5_readsBox_30 (by decide) ( rfl) ( rfl) ?_
        refine j_aload_n 34 rfl rfl dX5_readsBox_33 ?_
        refine g_geti 37 rfl 7 7 rfl fl_X5_112 dX5_readsBox_34 (by decide) ( rfl) ( rfl) ?_
        rw [g3]
        refine j_iald 38 rfl dX5_readsBox_37 (by decide) rfl (by decide) rfl (by omega) ?_
        rw [e61]
        refine j_goto 42 (by decide) dX5_readsBox_38 ?_
        refine j_istore_n 43 rfl st_4_2 (by decide) rfl dX5_readsBox_42 ?_
        exact chk _ (Or.inl ⟨rfl, by omega⟩)
-- X5_reads
set_option maxHeartbeats 1000000 in
theorem m_reads (hn : 0 ≤ H 56 6 ∧ H 56 6 ≤ 35) : jOk E mX5_reads [jRF E 56] H (jQi fun r H' => mFr H H' ∧ isFt (H 61) (H 56 6) r ∧ H' 56 8 = (if r = -1 then (H 56 6 + 1) / 4 else 0) ∧ (r = -1 → ∀ b, 0 ≤ b → b < (H 56 6 + 1) / 4 → ∀ k, 0 ≤ k → k < 3 → H' 62 (3 * b + k) = vK k (H 61 (4 * b + k)))) := by
  refine jOk.rng (fun hR0 => ?_)
  refine jOk.ofe rfl (Nat.le_of_ble_eq_true rfl) (en_a_3 (E := E)) ?_
  -- the end with a fault
  have bad : ∀ Hi x1 x2 r, mFr H Hi → Hi 56 7 = r → isFt (H 61) (H 56 6) r → r ≠ -1 → jWP E mX5_reads (jQi fun r H' => mFr H H' ∧ isFt (H 61) (H 56 6) r ∧ H' 56 8 = (if r = -1 then (H 56 6 + 1) / 4 else 0) ∧ (r = -1 → ∀ b, 0 ≤ b → b < (H 56 6 + 1) / 4 → ∀ k, 0 ≤ k → k < 3 → H' 62 (3 * b + k) = vK k (H 61 (4 * b + k)))) 75 [some (jRF E 56), x1, x2] [] Hi := by
    intro Hi x1 x2 r g1 g2 g3 g4
    refine j_aload_n 76 rfl rfl dX5_reads_75 ?_
    refine j_iconst 77 rfl dX5_reads_76 ?_
    refine g_puti 80 rfl 8 8 rfl fl_X5_109 ft_5_8 dX5_reads_77 (by decide) ( rfl) ( rfl) (by intro hR; first | omega | exact hR _ _ | exact jb_r _ | exact hR0 _ _ | assumption) ?_
    refine j_aload_n 81 rfl rfl dX5_reads_80 ?_
    refine g_geti 84 rfl 7 7 rfl fl_X5_112 dX5_reads_81 (by decide) ( rfl) ( rfl) ?_
    try simp (disch := omega) only [jU_s, jU_k, jU_i]
    rw [g2]
    have hr := isFt_r hn.1 g3
    refine j_ireti dX5_reads_84 rfl ?_
    exact ⟨⟨fun q a b => by rw [jU_o a]; exact g1.1 q a b, fun j a b => by rw [jU_i b]; exact g1.2 j a b⟩, g3, by rw [jU_s, if_neg g4], fun e => absurd e g4⟩
  have main := jUp 0 9 (fun B => ∀ Hi (x1 : Int) x2, mFr H Hi → Hi 56 8 = B → Hi 56 7 = 4 * B → 4 * B ≤ H 56 6 → (B = 0 → 0 < H 56 6) → (∀ q, 0 ≤ q → q < 4 * B → dueP q (H 61 q)) → (∀ b, 0 ≤ b → b < B → ∀ k, 0 ≤ k → k < 3 → Hi 62 (3 * b + k) = vK k (H 61 (4 * b + k))) → jWP E mX5_reads (jQi fun r H' => mFr H H' ∧ isFt (H 61) (H 56 6) r ∧ H' 56 8 = (if r = -1 then (H 56 6 + 1) / 4 else 0) ∧ (r = -1 → ∀ b, 0 ≤ b → b < (H 56 6 + 1) / 4 → ∀ k, 0 ≤ k → k < 3 → H' 62 (3 * b + k) = vK k (H 61 (4 * b + k)))) 27 [some (jRF E 56), some (.int (jI x1)), x2] [] Hi) ?_ ?_ 0 (by omega) (by omega)
  · refine j_aload_n 1 rfl rfl dX5_reads_0 ?_
    refine j_iconst 2 rfl dX5_reads_1 ?_
    refine g_puti 5 rfl 7 7 rfl fl_X5_112 ft_5_7 dX5_reads_2 (by decide) ( rfl) ( rfl) (by intro hR; first | omega | exact hR _ _ | exact jb_r _ | exact hR0 _ _ | assumption) ?_
    refine j_aload_n 6 rfl rfl dX5_reads_5 ?_
    refine j_iconst 7 rfl dX5_reads_6 ?_
    refine g_puti 10 rfl 8 8 rfl fl_X5_109 ft_5_8 dX5_reads_7 (by decide) ( rfl) ( rfl) (by intro hR; first | omega | exact hR _ _ | exact jb_r _ | exact hR0 _ _ | assumption) ?_
    refine j_aload_n 11 rfl rfl dX5_reads_10 ?_
    refine g_geti 14 rfl 6 6 rfl fl_X5_106 dX5_reads_11 (by decide) ( rfl) ( rfl) ?_
    try simp (disch := omega) only [jU_s, jU_k, jU_i]
    refine j_if_le 21 17 (by decide) rfl dX5_reads_14 (by intro hR; first | omega | exact hR _ _ | exact jb_r _ | exact hR0 _ _ | assumption) (fun h1 => ?_) (fun h1 => ?_)
    · refine j_iconst 22 rfl dX5_reads_21 ?_
      refine j_istore_n 23 rfl st_3_1 (by decide) rfl dX5_reads_22 ?_
      refine j_iload_n 24 rfl rfl dX5_reads_23 ?_
      refine j_if_eq 106 27 (by decide) rfl dX5_reads_24 (by intro _; omega) (fun h2 => ?_) (fun h2 => absurd rfl h2)
      refine j_iconst 107 rfl dX5_reads_106 ?_
      refine j_ireti dX5_reads_107 rfl ?_
      refine ⟨⟨fun q a b => by rw [jU_o a, jU_o a], fun j a b => by rw [jU_i b, jU_i a]⟩, Or.inr (Or.inl ⟨fun q q0 q1 => by omega, by omega, rfl⟩), ?_, fun _ b b0 b1 => by omega⟩
      rw [jU_s, if_pos rfl]
      omega
    · refine j_iconst 18 rfl dX5_reads_17 ?_
      refine j_goto 22 (by decide) dX5_reads_18 ?_
      refine j_istore_n 23 rfl st_3_1 (by decide) rfl dX5_reads_22 ?_
      refine j_iload_n 24 rfl rfl dX5_reads_23 ?_
      refine j_if_eq 106 27 (by decide) rfl dX5_reads_24 (by intro _; omega) (fun h2 => by omega) (fun h2 => ?_)
      exact main _ _ _ ⟨fun q a b => by rw [jU_o a, jU_o a], fun j a b => by rw [jU_i b, jU_i a]⟩ jU_s (by rw [jU_i (by decide), jU_s]; rfl) (by omega) (fun _ => by omega) (fun q _ _ => by omega) (fun b _ _ => by omega)
  · intro Hi x1 x2 g1 g2 g3 g4
    exfalso; omega
  · intro B B0 B1 ih Hi x1 x2 g1 g2 g3 g4 g5 g6 g7
    have e6 : Hi 56 6 = H 56 6 := g1.2 6 (by decide) (by decide)
    have e61 : Hi 61 = H 61 := g1.1 61 (by decide) (by decide)
    refine j_aload_n 28 rfl rfl dX5_reads_27 ?_
    refine jV0i 31 rfl dX5_reads_28 lk_X5_122 rfl rfl (by decide) ( rfl) ( rfl) (m_readsBox (by omega) g2 g3 (by rw [e6]; exact hn)) (fun r1 H2 ⟨f2, hr1⟩ => ?_)
    rw [e6, e61] at hr1
    have e62 : H2 56 6 = H 56 6 := (f2.2 6 (by decide) (by decide)).trans e6
    have e612 : H2 61 = H 61 := (f2.1 61 (by decide) (by decide)).trans e61
    have g12 : mFr H H2 := ⟨fun q a b => (f2.1 q a b).trans (g1.1 q a b), fun j a b => (f2.2 j a b).trans (g1.2 j a b)⟩
    rcases hr1 with ⟨q1, q2, q3, q4, q5, q6⟩ | ⟨q1, j, q2, q3, q4, q5⟩
    · subst q1
      have due2 : ∀ q, 0 ≤ q → q < 4 * B + 3 → dueP q (H 61 q) := fun q a b => by
        by_cases e : q < 4 * B
        · exact g6 q a e
        · have := (q2 (q - 4 * B) (by omega) (by omega)).2
          rw [show 4 * B + (q - 4 * B) = q by omega] at this
          exact this
      have box2 : ∀ b, 0 ≤ b → b < B + 1 → ∀ k, 0 ≤ k → k < 3 → H2 62 (3 * b + k) = vK k (H 61 (4 * b + k)) := fun b b0 b1 k k0 k1 => by
        by_cases e : b = B
        · subst e; exact q6 k k0 k1
        · rw [q5 _ (by omega)]; exact g7 b b0 (by omega) k k0 k1
      have h43 := (q2 2 (by omega) (by omega)).1
      refine j_istore_n 32 rfl st_3_2 (by decide) rfl dX5_reads_31 ?_
      refine j_iload_n 33 rfl rfl dX5_reads_32 ?_
      refine j_if_eq 51 36 (by decide) rfl dX5_reads_33 (by intro _; omega) (fun h2 => by omega) (fun h2 => ?_)
      refine j_aload_n 37 rfl rfl dX5_reads_36 ?_
      refine g_geti 40 rfl 7 7 rfl fl_X5_112 dX5_reads_37 (by decide) ( rfl) ( rfl) ?_
      refine j_aload_n 41 rfl rfl dX5_reads_40 ?_
      refine g_geti 44 rfl 6 6 rfl fl_X5_106 dX5_reads_41 (by decide) ( rfl) ( rfl) ?_
      rw [q3, e62]
      refine j_icmp_ge 51 47 (by decide) rfl dX5_reads_44 (by intro hR; first | omega | exact hR _ _ | exact jb_r _ | exact hR0 _ _ | assumption) (by intro hR; first | omega | exact hR _ _ | exact jb_r _ | exact hR0 _ _ | assumption) (fun h3 => ?_) (fun h3 => ?_)
      · -- the text ends
        refine j_iconst 52 rfl dX5_reads_51 ?_
        refine j_istore_n 53 rfl st_3_1 (by decide) rfl dX5_reads_52 ?_
        refine j_iload_n 54 rfl rfl dX5_reads_53 ?_
        refine j_if_eq 75 57 (by decide) rfl dX5_reads_54 (by intro _; omega) (fun h2 => by omega) (fun h2 => ?_)
        refine j_iload_n 58 rfl rfl dX5_reads_57 ?_
        refine j_if_eq 85 61 (by decide) rfl dX5_reads_58 (by intro _; omega) (fun h2 => ?_) (fun h2 => absurd rfl h2)
        refine j_aload_n 86 rfl rfl dX5_reads_85 ?_
        refine j_dup 87 rfl rfl dX5_reads_86 ?_
        refine g_geti 90 rfl 7 7 rfl fl_X5_112 dX5_reads_87 (by decide) ( rfl) ( rfl) ?_
        rw [q3]
        refine j_iload_n 91 rfl rfl dX5_reads_90 ?_
        refine j_if_eq 98 94 (by decide) rfl dX5_reads_91 (by intro _; omega) (fun h2 => ?_) (fun h2 => absurd rfl h2)
        refine j_iconst 99 rfl dX5_reads_98 ?_
        refine j_iadd 100 rfl dX5_reads_99 ?_
        refine g_puti 103 rfl 7 7 rfl fl_X5_112 ft_5_7 dX5_reads_100 (by decide) ( rfl) ( rfl) (by intro hR; first | omega | exact hR _ _ | exact jb_r _ | exact hR0 _ _ | assumption) ?_
        refine j_goto 23 (by decide) dX5_reads_103 ?_
        refine j_iload_n 24 rfl rfl dX5_reads_23 ?_
        refine j_if_eq 106 27 (by decide) rfl dX5_reads_24 (by intro _; omega) (fun h2 => ?_) (fun h2 => absurd rfl h2)
        refine j_iconst 107 rfl dX5_reads_106 ?_
        refine j_ireti dX5_reads_107 rfl ?_
        have en : H 56 6 = 4 * B + 3 := by omega
        refine ⟨⟨fun q a b => by rw [jU_o a]; exact g12.1 q a b, fun j a b => by rw [jU_i a]; exact g12.2 j a b⟩, Or.inr (Or.inl ⟨fun q a b => due2 q a (by omega), by omega, rfl⟩), ?_, fun _ b b0 b1 k k0 k1 => by rw [jU_k (by decide)]; exact box2 b b0 (by omega) k k0 k1⟩
        rw [jU_i (by decide), if_pos rfl, q4]
        omega
      · refine j_iconst 48 rfl dX5_reads_47 ?_
        refine j_goto 52 (by decide) dX5_reads_48 ?_
        refine j_istore_n 53 rfl st_3_1 (by decide) rfl dX5_reads_52 ?_
        refine j_iload_n 54 rfl rfl dX5_reads_53 ?_
        refine j_if_eq 75 57 (by decide) rfl dX5_reads_54 (by intro _; omega) (fun h2 => by omega) (fun h2 => ?_)
        refine j_iload_n 58 rfl rfl dX5_reads_57 ?_
        refine j_if_eq 85 61 (by decide) rfl dX5_reads_58 (by intro _; omega) (fun h2 => by omega) (fun h2 => ?_)
        refine j_aload_n 62 rfl rfl dX5_reads_61 ?_
        refine j_getr 65 rfl 5 fl_X5_22 dX5_reads_62 (by decide) ( rfl) ( rfl) ?_
        refine j_aload_n 66 rfl rfl dX5_reads_65 ?_
        refine g_geti 69 rfl 7 7 rfl fl_X5_112 dX5_reads_66 (by decide) ( rfl) ( rfl) ?_
        rw [q3]
        refine j_iald 70 rfl dX5_reads_69 (by decide) rfl (by decide) rfl (by omega) ?_
        rw [e612]
        refine j_bipush 72 rfl rfl dX5_reads_70 ?_
        have hdd : dueP (4 * B + 3) (H 61 (4 * B + 3)) ↔ H 61 (4 * B + 3) = 59 := by unfold dueP; omega
        have hxr := hR0 61 (4 * B + 3)
        refine j_icmp_eq 85 75 (by decide) rfl dX5_reads_72 (by intro hR; first | omega | exact hR _ _ | exact jb_r _ | exact hR0 _ _ | assumption) (by intro hR; first | omega | exact hR _ _ | exact jb_r _ | exact hR0 _ _ | assumption) (fun h4 => ?_) (fun h4 => ?_)
        · refine j_aload_n 86 rfl rfl dX5_reads_85 ?_
          refine j_dup 87 rfl rfl dX5_reads_86 ?_
          refine g_geti 90 rfl 7 7 rfl fl_X5_112 dX5_reads_87 (by decide) ( rfl) ( rfl) ?_
          rw [q3]
          refine j_iload_n 91 rfl rfl dX5_reads_90 ?_
          refine j_if_eq 98 94 (by decide) rfl dX5_reads_91 (by intro _; omega) (fun h2 => by omega) (fun h2 => ?_)
          refine j_iconst 95 rfl dX5_reads_94 ?_
          refine j_goto 99 (by decide) dX5_reads_95 ?_
          refine j_iadd 100 rfl dX5_reads_99 ?_
          refine g_puti 103 rfl 7 7 rfl fl_X5_112 ft_5_7 dX5_reads_100 (by decide) ( rfl) ( rfl) (by intro hR; first | omega | exact hR _ _ | exact jb_r _ | exact hR0 _ _ | assumption) ?_
          refine j_goto 23 (by decide) dX5_reads_103 ?_
          refine j_iload_n 24 rfl rfl dX5_reads_23 ?_
          refine j_if_eq 106 27 (by decide) rfl dX5_reads_24 (by intro _; omega) (fun h2 => by omega) (fun h2 => ?_)
          refine ih _ _ _ ⟨fun q a b => by rw [jU_o a]; exact g12.1 q a b, fun j a b => by rw [jU_i a]; exact g12.2 j a b⟩ (by rw [jU_i (by decide)]; exact q4) (by rw [jU_s]; omega) (by omega) (fun _ => by omega) (fun q a b => ?_) (fun b b0 b1 k k0 k1 => by rw [jU_k (by decide)]; exact box2 b b0 b1 k k0 k1)
          by_cases e : q < 4 * B + 3
          · exact due2 q a e
          · rw [show q = 4 * B + 3 by omega]; exact hdd.mpr h4
        · refine bad H2 _ _ (4 * B + 3) g12 q3 (Or.inl ⟨by omega, by omega, due2, fun z => h4 (hdd.mp z)⟩) (by omega)
    · subst q1
      refine j_istore_n 32 rfl st_3_2 (by decide) rfl dX5_reads_31 ?_
      refine j_iload_n 33 rfl rfl dX5_reads_32 ?_
      refine j_if_eq 51 36 (by decide) rfl dX5_reads_33 (by intro _; omega) (fun h2 => ?_) (fun h2 => absurd rfl h2)
      refine j_iconst 52 rfl dX5_reads_51 ?_
      refine j_istore_n 53 rfl st_3_1 (by decide) rfl dX5_reads_52 ?_
      refine j_iload_n 54 rfl rfl dX5_reads_53 ?_
      refine j_if_eq 75 57 (by decide) rfl dX5_reads_54 (by intro _; omega) (fun h2 => ?_) (fun h2 => absurd rfl h2)
      refine bad H2 _ _ (4 * B + j) g12 q5 ?_ (by omega)
      have due2 : ∀ q, 0 ≤ q → q < 4 * B + j → dueP q (H 61 q) := fun q a b => by
        by_cases e : q < 4 * B
        · exact g6 q a e
        · have := (q3 (q - 4 * B) (by omega) (by omega)).2
          rw [show 4 * B + (q - 4 * B) = q by omega] at this
          exact this
      have hle : 4 * B + j ≤ H 56 6 := by
        by_cases e : j = 0
        · omega
        · have := (q3 (j - 1) (by omega) (by omega)).1; omega
      by_cases e : 4 * B + j < H 56 6
      · exact Or.inl ⟨by omega, e, due2, fun z => q4 ⟨e, z⟩⟩
      · exact Or.inr (Or.inr ⟨fun q a b => due2 q a (by omega), by omega, by omega⟩)
end S36
