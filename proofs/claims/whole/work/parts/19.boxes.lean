/-! ===== the class's boxes: the text and what it says ===== -/
def dueP (a c : Int) : Prop := (a % 4 = 0 ∧ 0 ≤ jIdx c) ∨ (a % 4 = 3 ∧ c = 59) ∨ ((a % 4 = 1 ∨ a % 4 = 2) ∧ 49 ≤ c ∧ c ≤ 57)
/-- r is the fault of the text f of n bytes -/
def isFt (f : Int → Int) (n r : Int) : Prop := (0 ≤ r ∧ r < n ∧ (∀ q, 0 ≤ q → q < r → dueP q (f q)) ∧ ¬ dueP r (f r)) ∨ ((∀ q, 0 ≤ q → q < n → dueP q (f q)) ∧ (n = 0 ∨ n % 4 = 3) ∧ r = -1) ∨ ((∀ q, 0 ≤ q → q < n → dueP q (f q)) ∧ ¬ (n = 0 ∨ n % 4 = 3) ∧ r = n)
theorem isFt_cong {f g : Int → Int} {n r : Int} (h : ∀ q, 0 ≤ q → q < n → f q = g q) (hf : isFt f n r) : isFt g n r := by
  rcases hf with ⟨h1, h2, h3, h4⟩ | ⟨h1, h2, h3⟩ | ⟨h1, h2, h3⟩
  · exact Or.inl ⟨h1, h2, fun q q0 q1 => by rw [← h q q0 (by omega)]; exact h3 q q0 q1, by rw [← h r h1 h2]; exact h4⟩
  · exact Or.inr (Or.inl ⟨fun q q0 q1 => by rw [← h q q0 q1]; exact h1 q q0 q1, h2, h3⟩)
  · exact Or.inr (Or.inr ⟨fun q q0 q1 => by rw [← h q q0 q1]; exact h1 q q0 q1, h2, h3⟩)
theorem isFt_one {f : Int → Int} {n r r2 : Int} (h : isFt f n r) (h2 : isFt f n r2) : r = r2 := by
  rcases h with ⟨a1, a2, a3, a4⟩ | ⟨a1, a2, a3⟩ | ⟨a1, a2, a3⟩ <;> rcases h2 with ⟨b1, b2, b3, b4⟩ | ⟨b1, b2, b3⟩ | ⟨b1, b2, b3⟩
  · rcases (show r < r2 ∨ r = r2 ∨ r2 < r by omega) with h | h | h
    · exact absurd (b3 r a1 h) a4
    · exact h
    · exact absurd (a3 r2 b1 h) b4
  · exact absurd (b1 r a1 a2) a4
  · exact absurd (b1 r a1 a2) a4
  · exact absurd (a1 r2 b1 b2) b4
  · omega
  · exact absurd a2 b2
  · exact absurd (a1 r2 b1 b2) b4
  · exact absurd b2 a2
  · omega
theorem isFt_r {f : Int → Int} {n r : Int} (hn : 0 ≤ n) (h : isFt f n r) : -1 ≤ r ∧ r ≤ n := by
  rcases h with ⟨a1, a2, a3, a4⟩ | ⟨a1, a2, a3⟩ | ⟨a1, a2, a3⟩ <;> omega
/-- the boxes hold what the text says -/
def parsed (H : jH) : Prop := isFt (H 2) (H 1 1) (H 1 2) ∧ H 1 3 = (if H 1 2 = -1 then (H 1 1 + 1) / 4 else 0) ∧ ∀ b, 0 ≤ b → b < H 1 3 → H 3 b = jIdx (H 2 (4 * b)) ∧ H 4 b = H 2 (4 * b + 1) - 48 ∧ H 5 b = H 2 (4 * b + 2) - 48
def txtOk (H : jH) : Prop := (0 ≤ H 1 1 ∧ H 1 1 ≤ 35) ∧ ∀ q, 0 ≤ q → q < H 1 1 → 0 ≤ H 2 q ∧ H 2 q < 256
def pFr (H H' : jH) : Prop := (∀ k, k ≠ 1 → k ≠ 3 → k ≠ 4 → k ≠ 5 → H' k = H k) ∧ (∀ j, j ≠ 2 → j ≠ 3 → H' 1 j = H 1 j)
section S19
variable {E : jE} {H : jH}
-- X0_findFault
theorem s_findFault (ok : txtOk H) : jOk E mX0_findFault [jRF E 1] H (jQi fun r H' => H' = H ∧ isFt (H 2) (H 1 1) r) := by
  obtain ⟨hn, hb⟩ := ok
  refine jOk.rng (fun hR0 => ?_)
  refine jOk.ofe rfl (Nat.le_of_ble_eq_true rfl) (en_a_2 (E := E)) ?_
  refine j_iconst 1 rfl dX0_findFault_0 ?_
  refine j_istore_n 2 rfl st_2_1 (by decide) rfl dX0_findFault_1 ?_
  have loop := jUp 0 (H 1 1) (fun i => (∀ q, 0 ≤ q → q < i → dueP q (H 2 q)) → jWP E mX0_findFault (jQi fun r H' => H' = H ∧ isFt (H 2) (H 1 1) r) 2 [some (jRF E 1), some (.int (jI i))] [] H) ?_ ?_ 0 (by omega) (by omega)
  · exact loop (fun q _ _ => by omega)
  · intro hq
    refine j_iload_n 3 rfl rfl dX0_findFault_2 ?_
    refine j_aload_n 4 rfl rfl dX0_findFault_3 ?_
    refine g_geti 7 rfl 1 1 rfl fl_X0_15 dX0_findFault_4 (by decide) ( rfl) ( rfl) ?_
    refine j_icmp_ge 31 10 (by decide) rfl dX0_findFault_7 (by intro hR; first | omega | exact hR _ _ | exact jb_r _ | exact hR0 _ _ | assumption) (by intro hR; first | omega | exact hR _ _ | exact jb_r _ | exact hR0 _ _ | assumption) (fun h => ?_) (fun h => ?_)
    · refine j_aload_n 32 rfl rfl dX0_findFault_31 ?_
      refine g_geti 35 rfl 1 1 rfl fl_X0_15 dX0_findFault_32 (by decide) ( rfl) ( rfl) ?_
      refine j_if_eq 48 38 (by decide) rfl dX0_findFault_35 (by intro hR; first | omega | exact hR _ _ | exact jb_r _ | exact hR0 _ _ | assumption) (fun h2 => ?_) (fun h2 => ?_)
      · refine j_iconst 49 rfl dX0_findFault_48 ?_
        refine j_goto 56 (by decide) dX0_findFault_49 ?_
        refine j_ireti dX0_findFault_56 rfl ?_
        exact ⟨rfl, Or.inr (Or.inl ⟨hq, by omega, rfl⟩)⟩
      · refine j_aload_n 39 rfl rfl dX0_findFault_38 ?_
        refine g_geti 42 rfl 1 1 rfl fl_X0_15 dX0_findFault_39 (by decide) ( rfl) ( rfl) ?_
        refine j_iconst 43 rfl dX0_findFault_42 ?_
        refine k_irem 44 rfl (by omega) (by intro hR; first | omega | exact hR _ _ | exact jb_r _ | exact hR0 _ _ | assumption) dX0_findFault_43 ?_
        rw [iRem_n (by omega) (by omega)]
        refine j_iconst 45 rfl dX0_findFault_44 ?_
        refine j_icmp_ne 52 48 (by decide) rfl dX0_findFault_45 (by intro hR; first | omega | exact hR _ _ | exact jb_r _ | exact hR0 _ _ | assumption) (by intro hR; first | omega | exact hR _ _ | exact jb_r _ | exact hR0 _ _ | assumption) (fun h3 => ?_) (fun h3 => ?_)
        · refine j_aload_n 53 rfl rfl dX0_findFault_52 ?_
          refine g_geti 56 rfl 1 1 rfl fl_X0_15 dX0_findFault_53 (by decide) ( rfl) ( rfl) ?_
          refine j_ireti dX0_findFault_56 rfl ?_
          exact ⟨rfl, Or.inr (Or.inr ⟨hq, by omega, rfl⟩)⟩
        · refine j_iconst 49 rfl dX0_findFault_48 ?_
          refine j_goto 56 (by decide) dX0_findFault_49 ?_
          refine j_ireti dX0_findFault_56 rfl ?_
          exact ⟨rfl, Or.inr (Or.inl ⟨hq, by omega, rfl⟩)⟩
    · exfalso; omega
  · intro i h0 h1 ih hq
    refine j_iload_n 3 rfl rfl dX0_findFault_2 ?_
    refine j_aload_n 4 rfl rfl dX0_findFault_3 ?_
    refine g_geti 7 rfl 1 1 rfl fl_X0_15 dX0_findFault_4 (by decide) ( rfl) ( rfl) ?_
    refine j_icmp_ge 31 10 (by decide) rfl dX0_findFault_7 (by intro hR; first | omega | exact hR _ _ | exact jb_r _ | exact hR0 _ _ | assumption) (by intro hR; first | omega | exact hR _ _ | exact jb_r _ | exact hR0 _ _ | assumption) (fun h => ?_) (fun h => ?_)
    · exfalso; omega
    · refine j_iload_n 11 rfl rfl dX0_findFault_10 ?_
      refine j_aload_n 12 rfl rfl dX0_findFault_11 ?_
      refine j_getr 15 rfl 0 fl_X0_9 dX0_findFault_12 (by decide) ( rfl) ( rfl) ?_
      refine j_iload_n 16 rfl rfl dX0_findFault_15 ?_
      refine j_iald 17 rfl dX0_findFault_16 (by decide) rfl (by decide) rfl (by omega) ?_
      refine jS2i 20 rfl dX0_findFault_17 lk_X0_46 rfl rfl (s_isDue (by omega) (hb i h0 h1)) (fun r H1 ⟨e, hr⟩ => ?_)
      subst e
      refine j_if_ne 25 23 (by decide) rfl dX0_findFault_20 (by intro hR; first | omega | exact hR _ _ | exact jb_r _ | exact hR0 _ _ | assumption) (fun h2 => ?_) (fun h2 => ?_)
      · refine j_iinc 28 rfl rfl st_2_1 (by decide) rfl dX0_findFault_25 ?_
        refine j_goto 2 (by decide) dX0_findFault_28 ?_
        refine ih (fun q q0 q1 => ?_)
        by_cases hqi : q = i
        · subst hqi
          rcases hr with ⟨_, hr⟩ | ⟨hr, _⟩
          · exact hr
          · omega
        · exact hq q q0 (by omega)
      · refine j_iload_n 24 rfl rfl dX0_findFault_23 ?_
        refine j_ireti dX0_findFault_24 rfl ?_
        refine ⟨rfl, Or.inl ⟨h0, h1, hq, ?_⟩⟩
        rcases hr with ⟨hr, _⟩ | ⟨_, hr⟩
        · omega
        · exact hr
-- X0_parse
set_option maxHeartbeats 2000000 in
theorem s_parse (ok : txtOk H) : jOk E mX0_parse [jRF E 1] H (jQv fun H' => pFr H H' ∧ parsed H') := by
  obtain ⟨hn, hb⟩ := id ok
  refine jOk.rng (fun hR0 => ?_)
  refine jOk.ofe rfl (Nat.le_of_ble_eq_true rfl) (en_a_2 (E := E)) ?_
  refine j_aload_n 1 rfl rfl dX0_parse_0 ?_
  refine j_aload_n 2 rfl rfl dX0_parse_1 ?_
  refine jV0i 5 rfl dX0_parse_2 lk_X0_34 rfl rfl (by decide) ( rfl) ( rfl) (s_findFault ok) (fun r H1 ⟨e, hr⟩ => ?_)
  subst e
  have hrr := isFt_r hn.1 hr
  refine g_puti 8 rfl 2 2 rfl fl_X0_19 ft_0_2 dX0_parse_5 (by decide) ( rfl) ( rfl) (by intro hR; first | omega | exact hR _ _ | exact jb_r _ | exact hR0 _ _ | assumption) ?_
  refine j_aload_n 9 rfl rfl dX0_parse_8 ?_
  refine j_iconst 10 rfl dX0_parse_9 ?_
  refine g_puti 13 rfl 3 3 rfl fl_X0_22 ft_0_3 dX0_parse_10 (by decide) ( rfl) ( rfl) (by intro hR; first | omega | exact hR _ _ | exact jb_r _ | exact hR0 _ _ | assumption) ?_
  refine j_iconst 14 rfl dX0_parse_13 ?_
  refine j_istore_n 15 rfl st_2_1 (by decide) rfl dX0_parse_14 ?_
  obtain ⟨m, hm⟩ : ∃ m, m = (if r = -1 then (H1 1 1 + 1) / 4 else 0) := ⟨_, rfl⟩
  have hm9 : 0 ≤ m ∧ m ≤ 9 := by rw [hm]; split <;> omega
  have loop := jUp 0 m (fun i => ∀ Hi, ((∀ k, k ≠ 1 → k ≠ 3 → k ≠ 4 → k ≠ 5 → Hi k = H1 k) ∧ (∀ j, j ≠ 2 → j ≠ 3 → Hi 1 j = H1 1 j) ∧ Hi 1 2 = r ∧ Hi 1 3 = i ∧ (∀ b, 0 ≤ b → b < i → Hi 3 b = jIdx (H1 2 (4 * b)) ∧ Hi 4 b = H1 2 (4 * b + 1) - 48 ∧ Hi 5 b = H1 2 (4 * b + 2) - 48)) → jWP E mX0_parse (jQv fun H' => pFr H1 H' ∧ parsed H') 15 [some (jRF E 1), some (.int (jI (4 * i)))] [] Hi) ?_ ?_ 0 (by omega) (by omega)
  · refine loop _ ⟨fun k a _ _ _ => by rw [jU_o a, jU_o a], fun j a b => by rw [jU_i b, jU_i a], by rw [jU_i (by omega), jU_s], jU_s, fun b b0 b1 => by omega⟩
  · rintro Hi ⟨g1, g2, g3, g4, g5⟩
    have hfin : pFr H1 Hi ∧ parsed Hi := by
      refine ⟨⟨g1, g2⟩, ?_⟩
      unfold parsed
      rw [g1 2 (by decide) (by decide) (by decide) (by decide), g2 1 (by decide) (by decide), g3, g4]
      exact ⟨hr, hm, fun b b0 b1 => g5 b b0 b1⟩
    refine j_aload_n 16 rfl rfl dX0_parse_15 ?_
    refine g_geti 19 rfl 2 2 rfl fl_X0_19 dX0_parse_16 (by decide) ( rfl) ( rfl) ?_
    refine j_iconst 20 rfl dX0_parse_19 ?_
    rw [g3]
    refine j_icmp_ne 119 23 (by decide) rfl dX0_parse_20 (by intro hR; first | omega | exact hR _ _ | exact jb_r _ | exact hR0 _ _ | assumption) (by intro hR; first | omega | exact hR _ _ | exact jb_r _ | exact hR0 _ _ | assumption) (fun h => ?_) (fun h => ?_)
    · refine j_vretv dX0_parse_119 rfl ?_
      exact hfin
    · refine j_iload_n 24 rfl rfl dX0_parse_23 ?_
      refine j_iconst 25 rfl dX0_parse_24 ?_
      refine j_iadd 26 rfl dX0_parse_25 ?_
      refine j_aload_n 27 rfl rfl dX0_parse_26 ?_
      refine g_geti 30 rfl 1 1 rfl fl_X0_15 dX0_parse_27 (by decide) ( rfl) ( rfl) ?_
      rw [g2 1 (by decide) (by decide)]
      have hm2 : m = (H1 1 1 + 1) / 4 := by rw [hm, if_pos h]
      have hnn : H1 1 1 = 0 ∨ H1 1 1 % 4 = 3 := by
        rcases hr with ⟨a1, a2, a3, a4⟩ | ⟨a1, a2, a3⟩ | ⟨a1, a2, a3⟩ <;> omega
      refine j_icmp_ge 119 33 (by decide) rfl dX0_parse_30 (by intro hR; first | omega | exact hR _ _ | exact jb_r _ | exact hR0 _ _ | assumption) (by intro hR; first | omega | exact hR _ _ | exact jb_r _ | exact hR0 _ _ | assumption) (fun h2 => ?_) (fun h2 => ?_)
      · refine j_vretv dX0_parse_119 rfl ?_
        exact hfin
      · exfalso; omega
  · rintro i h0 h1 ih Hi ⟨g1, g2, g3, g4, g5⟩
    have hr1 : r = -1 := by
      by_cases hr1 : r = -1
      · exact hr1
      · rw [if_neg hr1] at hm; omega
    have hm2 : m = (H1 1 1 + 1) / 4 := by rw [hm, if_pos hr1]
    have hix : ∀ c, -1 ≤ jIdx c ∧ jIdx c ≤ 4 := fun c => by unfold jIdx; repeat' split; all_goals omega
    have e2 : Hi 2 = H1 2 := g1 2 (by decide) (by decide) (by decide) (by decide)
    have b0 := hb (4 * i) (by omega) (by omega)
    have b1 := hb (4 * i + 1) (by omega) (by omega)
    have b2 := hb (4 * i + 2) (by omega) (by omega)
    refine j_aload_n 16 rfl rfl dX0_parse_15 ?_
    refine g_geti 19 rfl 2 2 rfl fl_X0_19 dX0_parse_16 (by decide) ( rfl) ( rfl) ?_
    refine j_iconst 20 rfl dX0_parse_19 ?_
    rw [g3]
    refine j_icmp_ne 119 23 (by decide) rfl dX0_parse_20 (by intro hR; first | omega | exact hR _ _ | exact jb_r _ | exact hR0 _ _ | assumption) (by intro hR; first | omega | exact hR _ _ | exact jb_r _ | exact hR0 _ _ | assumption) (fun h => ?_) (fun h => ?_)
    · exfalso; omega
    · refine j_iload_n 24 rfl rfl dX0_parse_23 ?_
      refine j_iconst 25 rfl dX0_parse_24 ?_
      refine j_iadd 26 rfl dX0_parse_25 ?_
      refine j_aload_n 27 rfl rfl dX0_parse_26 ?_
      refine g_geti 30 rfl 1 1 rfl fl_X0_15 dX0_parse_27 (by decide) ( rfl) ( rfl) ?_
      rw [g2 1 (by decide) (by decide)]
      refine j_icmp_ge 119 33 (by decide) rfl dX0_parse_30 (by intro hR; first | omega | exact hR _ _ | exact jb_r _ | exact hR0 _ _ | assumption) (by intro hR; first | omega | exact hR _ _ | exact jb_r _ | exact hR0 _ _ | assumption) (fun h2 => ?_) (fun h2 => ?_)
      · exfalso; omega
      · refine j_aload_n 34 rfl rfl dX0_parse_33 ?_
        refine g_geti 37 rfl 3 3 rfl fl_X0_22 dX0_parse_34 (by decide) ( rfl) ( rfl) ?_
        rw [g4]
        refine j_bipush 39 rfl rfl dX0_parse_37 ?_
        refine j_icmp_ge 119 42 (by decide) rfl dX0_parse_39 (by intro hR; first | omega | exact hR _ _ | exact jb_r _ | exact hR0 _ _ | assumption) (by intro hR; first | omega | exact hR _ _ | exact jb_r _ | exact hR0 _ _ | assumption) (fun h3 => ?_) (fun h3 => ?_)
        · exfalso; omega
        · refine j_aload_n 43 rfl rfl dX0_parse_42 ?_
          refine j_getr 46 rfl 4 fl_X0_25 dX0_parse_43 (by decide) ( rfl) ( rfl) ?_
          refine j_aload_n 47 rfl rfl dX0_parse_46 ?_
          refine g_geti 50 rfl 3 3 rfl fl_X0_22 dX0_parse_47 (by decide) ( rfl) ( rfl) ?_
          rw [g4]
          refine j_ldcS 52 rfl rfl dX0_parse_50 ?_
          refine j_aload_n 53 rfl rfl dX0_parse_52 ?_
          refine j_getr 56 rfl 0 fl_X0_9 dX0_parse_53 (by decide) ( rfl) ( rfl) ?_
          refine j_iload_n 57 rfl rfl dX0_parse_56 ?_
          refine j_iald 58 rfl dX0_parse_57 (by decide) rfl (by decide) rfl (by omega) ?_
          rw [e2]
          refine k_i2c 59 rfl dX0_parse_58 ?_
          rw [char_of b0]
          refine jT1 62 rfl dX0_parse_59 lk_X0_40 rfl rfl rfl (s_indexOf b0) (fun x H2 ⟨e, hx⟩ => ?_)
          subst e
          subst hx
          refine j_iast 63 rfl dX0_parse_62 (by decide) rfl (by decide) rfl (by omega) (by intro _; have := hix (H1 2 (4 * i)); omega) ?_
          refine j_aload_n 64 rfl rfl dX0_parse_63 ?_
          refine j_getr 67 rfl 5 fl_X0_28 dX0_parse_64 (by decide) ( rfl) ( rfl) ?_
          refine j_aload_n 68 rfl rfl dX0_parse_67 ?_
          refine g_geti 71 rfl 3 3 rfl fl_X0_22 dX0_parse_68 (by decide) ( rfl) ( rfl) ?_
          try simp (disch := omega) only [jU_s, jU_k, jU_i]
          rw [g4]
          refine j_aload_n 72 rfl rfl dX0_parse_71 ?_
          refine j_getr 75 rfl 0 fl_X0_9 dX0_parse_72 (by decide) ( rfl) ( rfl) ?_
          refine j_iload_n 76 rfl rfl dX0_parse_75 ?_
          refine j_iconst 77 rfl dX0_parse_76 ?_
          refine j_iadd 78 rfl dX0_parse_77 ?_
          refine j_iald 79 rfl dX0_parse_78 (by decide) rfl (by decide) rfl (by omega) ?_
          rw [jU_k (by decide), e2]
          refine j_bipush 81 rfl rfl dX0_parse_79 ?_
          refine j_isub 82 rfl dX0_parse_81 ?_
          refine j_iast 83 rfl dX0_parse_82 (by decide) rfl (by decide) rfl (by omega) (by intro _; omega) ?_
          refine j_aload_n 84 rfl rfl dX0_parse_83 ?_
          refine j_getr 87 rfl 6 fl_X0_31 dX0_parse_84 (by decide) ( rfl) ( rfl) ?_
          refine j_aload_n 88 rfl rfl dX0_parse_87 ?_
          refine g_geti 91 rfl 3 3 rfl fl_X0_22 dX0_parse_88 (by decide) ( rfl) ( rfl) ?_
          try simp (disch := omega) only [jU_s, jU_k, jU_i]
          rw [g4]
          refine j_aload_n 92 rfl rfl dX0_parse_91 ?_
          refine j_getr 95 rfl 0 fl_X0_9 dX0_parse_92 (by decide) ( rfl) ( rfl) ?_
          refine j_iload_n 96 rfl rfl dX0_parse_95 ?_
          refine j_iconst 97 rfl dX0_parse_96 ?_
          refine j_iadd 98 rfl dX0_parse_97 ?_
          refine j_iald 99 rfl dX0_parse_98 (by decide) rfl (by decide) rfl (by omega) ?_
          rw [jU_k (by decide), jU_k (by decide), e2]
          refine j_bipush 101 rfl rfl dX0_parse_99 ?_
          refine j_isub 102 rfl dX0_parse_101 ?_
          refine j_iast 103 rfl dX0_parse_102 (by decide) rfl (by decide) rfl (by omega) (by intro _; omega) ?_
          refine j_aload_n 104 rfl rfl dX0_parse_103 ?_
          refine j_dup 105 rfl rfl dX0_parse_104 ?_
          refine g_geti 108 rfl 3 3 rfl fl_X0_22 dX0_parse_105 (by decide) ( rfl) ( rfl) ?_
          try simp (disch := omega) only [jU_s, jU_k, jU_i]
          rw [g4]
          refine j_iconst 109 rfl dX0_parse_108 ?_
          refine j_iadd 110 rfl dX0_parse_109 ?_
          refine g_puti 113 rfl 3 3 rfl fl_X0_22 ft_0_3 dX0_parse_110 (by decide) ( rfl) ( rfl) (by intro hR; first | omega | exact hR _ _ | exact jb_r _ | exact hR0 _ _ | assumption) ?_
          refine j_iinc 116 rfl rfl st_2_1 (by decide) rfl dX0_parse_113 ?_
          refine j_goto 15 (by decide) dX0_parse_116 ?_
          rw [show 4 * i + 4 = 4 * (i + 1) by omega]
          refine ih _ ⟨fun k a b c d => ?_, fun j a b => ?_, ?_, ?_, fun q q0 q1 => ?_⟩
          · rw [jU_o a, jU_o d, jU_o c, jU_o b]
            exact g1 k a b c d
          · rw [jU_i b, jU_k (by decide), jU_k (by decide), jU_k (by decide)]
            exact g2 j a b
          · rw [jU_i (by omega), jU_k (by decide), jU_k (by decide), jU_k (by decide)]
            exact g3
          · rw [jU_s]
          · rw [jU_k (a := 3) (by decide), jU_k (a := 3) (by decide), jU_k (a := 3) (by decide), jU_k (a := 4) (by decide), jU_k (a := 4) (by decide), jU_k (a := 5) (by decide)]
            by_cases hqi : q = i
            · subst hqi
              rw [jU_s, jU_s, jU_s]
              exact ⟨rfl, rfl, rfl⟩
            · rw [jU_i hqi, jU_i hqi, jU_k (by decide), jU_i hqi, jU_k (by decide), jU_k (by decide)]
              exact g5 q q0 (by omega)
-- X0_allBits
theorem s_allBits (h : 0 ≤ H 1 3 ∧ H 1 3 ≤ 9) : jOk E mX0_allBits [jRF E 1] H (jQi fun r H' => H' = H ∧ r = bShl 1 (H 1 3) - 1) := by
  refine jOk.rng (fun hR0 => ?_)
  refine jOk.ofe rfl (Nat.le_of_ble_eq_true rfl) (en_a_1 (E := E)) ?_
  refine j_iconst 1 rfl dX0_allBits_0 ?_
  refine j_aload_n 2 rfl rfl dX0_allBits_1 ?_
  refine g_geti 5 rfl 3 3 rfl fl_X0_22 dX0_allBits_2 (by decide) ( rfl) ( rfl) ?_
  refine k_ishl 6 rfl dX0_allBits_5 ?_
  refine j_iconst 7 rfl dX0_allBits_6 ?_
  refine j_isub 8 rfl dX0_allBits_7 ?_
  refine j_ireti dX0_allBits_8 rfl ?_
  exact ⟨rfl, rfl⟩
-- X0_allSprings
theorem s_allSprings (h : 0 ≤ H 1 3 ∧ H 1 3 ≤ 9) : jOk E mX0_allSprings [jRF E 1] H (jQi fun r H' => H' = H ∧ r = sumI (H 5) (H 1 3)) := by
  refine jOk.rng (fun hR0 => ?_)
  refine jOk.ofe rfl (Nat.le_of_ble_eq_true rfl) (en_a_3 (E := E)) ?_
  refine j_iconst 1 rfl dX0_allSprings_0 ?_
  refine j_istore_n 2 rfl st_3_1 (by decide) rfl dX0_allSprings_1 ?_
  refine j_iconst 3 rfl dX0_allSprings_2 ?_
  refine j_istore_n 4 rfl st_3_2 (by decide) rfl dX0_allSprings_3 ?_
  have loop := jUp 0 (H 1 3) (fun i => jWP E mX0_allSprings (jQi fun r H' => H' = H ∧ r = sumI (H 5) (H 1 3)) 4 [some (jRF E 1), some (.int (jI (sumI (H 5) i))), some (.int (jI i))] [] H) ?_ ?_ 0 (by omega) (by omega)
  · exact loop
  · refine j_iload_n 5 rfl rfl dX0_allSprings_4 ?_
    refine j_aload_n 6 rfl rfl dX0_allSprings_5 ?_
    refine g_geti 9 rfl 3 3 rfl fl_X0_22 dX0_allSprings_6 (by decide) ( rfl) ( rfl) ?_
    refine j_icmp_ge 27 12 (by decide) rfl dX0_allSprings_9 (by intro hR; first | omega | exact hR _ _ | exact jb_r _ | exact hR0 _ _ | assumption) (by intro hR; first | omega | exact hR _ _ | exact jb_r _ | exact hR0 _ _ | assumption) (fun h => ?_) (fun h => ?_)
    · refine j_iload_n 28 rfl rfl dX0_allSprings_27 ?_
      refine j_ireti dX0_allSprings_28 rfl ?_
      exact ⟨rfl, rfl⟩
    · exfalso; omega
  · intro i h0 h1 ih
    refine j_iload_n 5 rfl rfl dX0_allSprings_4 ?_
    refine j_aload_n 6 rfl rfl dX0_allSprings_5 ?_
    refine g_geti 9 rfl 3 3 rfl fl_X0_22 dX0_allSprings_6 (by decide) ( rfl) ( rfl) ?_
    refine j_icmp_ge 27 12 (by decide) rfl dX0_allSprings_9 (by intro hR; first | omega | exact hR _ _ | exact jb_r _ | exact hR0 _ _ | assumption) (by intro hR; first | omega | exact hR _ _ | exact jb_r _ | exact hR0 _ _ | assumption) (fun h => ?_) (fun h => ?_)
    · exfalso; omega
    · refine j_iload_n 13 rfl rfl dX0_allSprings_12 ?_
      refine j_aload_n 14 rfl rfl dX0_allSprings_13 ?_
      refine j_getr 17 rfl 6 fl_X0_31 dX0_allSprings_14 (by decide) ( rfl) ( rfl) ?_
      refine j_iload_n 18 rfl rfl dX0_allSprings_17 ?_
      refine j_iald 19 rfl dX0_allSprings_18 (by decide) rfl (by decide) rfl (by omega) ?_
      refine j_iadd 20 rfl dX0_allSprings_19 ?_
      rw [← sumI_s (H 5) h0]
      refine j_istore_n 21 rfl st_3_1 (by decide) rfl dX0_allSprings_20 ?_
      refine j_iinc 24 rfl rfl st_3_2 (by decide) rfl dX0_allSprings_21 ?_
      refine j_goto 4 (by decide) dX0_allSprings_24 ?_
      exact ih
-- X0_withLaw
theorem s_withLaw {l : Int} (hl : -2147483648 ≤ l ∧ l ≤ 2147483647) (h : 0 ≤ H 1 3 ∧ H 1 3 ≤ 9) : jOk E mX0_withLaw [jRF E 1, .int (jI l)] H (jQi fun r H' => H' = H ∧ r = sumI (fun b => if H 3 b = l then 1 else 0) (H 1 3)) := by
  refine jOk.rng (fun hR0 => ?_)
  refine jOk.ofe rfl (Nat.le_of_ble_eq_true rfl) (en_ai_4 (E := E)) ?_
  refine j_iconst 1 rfl dX0_withLaw_0 ?_
  refine j_istore_n 2 rfl st_4_2 (by decide) rfl dX0_withLaw_1 ?_
  refine j_iconst 3 rfl dX0_withLaw_2 ?_
  refine j_istore_n 4 rfl st_4_3 (by decide) rfl dX0_withLaw_3 ?_
  have loop := jUp 0 (H 1 3) (fun i => jWP E mX0_withLaw (jQi fun r H' => H' = H ∧ r = sumI (fun b => if H 3 b = l then 1 else 0) (H 1 3)) 4 [some (jRF E 1), some (.int (jI l)), some (.int (jI (sumI (fun b => if H 3 b = l then 1 else 0) i))), some (.int (jI i))] [] H) ?_ ?_ 0 (by omega) (by omega)
  · exact loop
  · refine j_iload_n 5 rfl rfl dX0_withLaw_4 ?_
    refine j_aload_n 6 rfl rfl dX0_withLaw_5 ?_
    refine g_geti 9 rfl 3 3 rfl fl_X0_22 dX0_withLaw_6 (by decide) ( rfl) ( rfl) ?_
    refine j_icmp_ge 31 12 (by decide) rfl dX0_withLaw_9 (by intro hR; first | omega | exact hR _ _ | exact jb_r _ | exact hR0 _ _ | assumption) (by intro hR; first | omega | exact hR _ _ | exact jb_r _ | exact hR0 _ _ | assumption) (fun h => ?_) (fun h => ?_)
    · refine j_iload_n 32 rfl rfl dX0_withLaw_31 ?_
      refine j_ireti dX0_withLaw_32 rfl ?_
      exact ⟨rfl, rfl⟩
    · exfalso; omega
  · intro i h0 h1 ih
    rw [sumI_s _ h0] at ih
    refine j_iload_n 5 rfl rfl dX0_withLaw_4 ?_
    refine j_aload_n 6 rfl rfl dX0_withLaw_5 ?_
    refine g_geti 9 rfl 3 3 rfl fl_X0_22 dX0_withLaw_6 (by decide) ( rfl) ( rfl) ?_
    refine j_icmp_ge 31 12 (by decide) rfl dX0_withLaw_9 (by intro hR; first | omega | exact hR _ _ | exact jb_r _ | exact hR0 _ _ | assumption) (by intro hR; first | omega | exact hR _ _ | exact jb_r _ | exact hR0 _ _ | assumption) (fun h => ?_) (fun h => ?_)
    · exfalso; omega
    · refine j_aload_n 13 rfl rfl dX0_withLaw_12 ?_
      refine j_getr 16 rfl 4 fl_X0_25 dX0_withLaw_13 (by decide) ( rfl) ( rfl) ?_
      refine j_iload_n 17 rfl rfl dX0_withLaw_16 ?_
      refine j_iald 18 rfl dX0_withLaw_17 (by decide) rfl (by decide) rfl (by omega) ?_
      refine j_iload_n 19 rfl rfl dX0_withLaw_18 ?_
      refine j_icmp_ne 25 22 (by decide) rfl dX0_withLaw_19 (by intro hR; first | omega | exact hR _ _ | exact jb_r _ | exact hR0 _ _ | assumption) (by intro hR; first | omega | exact hR _ _ | exact jb_r _ | exact hR0 _ _ | assumption) (fun h2 => ?_) (fun h2 => ?_)
      · rw [if_neg h2, Int.add_zero] at ih
        refine j_iinc 28 rfl rfl st_4_3 (by decide) rfl dX0_withLaw_25 ?_
        refine j_goto 4 (by decide) dX0_withLaw_28 ?_
        exact ih
      · rw [if_pos h2] at ih
        refine j_iinc 25 rfl rfl st_4_2 (by decide) rfl dX0_withLaw_22 ?_
        refine j_iinc 28 rfl rfl st_4_3 (by decide) rfl dX0_withLaw_25 ?_
        refine j_goto 4 (by decide) dX0_withLaw_28 ?_
        exact ih
end S19
