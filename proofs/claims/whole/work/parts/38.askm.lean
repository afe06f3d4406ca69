/-! ===== the reference's plain questions ===== -/
theorem bAnd_comm (x y : Int) : bAnd x y = bAnd y x := by
  apply bt_ext (jb_r _) (jb_r _)
  intro b b0 b1
  show bt (bAnd x y) b = bt (bAnd y x) b
  rw [bt_and, bt_and, Bool.and_comm]
theorem pO_bt {K : jH} (hn : 0 ≤ K 0 0 ∧ K 0 0 ≤ 9) {t b : Int} (t0 : 0 ≤ t) (b0 : 0 ≤ b) (b1 : b < K 0 0) : bt (pO K t) b = pOp K t (pS K t.toNat) b := by
  unfold pO
  rw [pS, Int.toNat_of_nonneg t0]
  show bt (mkI (pOp K t (pS K t.toNat)) (K 0 0)) b = _
  rw [bt_mk _ (by omega) b0]
  simp [b1]
theorem pL_sum {K : jH} (hn : 0 ≤ K 0 0 ∧ K 0 0 ≤ 9) {b : Int} (b0 : 0 ≤ b) (b1 : b < K 0 0) : ∀ t : Nat, (pS K t).2.2.1 b = K 3 b - sumI (fun s => if bt (pO K s) b then 1 else 0) t
  | 0 => by
    show K 3 b = _
    rw [show ((0 : Nat) : Int) = 0 from rfl, sumI_0]
    omega
  | t + 1 => by
    have ih := pL_sum hn b0 b1 t
    rw [show ((t + 1 : Nat) : Int) = (t : Int) + 1 by omega, sumI_s _ (by omega), pS_l, pO_bt hn (by omega) b0 b1, Int.toNat_natCast, ih]
    split <;> omega
theorem pL_ans {K : jH} (hn : 0 ≤ K 0 0 ∧ K 0 0 ≤ 9) {b t : Int} (b0 : 0 ≤ b) (b1 : b < K 0 0) (t0 : 0 ≤ t) : pL K t b = K 3 b - sumI (fun s => if bt (pO K s) b then 1 else 0) (t + 1) := by
  unfold pL
  rw [pL_sum hn b0 b1, show ((t.toNat + 1 : Nat) : Int) = t + 1 by omega]
theorem FD.n {H : jH} (h : FD H) : (0 ≤ H 56 8 ∧ H 56 8 ≤ 9) ∧ H 56 8 = H 1 3 ∧ (0 ≤ H 1 3 ∧ H 1 3 ≤ 9) := by
  have := h.1.n
  have e := h.2.2.1.1
  omega
section S38
variable {E : jE} {H K : jH}
-- X5_box
theorem m_box {b w : Int} (hb : -2147483648 ≤ b ∧ b ≤ 2147483647) (hw : -2147483648 ≤ w ∧ w ≤ 2147483647) (h : RI H) : jOk E mX5_box [jRF E 56, .int (jI b), .int (jI w)] H (jQi fun r H' => MZ H H' ∧ anBox H b w r) := by
  have hn := h.n
  refine jOk.rng (fun hR0 => ?_)
  refine jOk.ofe rfl (Nat.le_of_ble_eq_true rfl) (en_aii_3 (E := E)) ?_
  refine j_aload_n 1 rfl rfl dX5_box_0 ?_
  refine jV0i 4 rfl dX5_box_1 lk_X5_126 rfl rfl (by decide) ( rfl) ( rfl) (r_reads h) (fun r1 H1 ⟨mq, _, mb, f1, _⟩ => ?_)
  have e1 : H1 1 = H 1 := f1 1 (by decide) (by decide)
  have e8 : H1 56 8 = H 1 3 := by rw [mb.1, e1]
  have key : 0 ≤ b → b < H 1 3 → 0 ≤ w → w < 3 → anBox H b w (H1 62 (3 * b + w)) := fun b0 b1 w0 w1 => by
    obtain ⟨q0, q1, q2⟩ := mb.2 b b0 (by rw [e1]; exact b1)
    rw [f1 3 (by decide) (by decide)] at q0
    rw [f1 4 (by decide) (by decide)] at q1
    rw [f1 5 (by decide) (by decide)] at q2
    rcases (show w = 0 ∨ w = 1 ∨ w = 2 by omega) with e | e | e
    · subst e; rw [Int.add_zero]; exact Or.inr (Or.inl ⟨⟨b0, b1⟩, rfl, q0⟩)
    · subst e; exact Or.inr (Or.inr (Or.inl ⟨⟨b0, b1⟩, rfl, q1⟩))
    · subst e; exact Or.inr (Or.inr (Or.inr ⟨⟨b0, b1⟩, rfl, q2⟩))
  refine j_pop 5 rfl rfl dX5_box_4 ?_
  refine j_aload_n 6 rfl rfl dX5_box_5 ?_
  refine j_iload_n 7 rfl rfl dX5_box_6 ?_
  refine jV1i 10 rfl dX5_box_7 lk_X5_134 rfl rfl (by decide) ( rfl) ( rfl) (m_isBox hb (by omega)) (fun r2 H9 ⟨eh_, hr2⟩ => ?_)
  obtain rfl := eh_.symm
  refine j_if_eq 38 13 (by decide) rfl dX5_box_10 (by intro hR; first | omega | exact hR _ _ | exact jb_r _ | exact hR0 _ _ | assumption) (fun h10 => ?_) (fun h10 => ?_)
  · refine j_bipush 40 rfl rfl dX5_box_38 ?_
    refine j_ireti dX5_box_40 rfl ?_
    refine ⟨mq, ?_⟩
    first | exact key (by omega) (by omega) (by omega) (by omega) | exact Or.inl ⟨by omega, rfl⟩
  · refine j_iload_n 14 rfl rfl dX5_box_13 ?_
    refine j_i2l 15 rfl (by intro hR; first | omega | exact hR _ _ | exact jb_r _ | exact hR0 _ _ | assumption) dX5_box_14 ?_
    refine j_lconst 16 rfl (x := 0) rfl dX5_box_15 ?_
    refine j_ldc2 19 rfl kc_X5_89 dX5_box_16 ?_
    refine jS3i 22 rfl dX5_box_19 lk_X5_75 rfl rfl (m_in (by omega) (by omega) (by omega)) (fun r19 H1 ⟨eh_, hr19⟩ => ?_)
    obtain rfl := eh_.symm
    refine j_if_eq 38 25 (by decide) rfl dX5_box_22 (by intro hR; first | omega | exact hR _ _ | exact jb_r _ | exact hR0 _ _ | assumption) (fun h22 => ?_) (fun h22 => ?_)
    · refine j_bipush 40 rfl rfl dX5_box_38 ?_
      refine j_ireti dX5_box_40 rfl ?_
      refine ⟨mq, ?_⟩
      first | exact key (by omega) (by omega) (by omega) (by omega) | exact Or.inl ⟨by omega, rfl⟩
    · refine j_aload_n 26 rfl rfl dX5_box_25 ?_
      refine j_getr 29 rfl 9 fl_X5_25 dX5_box_26 (by decide) ( rfl) ( rfl) ?_
      refine j_iconst 30 rfl dX5_box_29 ?_
      refine j_iload_n 31 rfl rfl dX5_box_30 ?_
      refine j_imul 32 rfl dX5_box_31 ?_
      refine j_iload_n 33 rfl rfl dX5_box_32 ?_
      refine j_iadd 34 rfl dX5_box_33 ?_
      refine j_iald 35 rfl dX5_box_34 (by decide) rfl (by decide) rfl (by omega) ?_
      refine j_goto 40 (by decide) dX5_box_35 ?_
      refine j_ireti dX5_box_40 rfl ?_
      refine ⟨mq, ?_⟩
      first | exact key (by omega) (by omega) (by omega) (by omega) | exact Or.inl ⟨by omega, rfl⟩
-- X5_fault
theorem m_fault (h : RI H) : jOk E mX5_fault [jRF E 56] H (jQi fun r H' => MZ H H' ∧ r = H 1 2) := by
  refine jOk.rng (fun hR0 => ?_)
  refine jOk.ofe rfl (Nat.le_of_ble_eq_true rfl) (en_a_1 (E := E)) ?_
  refine j_aload_n 1 rfl rfl dX5_fault_0 ?_
  refine jV0i 4 rfl dX5_fault_1 lk_X5_126 rfl rfl (by decide) ( rfl) ( rfl) (r_reads h) (fun r1 H1 ⟨mq, e, _⟩ => ?_)
  refine j_ireti dX5_fault_4 rfl ?_
  exact ⟨mq, e⟩
-- X5_step
theorem m_step {t w : Int} (ht : -2147483648 ≤ t ∧ t ≤ 2147483647) (hw : -2147483648 ≤ w ∧ w ≤ 2147483647) (h : RI H) : jOk E mX5_step [jRF E 56, .int (jI t), .int (jI w)] H (jQi fun r H' => MZ H H' ∧ FD H' ∧ anStep H t w r) := by
  refine jOk.rng (fun hR0 => ?_)
  refine jOk.ofe rfl (Nat.le_of_ble_eq_true rfl) (en_aii_3 (E := E)) ?_
  refine j_aload_n 1 rfl rfl dX5_step_0 ?_
  refine jV0v 4 rfl dX5_step_1 lk_X5_183 rfl rfl (by decide) ( rfl) ( rfl) (m_find h) (fun H1 ⟨mq, fd⟩ => ?_)
  rw [← mq.same.step]
  have ar := fd.2.2.2 t
  refine j_iload_n 5 rfl rfl dX5_step_4 ?_
  refine jS1i 8 rfl dX5_step_5 lk_X5_145 rfl rfl (m_isStep (by omega)) (fun r5 H1 ⟨eh_, hr5⟩ => ?_)
  obtain rfl := eh_.symm
  refine j_if_eq 40 11 (by decide) rfl dX5_step_8 (by intro hR; first | omega | exact hR _ _ | exact jb_r _ | exact hR0 _ _ | assumption) (fun h8 => ?_) (fun h8 => ?_)
  · refine j_bipush 42 rfl rfl dX5_step_40 ?_
    refine j_ireti dX5_step_42 rfl ?_
    refine ⟨mq, fd, ?_⟩
    first | exact Or.inl ⟨by omega, rfl⟩ | exact Or.inr (Or.inl ⟨by omega, by omega, (ar (by omega) (by omega)).1⟩) | exact Or.inr (Or.inr ⟨by omega, by omega, (ar (by omega) (by omega)).2.1⟩)
  · refine j_iload_n 12 rfl rfl dX5_step_11 ?_
    refine jS1i 15 rfl dX5_step_12 lk_X5_186 rfl rfl (m_isTwo (by omega)) (fun r12 H1 ⟨eh_, hr12⟩ => ?_)
    obtain rfl := eh_.symm
    refine j_if_eq 40 18 (by decide) rfl dX5_step_15 (by intro hR; first | omega | exact hR _ _ | exact jb_r _ | exact hR0 _ _ | assumption) (fun h15 => ?_) (fun h15 => ?_)
    · refine j_bipush 42 rfl rfl dX5_step_40 ?_
      refine j_ireti dX5_step_42 rfl ?_
      refine ⟨mq, fd, ?_⟩
      first | exact Or.inl ⟨by omega, rfl⟩ | exact Or.inr (Or.inl ⟨by omega, by omega, (ar (by omega) (by omega)).1⟩) | exact Or.inr (Or.inr ⟨by omega, by omega, (ar (by omega) (by omega)).2.1⟩)
    · refine j_iload_n 19 rfl rfl dX5_step_18 ?_
      refine j_if_ne 31 22 (by decide) rfl dX5_step_19 (by intro hR; first | omega | exact hR _ _ | exact jb_r _ | exact hR0 _ _ | assumption) (fun h19 => ?_) (fun h19 => ?_)
      · refine j_aload_n 32 rfl rfl dX5_step_31 ?_
        refine j_getr 35 rfl 16 fl_X5_40 dX5_step_32 (by decide) ( rfl) ( rfl) ?_
        refine j_iload_n 36 rfl rfl dX5_step_35 ?_
        refine j_iald 37 rfl dX5_step_36 (by decide) rfl (by decide) rfl (by omega) ?_
        refine j_goto 42 (by decide) dX5_step_37 ?_
        refine j_ireti dX5_step_42 rfl ?_
        refine ⟨mq, fd, ?_⟩
        first | exact Or.inl ⟨by omega, rfl⟩ | exact Or.inr (Or.inl ⟨by omega, by omega, (ar (by omega) (by omega)).1⟩) | exact Or.inr (Or.inr ⟨by omega, by omega, (ar (by omega) (by omega)).2.1⟩)
      · refine j_aload_n 23 rfl rfl dX5_step_22 ?_
        refine j_getr 26 rfl 15 fl_X5_37 dX5_step_23 (by decide) ( rfl) ( rfl) ?_
        refine j_iload_n 27 rfl rfl dX5_step_26 ?_
        refine j_iald 28 rfl dX5_step_27 (by decide) rfl (by decide) rfl (by omega) ?_
        refine j_goto 42 (by decide) dX5_step_28 ?_
        refine j_ireti dX5_step_42 rfl ?_
        refine ⟨mq, fd, ?_⟩
        first | exact Or.inl ⟨by omega, rfl⟩ | exact Or.inr (Or.inl ⟨by omega, by omega, (ar (by omega) (by omega)).1⟩) | exact Or.inr (Or.inr ⟨by omega, by omega, (ar (by omega) (by omega)).2.1⟩)
-- X5_spring
theorem m_spring {t b : Int} (ht : -2147483648 ≤ t ∧ t ≤ 2147483647) (hb : -2147483648 ≤ b ∧ b ≤ 2147483647) (h : RI H) : jOk E mX5_spring [jRF E 56, .int (jI t), .int (jI b)] H (jQi fun r H' => MZ H H' ∧ FD H' ∧ anSpring H t b r) := by
  refine jOk.rng (fun hR0 => ?_)
  refine jOk.ofe rfl (Nat.le_of_ble_eq_true rfl) (en_aii_3 (E := E)) ?_
  refine j_aload_n 1 rfl rfl dX5_spring_0 ?_
  refine jV0v 4 rfl dX5_spring_1 lk_X5_183 rfl rfl (by decide) ( rfl) ( rfl) (m_find h) (fun H1 ⟨mq, fd⟩ => ?_)
  rw [← mq.same.spring]
  have ar := fd.2.2.2 t
  have hn := fd.n
  have key : 0 ≤ t ∧ t < 60 ∧ 0 ≤ b ∧ b < H1 1 3 → H1 68 (9 * t + b) = H1 5 b - sumI (fun s => if bt (pO (cfg H1) s) b then 1 else 0) (t + 1) := fun q => by
    rw [(ar q.1 q.2.1).2.2 b q.2.2.1 q.2.2.2, pL_ans fd.1.ok.1 q.2.2.1 q.2.2.2 q.1]
    rfl
  refine j_iload_n 5 rfl rfl dX5_spring_4 ?_
  refine jS1i 8 rfl dX5_spring_5 lk_X5_145 rfl rfl (m_isStep (by omega)) (fun r5 H1 ⟨eh_, hr5⟩ => ?_)
  obtain rfl := eh_.symm
  refine j_if_eq 33 11 (by decide) rfl dX5_spring_8 (by intro hR; first | omega | exact hR _ _ | exact jb_r _ | exact hR0 _ _ | assumption) (fun h8 => ?_) (fun h8 => ?_)
  · refine j_bipush 35 rfl rfl dX5_spring_33 ?_
    refine j_ireti dX5_spring_35 rfl ?_
    refine ⟨mq, fd, ?_⟩
    first | exact Or.inl ⟨by omega, rfl⟩ | exact Or.inr ⟨by omega, key (by omega)⟩
  · refine j_aload_n 12 rfl rfl dX5_spring_11 ?_
    refine j_iload_n 13 rfl rfl dX5_spring_12 ?_
    refine jV1i 16 rfl dX5_spring_13 lk_X5_134 rfl rfl (by decide) ( rfl) ( rfl) (m_isBox (by omega) (by omega)) (fun r13 H1 ⟨eh_, hr13⟩ => ?_)
    obtain rfl := eh_.symm
    refine j_if_eq 33 19 (by decide) rfl dX5_spring_16 (by intro hR; first | omega | exact hR _ _ | exact jb_r _ | exact hR0 _ _ | assumption) (fun h16 => ?_) (fun h16 => ?_)
    · refine j_bipush 35 rfl rfl dX5_spring_33 ?_
      refine j_ireti dX5_spring_35 rfl ?_
      refine ⟨mq, fd, ?_⟩
      first | exact Or.inl ⟨by omega, rfl⟩ | exact Or.inr ⟨by omega, key (by omega)⟩
    · refine j_aload_n 20 rfl rfl dX5_spring_19 ?_
      refine j_getr 23 rfl 17 fl_X5_43 dX5_spring_20 (by decide) ( rfl) ( rfl) ?_
      refine j_bipush 25 rfl rfl dX5_spring_23 ?_
      refine j_iload_n 26 rfl rfl dX5_spring_25 ?_
      refine j_imul 27 rfl dX5_spring_26 ?_
      refine j_iload_n 28 rfl rfl dX5_spring_27 ?_
      refine j_iadd 29 rfl dX5_spring_28 ?_
      refine j_iald 30 rfl dX5_spring_29 (by decide) rfl (by decide) rfl (by omega) ?_
      refine j_goto 35 (by decide) dX5_spring_30 ?_
      refine j_ireti dX5_spring_35 rfl ?_
      refine ⟨mq, fd, ?_⟩
      first | exact Or.inl ⟨by omega, rfl⟩ | exact Or.inr ⟨by omega, key (by omega)⟩
-- X5_quietNow
theorem m_quietNow (h : FD H) : jOk E mX5_quietNow [jRF E 56] H (jQi fun r H' => H' = H ∧ anQuiet H r) := by
  have ar := h.2.2.2
  have hn := h.1.ok.1
  have fin : ∀ m : Int, (0 ≤ m ∧ m ≤ 60) → (∀ s, m ≤ s → s < 60 → pO (cfg H) s = 0) → (m = 0 ∨ pO (cfg H) (m - 1) ≠ 0) → jWP E mX5_quietNow (jQi fun r H' => H' = H ∧ anQuiet H r) 24 [some (jRF E 56), some (.int (jI m))] [] H := by
    intro m hm h1 h2
    refine j_iload_n 25 rfl rfl dX5_quietNow_24 ?_
    refine j_bipush 27 rfl rfl dX5_quietNow_25 ?_
    refine j_icmp_ne 34 30 (by decide) rfl dX5_quietNow_27 (by intro hR; first | omega | exact hR _ _ | exact jb_r _ | exact hR0 _ _ | assumption) (by intro hR; first | omega | exact hR _ _ | exact jb_r _ | exact hR0 _ _ | assumption) (fun h27 => ?_) (fun h27 => ?_)
    · refine j_iload_n 35 rfl rfl dX5_quietNow_34 ?_
      refine j_ireti dX5_quietNow_35 rfl ?_
      exact ⟨rfl, m, hm, h1, h2, by first | rw [if_pos (by omega)] | rw [if_neg (by omega)]⟩
    · refine j_iconst 31 rfl dX5_quietNow_30 ?_
      refine j_goto 35 (by decide) dX5_quietNow_31 ?_
      refine j_ireti dX5_quietNow_35 rfl ?_
      exact ⟨rfl, m, hm, h1, h2, by first | rw [if_pos (by omega)] | rw [if_neg (by omega)]⟩
  have key : ∀ m : Nat, (m : Int) ≤ 60 → (∀ s, (m : Int) ≤ s → s < 60 → pO (cfg H) s = 0) → jWP E mX5_quietNow (jQi fun r H' => H' = H ∧ anQuiet H r) 3 [some (jRF E 56), some (.int (jI m))] [] H := by
    intro m
    induction m with
    | zero =>
      intro h1 h2
      refine j_iload_n 4 rfl rfl dX5_quietNow_3 ?_
      refine j_if_le 24 7 (by decide) rfl dX5_quietNow_4 (by intro hR; first | omega | exact hR _ _ | exact jb_r _ | exact hR0 _ _ | assumption) (fun h3 => ?_) (fun h3 => ?_)
      · exact fin _ (by omega) h2 (Or.inl rfl)
      · exfalso; omega
    | succ m ih =>
      intro h1 h2
      have hr := pO_r hn m
      refine j_iload_n 4 rfl rfl dX5_quietNow_3 ?_
      refine j_if_le 24 7 (by decide) rfl dX5_quietNow_4 (by intro hR; first | omega | exact hR _ _ | exact jb_r _ | exact hR0 _ _ | assumption) (fun h3 => ?_) (fun h3 => ?_)
      · exfalso; omega
      · refine j_aload_n 8 rfl rfl dX5_quietNow_7 ?_
        refine j_getr 11 rfl 15 fl_X5_37 dX5_quietNow_8 (by decide) ( rfl) ( rfl) ?_
        refine j_iload_n 12 rfl rfl dX5_quietNow_11 ?_
        refine j_iconst 13 rfl dX5_quietNow_12 ?_
        refine j_isub 14 rfl dX5_quietNow_13 ?_
        refine j_iald 15 rfl dX5_quietNow_14 (by decide) rfl (by decide) rfl (by omega) ?_
        rw [show ((m + 1 : Nat) : Int) - 1 = (m : Int) by omega, (ar m (by omega) (by omega)).1]
        refine j_if_ne 24 18 (by decide) rfl dX5_quietNow_15 (by intro hR; first | omega | exact hR _ _ | exact jb_r _ | exact hR0 _ _ | assumption) (fun h4 => ?_) (fun h4 => ?_)
        · exact fin _ (by omega) h2 (Or.inr (by rw [show ((m + 1 : Nat) : Int) - 1 = (m : Int) by omega]; exact h4))
        · refine j_iinc 21 rfl rfl st_2_1 (by decide) rfl dX5_quietNow_18 ?_
          refine j_goto 3 (by decide) dX5_quietNow_21 ?_
          rw [show ((m + 1 : Nat) : Int) + -1 = (m : Int) by omega]
          refine ih (by omega) (fun s s0 s1 => ?_)
          by_cases e : s = m
          · rw [e]; exact h4
          · exact h2 s (by omega) s1
  refine jOk.rng (fun hR0 => ?_)
  refine jOk.ofe rfl (Nat.le_of_ble_eq_true rfl) (en_a_2 (E := E)) ?_
  refine j_bipush 2 rfl rfl dX5_quietNow_0 ?_
  refine j_istore_n 3 rfl st_2_1 (by decide) rfl dX5_quietNow_2 ?_
  exact key 60 (by omega) (fun s s0 s1 => by omega)
-- X5_quiet
theorem m_quiet (h : RI H) : jOk E mX5_quiet [jRF E 56] H (jQi fun r H' => MZ H H' ∧ FD H' ∧ anQuiet H r) := by
  refine jOk.rng (fun hR0 => ?_)
  refine jOk.ofe rfl (Nat.le_of_ble_eq_true rfl) (en_a_1 (E := E)) ?_
  refine j_aload_n 1 rfl rfl dX5_quiet_0 ?_
  refine jV0v 4 rfl dX5_quiet_1 lk_X5_183 rfl rfl (by decide) ( rfl) ( rfl) (m_find h) (fun H1 ⟨mq, fd⟩ => ?_)
  rw [← mq.same.quiet]
  refine j_aload_n 5 rfl rfl dX5_quiet_4 ?_
  refine jV0i 8 rfl dX5_quiet_5 lk_X5_189 rfl rfl (by decide) ( rfl) ( rfl) (m_quietNow fd) (fun r5 H1 ⟨eh_, hr5⟩ => ?_)
  obtain rfl := eh_.symm
  refine j_ireti dX5_quiet_8 rfl ?_
  exact ⟨mq, fd, hr5⟩
-- X5_loudestOf
theorem m_loudestOf {w : Int} (hw : w = 0 ∨ w = 1) (h : FD H) : jOk E mX5_loudestOf [jRF E 56, .int (jI w)] H (jQi fun r H' => H' = H ∧ anLoud H w r) := by
  have ar := h.2.2.2
  have hn := h.1.ok.1
  have fin : ∀ m x3 : Int, (0 ≤ m ∧ m < 60) → (∀ s, 0 ≤ s → s < 60 → oc (pO (cfg H) s) ≤ oc (pO (cfg H) m)) → (∀ s, 0 ≤ s → s < m → oc (pO (cfg H) s) < oc (pO (cfg H) m)) → jWP E mX5_loudestOf (jQi fun r H' => H' = H ∧ anLoud H w r) 43 [some (jRF E 56), some (.int (jI w)), some (.int (jI m)), some (.int (jI x3))] [] H := by
    intro m x3 hm h1 h2
    have hr := pO_r hn m
    have hz : oc (pO (cfg H) m) = 0 ↔ pO (cfg H) m = 0 := by
      constructor
      · intro e
        apply Classical.byContradiction
        intro z
        have := oc_pos ⟨(pO (cfg H) m).toNat, by omega⟩
        simp only [Int.toNat_of_nonneg hr.1] at this
        have := this z
        omega
      · intro e; rw [e]; exact oc_zero
    have e1 := (ar m hm.1 hm.2).1
    refine j_aload_n 44 rfl rfl dX5_loudestOf_43 ?_
    refine j_getr 47 rfl 15 fl_X5_37 dX5_loudestOf_44 (by decide) ( rfl) ( rfl) ?_
    refine j_iload_n 48 rfl rfl dX5_loudestOf_47 ?_
    refine j_iald 49 rfl dX5_loudestOf_48 (by decide) rfl (by decide) rfl (by omega) ?_
    rw [e1]
    refine j_if_ne 56 52 (by decide) rfl dX5_loudestOf_49 (by intro hR; first | omega | exact hR _ _ | exact jb_r _ | exact hR0 _ _ | assumption) (fun h3 => ?_) (fun h3 => ?_)
    · refine j_iload_n 57 rfl rfl dX5_loudestOf_56 ?_
      refine j_if_ne 64 60 (by decide) rfl dX5_loudestOf_57 (by intro hR; first | omega | exact hR _ _ | exact jb_r _ | exact hR0 _ _ | assumption) (fun h4 => ?_) (fun h4 => ?_)
      · refine j_aload_n 65 rfl rfl dX5_loudestOf_64 ?_
        refine j_getr 68 rfl 15 fl_X5_37 dX5_loudestOf_65 (by decide) ( rfl) ( rfl) ?_
        refine j_iload_n 69 rfl rfl dX5_loudestOf_68 ?_
        refine j_iald 70 rfl dX5_loudestOf_69 (by decide) rfl (by decide) rfl (by omega) ?_
        rw [e1]
        refine jS1i 73 rfl dX5_loudestOf_70 lk_X5_167 rfl rfl (m_ones (by omega)) (fun r1 H9 ⟨eh_, hr1⟩ => ?_)
        obtain rfl := eh_.symm
        refine j_ireti dX5_loudestOf_73 rfl ?_
        exact ⟨rfl, Or.inr ⟨hw, m, hm, h1, h2, by rw [if_neg (fun z => h3 (hz.mp z)), if_neg h4]; exact hr1⟩⟩
      · refine j_iload_n 61 rfl rfl dX5_loudestOf_60 ?_
        refine j_goto 73 (by decide) dX5_loudestOf_61 ?_
        refine j_ireti dX5_loudestOf_73 rfl ?_
        exact ⟨rfl, Or.inr ⟨hw, m, hm, h1, h2, by rw [if_neg (fun z => h3 (hz.mp z)), if_pos (by omega)]⟩⟩
    · refine j_iconst 53 rfl dX5_loudestOf_52 ?_
      refine j_goto 73 (by decide) dX5_loudestOf_53 ?_
      refine j_ireti dX5_loudestOf_73 rfl ?_
      exact ⟨rfl, Or.inr ⟨hw, m, hm, h1, h2, by rw [if_pos (hz.mpr (by omega))]⟩⟩
  refine jOk.rng (fun hR0 => ?_)
  refine jOk.ofe rfl (Nat.le_of_ble_eq_true rfl) (en_ai_4 (E := E)) ?_
  refine j_iconst 1 rfl dX5_loudestOf_0 ?_
  refine j_istore_n 2 rfl st_4_2 (by decide) rfl dX5_loudestOf_1 ?_
  refine j_iconst 3 rfl dX5_loudestOf_2 ?_
  refine j_istore_n 4 rfl st_4_3 (by decide) rfl dX5_loudestOf_3 ?_
  have loop := jUp 1 60 (fun t => ∀ m : Int, (0 ≤ m ∧ m < t) → (∀ s, 0 ≤ s → s < t → oc (pO (cfg H) s) ≤ oc (pO (cfg H) m)) → (∀ s, 0 ≤ s → s < m → oc (pO (cfg H) s) < oc (pO (cfg H) m)) → jWP E mX5_loudestOf (jQi fun r H' => H' = H ∧ anLoud H w r) 4 [some (jRF E 56), some (.int (jI w)), some (.int (jI m)), some (.int (jI t))] [] H) ?_ ?_ 1 (by omega) (by omega)
  · exact loop 0 (by omega) (fun s s0 s1 => by rw [show s = 0 by omega]; exact Int.le_refl _) (fun s s0 s1 => by omega)
  · intro m hm h1 h2
    refine j_iload_n 5 rfl rfl dX5_loudestOf_4 ?_
    refine j_bipush 7 rfl rfl dX5_loudestOf_5 ?_
    refine j_icmp_ge 43 10 (by decide) rfl dX5_loudestOf_7 (by intro hR; first | omega | exact hR _ _ | exact jb_r _ | exact hR0 _ _ | assumption) (by intro hR; first | omega | exact hR _ _ | exact jb_r _ | exact hR0 _ _ | assumption) (fun h3 => ?_) (fun h3 => ?_)
    · exact fin m 60 hm h1 h2
    · exfalso; omega
  · intro t t0 t1 ih m hm h1 h2
    have e1 := (ar t (by omega) (by omega)).1
    have e2 := (ar m (by omega) (by omega)).1
    have r1 := pO_r hn t
    have r2 := pO_r hn m
    have o1 := oc_r (pO (cfg H) t)
    have o2 := oc_r (pO (cfg H) m)
    refine j_iload_n 5 rfl rfl dX5_loudestOf_4 ?_
    refine j_bipush 7 rfl rfl dX5_loudestOf_5 ?_
    refine j_icmp_ge 43 10 (by decide) rfl dX5_loudestOf_7 (by intro hR; first | omega | exact hR _ _ | exact jb_r _ | exact hR0 _ _ | assumption) (by intro hR; first | omega | exact hR _ _ | exact jb_r _ | exact hR0 _ _ | assumption) (fun h3 => ?_) (fun h3 => ?_)
    · exfalso; omega
    · refine j_aload_n 11 rfl rfl dX5_loudestOf_10 ?_
      refine j_getr 14 rfl 15 fl_X5_37 dX5_loudestOf_11 (by decide) ( rfl) ( rfl) ?_
      refine j_iload_n 15 rfl rfl dX5_loudestOf_14 ?_
      refine j_iald 16 rfl dX5_loudestOf_15 (by decide) rfl (by decide) rfl (by omega) ?_
      rw [e1]
      refine jS1i 19 rfl dX5_loudestOf_16 lk_X5_167 rfl rfl (m_ones (by omega)) (fun q1 H9 ⟨eh_, hq1⟩ => ?_)
      obtain rfl := eh_.symm
      refine j_aload_n 20 rfl rfl dX5_loudestOf_19 ?_
      refine j_getr 23 rfl 15 fl_X5_37 dX5_loudestOf_20 (by decide) ( rfl) ( rfl) ?_
      refine j_iload_n 24 rfl rfl dX5_loudestOf_23 ?_
      refine j_iald 25 rfl dX5_loudestOf_24 (by decide) rfl (by decide) rfl (by omega) ?_
      rw [e2]
      refine jS1i 28 rfl dX5_loudestOf_25 lk_X5_167 rfl rfl (m_ones (by omega)) (fun q2 H9 ⟨eh_, hq2⟩ => ?_)
      obtain rfl := eh_.symm
      refine j_icmp_le 35 31 (by decide) rfl dX5_loudestOf_28 (by intro hR; first | omega | exact hR _ _ | exact jb_r _ | exact hR0 _ _ | assumption) (by intro hR; first | omega | exact hR _ _ | exact jb_r _ | exact hR0 _ _ | assumption) (fun h4 => ?_) (fun h4 => ?_)
      · refine j_iload_n 36 rfl rfl dX5_loudestOf_35 ?_
        refine j_istore_n 37 rfl st_4_2 (by decide) rfl dX5_loudestOf_36 ?_
        refine j_iinc 40 rfl rfl st_4_3 (by decide) rfl dX5_loudestOf_37 ?_
        refine j_goto 4 (by decide) dX5_loudestOf_40 ?_
        refine ih m (by omega) (fun s s0 s1 => ?_) h2
        by_cases e : s = t
        · rw [e]; omega
        · exact h1 s s0 (by omega)
      · refine j_iload_n 32 rfl rfl dX5_loudestOf_31 ?_
        refine j_goto 36 (by decide) dX5_loudestOf_32 ?_
        refine j_istore_n 37 rfl st_4_2 (by decide) rfl dX5_loudestOf_36 ?_
        refine j_iinc 40 rfl rfl st_4_3 (by decide) rfl dX5_loudestOf_37 ?_
        refine j_goto 4 (by decide) dX5_loudestOf_40 ?_
        refine ih t (by omega) (fun s s0 s1 => ?_) (fun s s0 s1 => ?_)
        · by_cases e : s = t
          · rw [e]; exact Int.le_refl _
          · have := h1 s s0 (by omega); omega
        · have := h1 s s0 (by omega); omega
-- X5_loudest
theorem m_loudest {w : Int} (hw : -2147483648 ≤ w ∧ w ≤ 2147483647) (h : RI H) : jOk E mX5_loudest [jRF E 56, .int (jI w)] H (jQi fun r H' => MZ H H' ∧ FD H' ∧ anLoud H w r) := by
  refine jOk.rng (fun hR0 => ?_)
  refine jOk.ofe rfl (Nat.le_of_ble_eq_true rfl) (en_ai_2 (E := E)) ?_
  refine j_aload_n 1 rfl rfl dX5_loudest_0 ?_
  refine jV0v 4 rfl dX5_loudest_1 lk_X5_183 rfl rfl (by decide) ( rfl) ( rfl) (m_find h) (fun H1 ⟨mq, fd⟩ => ?_)
  rw [← mq.same.loud]
  refine j_iload_n 5 rfl rfl dX5_loudest_4 ?_
  refine jS1i 8 rfl dX5_loudest_5 lk_X5_186 rfl rfl (m_isTwo (by omega)) (fun r5 H1 ⟨eh_, hr5⟩ => ?_)
  obtain rfl := eh_.symm
  refine j_if_eq 19 11 (by decide) rfl dX5_loudest_8 (by intro hR; first | omega | exact hR _ _ | exact jb_r _ | exact hR0 _ _ | assumption) (fun h8 => ?_) (fun h8 => ?_)
  · refine j_bipush 21 rfl rfl dX5_loudest_19 ?_
    refine j_ireti dX5_loudest_21 rfl ?_
    first | exact ⟨mq, fd, hr13⟩ | exact ⟨mq, fd, Or.inl ⟨by omega, rfl⟩⟩
  · refine j_aload_n 12 rfl rfl dX5_loudest_11 ?_
    refine j_iload_n 13 rfl rfl dX5_loudest_12 ?_
    refine jV1i 16 rfl dX5_loudest_13 lk_X5_192 rfl rfl (by decide) ( rfl) ( rfl) (m_loudestOf (by omega) fd) (fun r13 H1 ⟨eh_, hr13⟩ => ?_)
    obtain rfl := eh_.symm
    refine j_goto 21 (by decide) dX5_loudest_16 ?_
    refine j_ireti dX5_loudest_21 rfl ?_
    first | exact ⟨mq, fd, hr13⟩ | exact ⟨mq, fd, Or.inl ⟨by omega, rfl⟩⟩
-- X5_firstOf
theorem m_firstOf {b : Int} (hb : 0 ≤ b ∧ b < H 1 3) (h : FD H) : jOk E mX5_firstOf [jRF E 56, .int (jI b)] H (jQi fun r H' => H' = H ∧ anFirst H b r) := by
  have ar := h.2.2.2
  have hn := h.n
  refine jOk.rng (fun hR0 => ?_)
  refine jOk.ofe rfl (Nat.le_of_ble_eq_true rfl) (en_ai_3 (E := E)) ?_
  refine j_iconst 1 rfl dX5_firstOf_0 ?_
  refine j_istore_n 2 rfl st_3_2 (by decide) rfl dX5_firstOf_1 ?_
  have loop := jUp 0 60 (fun t => (∀ s, 0 ≤ s → s < t → ¬ bt (pO (cfg H) s) b = true) → jWP E mX5_firstOf (jQi fun r H' => H' = H ∧ anFirst H b r) 2 [some (jRF E 56), some (.int (jI b)), some (.int (jI t))] [] H) ?_ ?_ 0 (by omega) (by omega)
  · exact loop (fun s s0 s1 => by omega)
  · intro hs
    refine j_iload_n 3 rfl rfl dX5_firstOf_2 ?_
    refine j_bipush 5 rfl rfl dX5_firstOf_3 ?_
    refine j_icmp_ge 29 8 (by decide) rfl dX5_firstOf_5 (by intro hR; first | omega | exact hR _ _ | exact jb_r _ | exact hR0 _ _ | assumption) (by intro hR; first | omega | exact hR _ _ | exact jb_r _ | exact hR0 _ _ | assumption) (fun h1 => ?_) (fun h1 => ?_)
    · refine j_iconst 30 rfl dX5_firstOf_29 ?_
      refine j_ireti dX5_firstOf_30 rfl ?_
      exact ⟨rfl, Or.inr ⟨hb, Or.inr ⟨hs, rfl⟩⟩⟩
    · exfalso; omega
  · intro t t0 t1 ih hs
    refine j_iload_n 3 rfl rfl dX5_firstOf_2 ?_
    refine j_bipush 5 rfl rfl dX5_firstOf_3 ?_
    refine j_icmp_ge 29 8 (by decide) rfl dX5_firstOf_5 (by intro hR; first | omega | exact hR _ _ | exact jb_r _ | exact hR0 _ _ | assumption) (by intro hR; first | omega | exact hR _ _ | exact jb_r _ | exact hR0 _ _ | assumption) (fun h1 => ?_) (fun h1 => ?_)
    · exfalso; omega
    · refine j_aload_n 9 rfl rfl dX5_firstOf_8 ?_
      refine j_getr 12 rfl 15 fl_X5_37 dX5_firstOf_9 (by decide) ( rfl) ( rfl) ?_
      refine j_iload_n 13 rfl rfl dX5_firstOf_12 ?_
      refine j_iald 14 rfl dX5_firstOf_13 (by decide) rfl (by decide) rfl (by omega) ?_
      refine j_iload_n 15 rfl rfl dX5_firstOf_14 ?_
      rw [(ar t t0 t1).1]
      refine jS2i 18 rfl dX5_firstOf_15 lk_X5_157 rfl rfl (m_isIn (by omega)) (fun r1 H9 ⟨eh_, hr1⟩ => ?_)
      obtain rfl := eh_.symm
      refine j_if_eq 23 21 (by decide) rfl dX5_firstOf_18 (by intro hR; first | omega | exact hR _ _ | exact jb_r _ | exact hR0 _ _ | assumption) (fun h2 => ?_) (fun h2 => ?_)
      · refine j_iinc 26 rfl rfl st_3_2 (by decide) rfl dX5_firstOf_23 ?_
        refine j_goto 2 (by decide) dX5_firstOf_26 ?_
        refine ih (fun s s0 s1 => ?_)
        by_cases e : s = t
        · rw [e]
          rcases hr1 with ⟨z, _⟩ | ⟨_, z⟩
          · omega
          · rw [z]; simp
        · exact hs s s0 (by omega)
      · refine j_iload_n 22 rfl rfl dX5_firstOf_21 ?_
        refine j_ireti dX5_firstOf_22 rfl ?_
        refine ⟨rfl, Or.inr ⟨hb, Or.inl ⟨t0, t1, ?_, hs⟩⟩⟩
        rcases hr1 with ⟨_, z⟩ | ⟨z, _⟩
        · exact z
        · omega
-- X5_first
theorem m_first {b : Int} (hb : -2147483648 ≤ b ∧ b ≤ 2147483647) (h : RI H) : jOk E mX5_first [jRF E 56, .int (jI b)] H (jQi fun r H' => MZ H H' ∧ FD H' ∧ anFirst H b r) := by
  refine jOk.rng (fun hR0 => ?_)
  refine jOk.ofe rfl (Nat.le_of_ble_eq_true rfl) (en_ai_2 (E := E)) ?_
  refine j_aload_n 1 rfl rfl dX5_first_0 ?_
  refine jV0v 4 rfl dX5_first_1 lk_X5_183 rfl rfl (by decide) ( rfl) ( rfl) (m_find h) (fun H1 ⟨mq, fd⟩ => ?_)
  rw [← mq.same.first]
  have hn := fd.n
  refine j_aload_n 5 rfl rfl dX5_first_4 ?_
  refine j_iload_n 6 rfl rfl dX5_first_5 ?_
  refine jV1i 9 rfl dX5_first_6 lk_X5_134 rfl rfl (by decide) ( rfl) ( rfl) (m_isBox (by omega) (by omega)) (fun r6 H1 ⟨eh_, hr6⟩ => ?_)
  obtain rfl := eh_.symm
  refine j_if_eq 20 12 (by decide) rfl dX5_first_9 (by intro hR; first | omega | exact hR _ _ | exact jb_r _ | exact hR0 _ _ | assumption) (fun h9 => ?_) (fun h9 => ?_)
  · refine j_bipush 22 rfl rfl dX5_first_20 ?_
    refine j_ireti dX5_first_22 rfl ?_
    first | exact ⟨mq, fd, hr14⟩ | exact ⟨mq, fd, Or.inl ⟨by omega, rfl⟩⟩
  · refine j_aload_n 13 rfl rfl dX5_first_12 ?_
    refine j_iload_n 14 rfl rfl dX5_first_13 ?_
    refine jV1i 17 rfl dX5_first_14 lk_X5_195 rfl rfl (by decide) ( rfl) ( rfl) (m_firstOf (by omega) fd) (fun r14 H1 ⟨eh_, hr14⟩ => ?_)
    obtain rfl := eh_.symm
    refine j_goto 22 (by decide) dX5_first_17 ?_
    refine j_ireti dX5_first_22 rfl ?_
    first | exact ⟨mq, fd, hr14⟩ | exact ⟨mq, fd, Or.inl ⟨by omega, rfl⟩⟩
-- X5_togetherOf
theorem m_togetherOf {a b : Int} (ha : 0 ≤ a ∧ a < H 1 3) (hb : 0 ≤ b ∧ b < H 1 3) (h : FD H) : jOk E mX5_togetherOf [jRF E 56, .int (jI a), .int (jI b)] H (jQi fun r H' => H' = H ∧ r = sumI (fun s => if bt (pU (cfg H) s) a && bt (pU (cfg H) s) b then 1 else 0) 60) := by
  have ar := h.2.2.2
  have hn := h.n
  refine jOk.rng (fun hR0 => ?_)
  refine jOk.ofe rfl (Nat.le_of_ble_eq_true rfl) (en_aii_5 (E := E)) ?_
  refine j_iconst 1 rfl dX5_togetherOf_0 ?_
  refine j_istore_n 2 rfl st_5_3 (by decide) rfl dX5_togetherOf_1 ?_
  refine j_iconst 3 rfl dX5_togetherOf_2 ?_
  refine j_istore 5 rfl st_5_4 (by decide) rfl dX5_togetherOf_3 ?_
  have loop := jUp 0 60 (fun t => jWP E mX5_togetherOf (jQi fun r H' => H' = H ∧ r = sumI (fun s => if bt (pU (cfg H) s) a && bt (pU (cfg H) s) b then 1 else 0) 60) 5 [some (jRF E 56), some (.int (jI a)), some (.int (jI b)), some (.int (jI (sumI (fun s => if bt (pU (cfg H) s) a && bt (pU (cfg H) s) b then 1 else 0) t))), some (.int (jI t))] [] H) ?_ ?_ 0 (by omega) (by omega)
  · exact loop
  · refine j_iload 7 rfl rfl dX5_togetherOf_5 ?_
    refine j_bipush 9 rfl rfl dX5_togetherOf_7 ?_
    refine j_icmp_ge 54 12 (by decide) rfl dX5_togetherOf_9 (by intro hR; first | omega | exact hR _ _ | exact jb_r _ | exact hR0 _ _ | assumption) (by intro hR; first | omega | exact hR _ _ | exact jb_r _ | exact hR0 _ _ | assumption) (fun h1 => ?_) (fun h1 => ?_)
    · refine j_iload_n 55 rfl rfl dX5_togetherOf_54 ?_
      refine j_ireti dX5_togetherOf_55 rfl ?_
      exact ⟨rfl, rfl⟩
    · exfalso; omega
  · intro t t0 t1 ih
    rw [sumI_s _ t0] at ih
    have put : ∀ x, x = (if bt (pU (cfg H) t) a && bt (pU (cfg H) t) b then 1 else 0) → jWP E mX5_togetherOf (jQi fun r H' => H' = H ∧ r = sumI (fun s => if bt (pU (cfg H) s) a && bt (pU (cfg H) s) b then 1 else 0) 60) 46 [some (jRF E 56), some (.int (jI a)), some (.int (jI b)), some (.int (jI (sumI (fun s => if bt (pU (cfg H) s) a && bt (pU (cfg H) s) b then 1 else 0) t))), some (.int (jI t))] [.int (jI x), .int (jI (sumI (fun s => if bt (pU (cfg H) s) a && bt (pU (cfg H) s) b then 1 else 0) t))] H := by
      intro x hx
      rw [← hx] at ih
      refine j_iadd 47 rfl dX5_togetherOf_46 ?_
      refine j_istore_n 48 rfl st_5_3 (by decide) rfl dX5_togetherOf_47 ?_
      refine j_iinc 51 rfl rfl st_5_4 (by decide) rfl dX5_togetherOf_48 ?_
      refine j_goto 5 (by decide) dX5_togetherOf_51 ?_
      exact ih
    refine j_iload 7 rfl rfl dX5_togetherOf_5 ?_
    refine j_bipush 9 rfl rfl dX5_togetherOf_7 ?_
    refine j_icmp_ge 54 12 (by decide) rfl dX5_togetherOf_9 (by intro hR; first | omega | exact hR _ _ | exact jb_r _ | exact hR0 _ _ | assumption) (by intro hR; first | omega | exact hR _ _ | exact jb_r _ | exact hR0 _ _ | assumption) (fun h1 => ?_) (fun h1 => ?_)
    · exfalso; omega
    · refine j_iload_n 13 rfl rfl dX5_togetherOf_12 ?_
      refine j_aload_n 14 rfl rfl dX5_togetherOf_13 ?_
      refine j_getr 17 rfl 16 fl_X5_40 dX5_togetherOf_14 (by decide) ( rfl) ( rfl) ?_
      refine j_iload 19 rfl rfl dX5_togetherOf_17 ?_
      refine j_iald 20 rfl dX5_togetherOf_19 (by decide) rfl (by decide) rfl (by omega) ?_
      refine j_iload_n 21 rfl rfl dX5_togetherOf_20 ?_
      rw [(ar t t0 t1).2.1]
      refine jS2i 24 rfl dX5_togetherOf_21 lk_X5_157 rfl rfl (m_isIn (by omega)) (fun r1 H9 ⟨eh_, hr1⟩ => ?_)
      obtain rfl := eh_.symm
      refine j_if_eq 45 27 (by decide) rfl dX5_togetherOf_24 (by intro hR; first | omega | exact hR _ _ | exact jb_r _ | exact hR0 _ _ | assumption) (fun h2 => ?_) (fun h2 => ?_)
      · refine j_iconst 46 rfl dX5_togetherOf_45 ?_
        refine put 0 ?_
        rcases hr1 with ⟨z, _⟩ | ⟨_, z⟩
        · omega
        · rw [z]; simp
      · have z1 : bt (pU (cfg H) t) a = true := by
          rcases hr1 with ⟨_, z⟩ | ⟨z, _⟩
          · exact z
          · omega
        refine j_aload_n 28 rfl rfl dX5_togetherOf_27 ?_
        refine j_getr 31 rfl 16 fl_X5_40 dX5_togetherOf_28 (by decide) ( rfl) ( rfl) ?_
        refine j_iload 33 rfl rfl dX5_togetherOf_31 ?_
        refine j_iald 34 rfl dX5_togetherOf_33 (by decide) rfl (by decide) rfl (by omega) ?_
        refine j_iload_n 35 rfl rfl dX5_togetherOf_34 ?_
        rw [(ar t t0 t1).2.1]
        refine jS2i 38 rfl dX5_togetherOf_35 lk_X5_157 rfl rfl (m_isIn (by omega)) (fun r2 H9 ⟨eh_, hr2⟩ => ?_)
        obtain rfl := eh_.symm
        refine j_if_eq 45 41 (by decide) rfl dX5_togetherOf_38 (by intro hR; first | omega | exact hR _ _ | exact jb_r _ | exact hR0 _ _ | assumption) (fun h3 => ?_) (fun h3 => ?_)
        · refine j_iconst 46 rfl dX5_togetherOf_45 ?_
          refine put 0 ?_
          rcases hr2 with ⟨z, _⟩ | ⟨_, z⟩
          · omega
          · rw [z]; simp
        · refine j_iconst 42 rfl dX5_togetherOf_41 ?_
          refine j_goto 46 (by decide) dX5_togetherOf_42 ?_
          refine put 1 ?_
          rcases hr2 with ⟨_, z⟩ | ⟨z, _⟩
          · rw [z, z1]; simp
          · omega
-- X5_together
theorem m_together {a b : Int} (ha : -2147483648 ≤ a ∧ a ≤ 2147483647) (hb : -2147483648 ≤ b ∧ b ≤ 2147483647) (h : RI H) : jOk E mX5_together [jRF E 56, .int (jI a), .int (jI b)] H (jQi fun r H' => MZ H H' ∧ FD H' ∧ anTog H a b r) := by
  refine jOk.rng (fun hR0 => ?_)
  refine jOk.ofe rfl (Nat.le_of_ble_eq_true rfl) (en_aii_3 (E := E)) ?_
  refine j_aload_n 1 rfl rfl dX5_together_0 ?_
  refine jV0v 4 rfl dX5_together_1 lk_X5_183 rfl rfl (by decide) ( rfl) ( rfl) (m_find h) (fun H1 ⟨mq, fd⟩ => ?_)
  rw [← mq.same.tog]
  have hn := fd.n
  refine j_aload_n 5 rfl rfl dX5_together_4 ?_
  refine j_iload_n 6 rfl rfl dX5_together_5 ?_
  refine j_iload_n 7 rfl rfl dX5_together_6 ?_
  refine jV2i 10 rfl dX5_together_7 lk_X5_198 rfl rfl (by decide) ( rfl) ( rfl) (m_areTwo (by omega) (by omega) (by omega)) (fun r7 H1 ⟨eh_, hr7⟩ => ?_)
  obtain rfl := eh_.symm
  refine j_if_eq 22 13 (by decide) rfl dX5_together_10 (by intro hR; first | omega | exact hR _ _ | exact jb_r _ | exact hR0 _ _ | assumption) (fun h10 => ?_) (fun h10 => ?_)
  · refine j_bipush 24 rfl rfl dX5_together_22 ?_
    refine j_ireti dX5_together_24 rfl ?_
    first | exact ⟨mq, fd, Or.inr ⟨by omega, hr16⟩⟩ | exact ⟨mq, fd, Or.inl ⟨by omega, rfl⟩⟩
  · refine j_aload_n 14 rfl rfl dX5_together_13 ?_
    refine j_iload_n 15 rfl rfl dX5_together_14 ?_
    refine j_iload_n 16 rfl rfl dX5_together_15 ?_
    refine jV2i 19 rfl dX5_together_16 lk_X5_201 rfl rfl (by decide) ( rfl) ( rfl) (m_togetherOf (by omega) (by omega) fd) (fun r16 H1 ⟨eh_, hr16⟩ => ?_)
    obtain rfl := eh_.symm
    refine j_goto 24 (by decide) dX5_together_19 ?_
    refine j_ireti dX5_together_24 rfl ?_
    first | exact ⟨mq, fd, Or.inr ⟨by omega, hr16⟩⟩ | exact ⟨mq, fd, Or.inl ⟨by omega, rfl⟩⟩
-- X5_haveIt
theorem m_haveIt {b s l : Int} (hb : 0 ≤ b ∧ b < 9) (hs : 0 ≤ s ∧ s < 60) (hl : s ≤ l ∧ l < 60) (h : FD H) : jOk E mX5_haveIt [jRF E 56, .int (jI b), .int (jI s), .int (jI l)] H (jQi fun r H' => H' = H ∧ r = hv (pU (cfg H)) (bShl 1 b) s (l + 1)) := by
  have ar := h.2.2.2
  refine jOk.rng (fun hR0 => ?_)
  refine jOk.ofe rfl (Nat.le_of_ble_eq_true rfl) (en_aiii_6 (E := E)) ?_
  refine j_iconst 1 rfl dX5_haveIt_0 ?_
  refine j_iload_n 2 rfl rfl dX5_haveIt_1 ?_
  refine k_ishl 3 rfl dX5_haveIt_2 ?_
  refine j_istore 5 rfl st_6_4 (by decide) rfl dX5_haveIt_3 ?_
  refine j_iload_n 6 rfl rfl dX5_haveIt_5 ?_
  refine j_istore 8 rfl st_6_5 (by decide) rfl dX5_haveIt_6 ?_
  have loop := jUp s (l + 1) (fun t => jWP E mX5_haveIt (jQi fun r H' => H' = H ∧ r = hv (pU (cfg H)) (bShl 1 b) s (l + 1)) 8 [some (jRF E 56), some (.int (jI b)), some (.int (jI s)), some (.int (jI l)), some (.int (jI (hv (pU (cfg H)) (bShl 1 b) s t))), some (.int (jI t))] [] H) ?_ ?_ s (by omega) (by omega)
  · rw [hv_0] at loop
    exact loop
  · refine j_iload 10 rfl rfl dX5_haveIt_8 ?_
    refine j_iload_n 11 rfl rfl dX5_haveIt_10 ?_
    refine j_icmp_gt 49 14 (by decide) rfl dX5_haveIt_11 (by intro hR; first | omega | exact hR _ _ | exact jb_r _ | exact hR0 _ _ | assumption) (by intro hR; first | omega | exact hR _ _ | exact jb_r _ | exact hR0 _ _ | assumption) (fun h1 => ?_) (fun h1 => ?_)
    · refine j_iload 51 rfl rfl dX5_haveIt_49 ?_
      refine j_ireti dX5_haveIt_51 rfl ?_
      exact ⟨rfl, rfl⟩
    · exfalso; omega
  · intro t t0 t1 ih
    rw [hv_s _ _ t0] at ih
    have hvr := hv_r (pU (cfg H)) (x := bShl 1 b) (s := s) (e := t) (jb_r _)
    have e1 := (ar t (by omega) (by omega)).2.1
    refine j_iload 10 rfl rfl dX5_haveIt_8 ?_
    refine j_iload_n 11 rfl rfl dX5_haveIt_10 ?_
    refine j_icmp_gt 49 14 (by decide) rfl dX5_haveIt_11 (by intro hR; first | omega | exact hR _ _ | exact jb_r _ | exact hR0 _ _ | assumption) (by intro hR; first | omega | exact hR _ _ | exact jb_r _ | exact hR0 _ _ | assumption) (fun h1 => ?_) (fun h1 => ?_)
    · exfalso; omega
    · refine j_iload 16 rfl rfl dX5_haveIt_14 ?_
      refine j_aload_n 17 rfl rfl dX5_haveIt_16 ?_
      refine j_getr 20 rfl 16 fl_X5_40 dX5_haveIt_17 (by decide) ( rfl) ( rfl) ?_
      refine j_iload 22 rfl rfl dX5_haveIt_20 ?_
      refine j_iald 23 rfl dX5_haveIt_22 (by decide) rfl (by decide) rfl (by omega) ?_
      rw [e1]
      refine j_iload 25 rfl rfl dX5_haveIt_23 ?_
      refine k_iand 26 rfl dX5_haveIt_25 ?_
      rw [bAnd_comm]
      unfold spr1 at ih
      have hjb := jb_r ((jI (hv (pU (cfg H)) (bShl 1 b) s t)) &&& (jI (pU (cfg H) t)))
      refine j_if_eq 39 29 (by decide) rfl dX5_haveIt_26 (by intro hR; first | omega | exact hR _ _ | exact jb_r _ | exact hR0 _ _ | assumption) (fun h2 => ?_) (fun h2 => ?_)
      · rw [if_neg (by rw [h2]; simp)] at ih
        refine j_iconst 40 rfl dX5_haveIt_39 ?_
        refine k_ior 41 rfl dX5_haveIt_40 ?_
        rw [bOr_0 hvr]
        refine j_istore 43 rfl st_6_4 (by decide) rfl dX5_haveIt_41 ?_
        refine j_iinc 46 rfl rfl st_6_5 (by decide) rfl dX5_haveIt_43 ?_
        refine j_goto 8 (by decide) dX5_haveIt_46 ?_
        exact ih
      · rw [if_pos h2] at ih
        refine j_aload_n 30 rfl rfl dX5_haveIt_29 ?_
        refine j_getr 33 rfl 16 fl_X5_40 dX5_haveIt_30 (by decide) ( rfl) ( rfl) ?_
        refine j_iload 35 rfl rfl dX5_haveIt_33 ?_
        refine j_iald 36 rfl dX5_haveIt_35 (by decide) rfl (by decide) rfl (by omega) ?_
        rw [e1]
        refine j_goto 40 (by decide) dX5_haveIt_36 ?_
        refine k_ior 41 rfl dX5_haveIt_40 ?_
        refine j_istore 43 rfl st_6_4 (by decide) rfl dX5_haveIt_41 ?_
        refine j_iinc 46 rfl rfl st_6_5 (by decide) rfl dX5_haveIt_43 ?_
        refine j_goto 8 (by decide) dX5_haveIt_46 ?_
        exact ih
-- X5_newsOf
theorem m_newsOf {a t b : Int} (ha : 0 ≤ a ∧ a < 9) (ht : 0 ≤ t ∧ t < 60) (hb : 0 ≤ b ∧ b < 9) (h : FD H) : jOk E mX5_newsOf [jRF E 56, .int (jI a), .int (jI t), .int (jI b)] H (jQi fun r H' => H' = H ∧ isFst (fun s => bt (hv (pU (cfg H)) (bShl 1 a) t (s + 1)) b = true) t 60 r) := by
  refine jOk.rng (fun hR0 => ?_)
  refine jOk.ofe rfl (Nat.le_of_ble_eq_true rfl) (en_aiii_5 (E := E)) ?_
  refine j_iload_n 1 rfl rfl dX5_newsOf_0 ?_
  refine j_istore 3 rfl st_5_4 (by decide) rfl dX5_newsOf_1 ?_
  have loop := jUp t 60 (fun s => (∀ q, t ≤ q → q < s → ¬ bt (hv (pU (cfg H)) (bShl 1 a) t (q + 1)) b = true) → jWP E mX5_newsOf (jQi fun r H' => H' = H ∧ isFst (fun s => bt (hv (pU (cfg H)) (bShl 1 a) t (s + 1)) b = true) t 60 r) 3 [some (jRF E 56), some (.int (jI a)), some (.int (jI t)), some (.int (jI b)), some (.int (jI s))] [] H) ?_ ?_ t (by omega) (by omega)
  · exact loop (fun q q0 q1 => by omega)
  · intro hs
    refine j_iload 5 rfl rfl dX5_newsOf_3 ?_
    refine j_bipush 7 rfl rfl dX5_newsOf_5 ?_
    refine j_icmp_ge 34 10 (by decide) rfl dX5_newsOf_7 (by intro hR; first | omega | exact hR _ _ | exact jb_r _ | exact hR0 _ _ | assumption) (by intro hR; first | omega | exact hR _ _ | exact jb_r _ | exact hR0 _ _ | assumption) (fun h1 => ?_) (fun h1 => ?_)
    · refine j_iconst 35 rfl dX5_newsOf_34 ?_
      refine j_ireti dX5_newsOf_35 rfl ?_
      exact ⟨rfl, Or.inr ⟨hs, rfl⟩⟩
    · exfalso; omega
  · intro s s0 s1 ih hs
    refine j_iload 5 rfl rfl dX5_newsOf_3 ?_
    refine j_bipush 7 rfl rfl dX5_newsOf_5 ?_
    refine j_icmp_ge 34 10 (by decide) rfl dX5_newsOf_7 (by intro hR; first | omega | exact hR _ _ | exact jb_r _ | exact hR0 _ _ | assumption) (by intro hR; first | omega | exact hR _ _ | exact jb_r _ | exact hR0 _ _ | assumption) (fun h1 => ?_) (fun h1 => ?_)
    · exfalso; omega
    · refine j_aload_n 11 rfl rfl dX5_newsOf_10 ?_
      refine j_iload_n 12 rfl rfl dX5_newsOf_11 ?_
      refine j_iload_n 13 rfl rfl dX5_newsOf_12 ?_
      refine j_iload 15 rfl rfl dX5_newsOf_13 ?_
      refine jV3i 18 rfl dX5_newsOf_15 lk_X5_204 rfl rfl (by decide) ( rfl) ( rfl) (m_haveIt ha ht (by omega) h) (fun r1 H9 ⟨eh_, hr1⟩ => ?_)
      obtain rfl := eh_.symm
      refine j_iload_n 19 rfl rfl dX5_newsOf_18 ?_
      refine jS2i 22 rfl dX5_newsOf_19 lk_X5_157 rfl rfl (m_isIn (by omega)) (fun r2 H9 ⟨eh_, hr2⟩ => ?_)
      obtain rfl := eh_.symm
      rw [hr1] at hr2
      refine j_if_eq 28 25 (by decide) rfl dX5_newsOf_22 (by intro hR; first | omega | exact hR _ _ | exact jb_r _ | exact hR0 _ _ | assumption) (fun h2 => ?_) (fun h2 => ?_)
      · refine j_iinc 31 rfl rfl st_5_4 (by decide) rfl dX5_newsOf_28 ?_
        refine j_goto 3 (by decide) dX5_newsOf_31 ?_
        refine ih (fun q q0 q1 => ?_)
        by_cases e : q = s
        · rw [e]
          rcases hr2 with ⟨z, _⟩ | ⟨_, z⟩
          · omega
          · rw [z]; simp
        · exact hs q q0 (by omega)
      · refine j_iload 27 rfl rfl dX5_newsOf_25 ?_
        refine j_ireti dX5_newsOf_27 rfl ?_
        refine ⟨rfl, Or.inl ⟨s0, s1, ?_, hs⟩⟩
        rcases hr2 with ⟨_, z⟩ | ⟨z, _⟩
        · exact z
        · omega
-- X5_news
theorem m_news {a t b : Int} (ha : -2147483648 ≤ a ∧ a ≤ 2147483647) (ht : -2147483648 ≤ t ∧ t ≤ 2147483647) (hb : -2147483648 ≤ b ∧ b ≤ 2147483647) (h : RI H) : jOk E mX5_news [jRF E 56, .int (jI a), .int (jI t), .int (jI b)] H (jQi fun r H' => MZ H H' ∧ FD H' ∧ anNews H a t b r) := by
  refine jOk.rng (fun hR0 => ?_)
  refine jOk.ofe rfl (Nat.le_of_ble_eq_true rfl) (en_aiii_4 (E := E)) ?_
  refine j_aload_n 1 rfl rfl dX5_news_0 ?_
  refine jV0v 4 rfl dX5_news_1 lk_X5_183 rfl rfl (by decide) ( rfl) ( rfl) (m_find h) (fun H1 ⟨mq, fd⟩ => ?_)
  rw [← mq.same.news]
  have hn := fd.n
  refine j_aload_n 5 rfl rfl dX5_news_4 ?_
  refine j_iload_n 6 rfl rfl dX5_news_5 ?_
  refine j_iload_n 7 rfl rfl dX5_news_6 ?_
  refine jV2i 10 rfl dX5_news_7 lk_X5_198 rfl rfl (by decide) ( rfl) ( rfl) (m_areTwo (by omega) (by omega) (by omega)) (fun r7 H1 ⟨eh_, hr7⟩ => ?_)
  obtain rfl := eh_.symm
  refine j_if_eq 30 13 (by decide) rfl dX5_news_10 (by intro hR; first | omega | exact hR _ _ | exact jb_r _ | exact hR0 _ _ | assumption) (fun h10 => ?_) (fun h10 => ?_)
  · refine j_bipush 32 rfl rfl dX5_news_30 ?_
    refine j_ireti dX5_news_32 rfl ?_
    first | exact ⟨mq, fd, Or.inr ⟨by omega, hr24⟩⟩ | exact ⟨mq, fd, Or.inl ⟨by omega, rfl⟩⟩
  · refine j_iload_n 14 rfl rfl dX5_news_13 ?_
    refine jS1i 17 rfl dX5_news_14 lk_X5_145 rfl rfl (m_isStep (by omega)) (fun r14 H1 ⟨eh_, hr14⟩ => ?_)
    obtain rfl := eh_.symm
    refine j_if_eq 30 20 (by decide) rfl dX5_news_17 (by intro hR; first | omega | exact hR _ _ | exact jb_r _ | exact hR0 _ _ | assumption) (fun h17 => ?_) (fun h17 => ?_)
    · refine j_bipush 32 rfl rfl dX5_news_30 ?_
      refine j_ireti dX5_news_32 rfl ?_
      first | exact ⟨mq, fd, Or.inr ⟨by omega, hr24⟩⟩ | exact ⟨mq, fd, Or.inl ⟨by omega, rfl⟩⟩
    · refine j_aload_n 21 rfl rfl dX5_news_20 ?_
      refine j_iload_n 22 rfl rfl dX5_news_21 ?_
      refine j_iload_n 23 rfl rfl dX5_news_22 ?_
      refine j_iload_n 24 rfl rfl dX5_news_23 ?_
      refine jV3i 27 rfl dX5_news_24 lk_X5_207 rfl rfl (by decide) ( rfl) ( rfl) (m_newsOf (by omega) (by omega) (by omega) fd) (fun r24 H1 ⟨eh_, hr24⟩ => ?_)
      obtain rfl := eh_.symm
      refine j_goto 32 (by decide) dX5_news_27 ?_
      refine j_ireti dX5_news_32 rfl ?_
      first | exact ⟨mq, fd, Or.inr ⟨by omega, hr24⟩⟩ | exact ⟨mq, fd, Or.inl ⟨by omega, rfl⟩⟩
-- X5_hears
theorem m_hears {b t : Int} (hb : -2147483648 ≤ b ∧ b ≤ 2147483647) (ht : -2147483648 ≤ t ∧ t ≤ 2147483647) (h : RI H) : jOk E mX5_hears [jRF E 56, .int (jI b), .int (jI t)] H (jQi fun r H' => MZ H H' ∧ FD H' ∧ anHears H b t r) := by
  refine jOk.rng (fun hR0 => ?_)
  refine jOk.ofe rfl (Nat.le_of_ble_eq_true rfl) (en_aii_3 (E := E)) ?_
  refine j_aload_n 1 rfl rfl dX5_hears_0 ?_
  refine jV0v 4 rfl dX5_hears_1 lk_X5_183 rfl rfl (by decide) ( rfl) ( rfl) (m_find h) (fun H1 ⟨mq, fd⟩ => ?_)
  rw [← mq.same.hears]
  have hn := fd.n
  refine j_aload_n 5 rfl rfl dX5_hears_4 ?_
  refine j_iload_n 6 rfl rfl dX5_hears_5 ?_
  refine jV1i 9 rfl dX5_hears_6 lk_X5_134 rfl rfl (by decide) ( rfl) ( rfl) (m_isBox (by omega) (by omega)) (fun r6 H1 ⟨eh_, hr6⟩ => ?_)
  obtain rfl := eh_.symm
  refine j_if_eq 30 12 (by decide) rfl dX5_hears_9 (by intro hR; first | omega | exact hR _ _ | exact jb_r _ | exact hR0 _ _ | assumption) (fun h9 => ?_) (fun h9 => ?_)
  · refine j_bipush 32 rfl rfl dX5_hears_30 ?_
    refine j_ireti dX5_hears_32 rfl ?_
    first | exact ⟨mq, fd, Or.inr ⟨by omega, hr24⟩⟩ | exact ⟨mq, fd, Or.inl ⟨by omega, rfl⟩⟩
  · refine j_iload_n 13 rfl rfl dX5_hears_12 ?_
    refine jS1i 16 rfl dX5_hears_13 lk_X5_145 rfl rfl (m_isStep (by omega)) (fun r13 H1 ⟨eh_, hr13⟩ => ?_)
    obtain rfl := eh_.symm
    refine j_if_eq 30 19 (by decide) rfl dX5_hears_16 (by intro hR; first | omega | exact hR _ _ | exact jb_r _ | exact hR0 _ _ | assumption) (fun h16 => ?_) (fun h16 => ?_)
    · refine j_bipush 32 rfl rfl dX5_hears_30 ?_
      refine j_ireti dX5_hears_32 rfl ?_
      first | exact ⟨mq, fd, Or.inr ⟨by omega, hr24⟩⟩ | exact ⟨mq, fd, Or.inl ⟨by omega, rfl⟩⟩
    · refine j_aload_n 20 rfl rfl dX5_hears_19 ?_
      refine j_iload_n 21 rfl rfl dX5_hears_20 ?_
      refine j_iload_n 22 rfl rfl dX5_hears_21 ?_
      refine j_bipush 24 rfl rfl dX5_hears_22 ?_
      refine jV3i 27 rfl dX5_hears_24 lk_X5_204 rfl rfl (by decide) ( rfl) ( rfl) (m_haveIt (by omega) (by omega) (by omega) fd) (fun r24 H1 ⟨eh_, hr24⟩ => ?_)
      obtain rfl := eh_.symm
      refine j_goto 32 (by decide) dX5_hears_27 ?_
      refine j_ireti dX5_hears_32 rfl ?_
      first | exact ⟨mq, fd, Or.inr ⟨by omega, hr24⟩⟩ | exact ⟨mq, fd, Or.inl ⟨by omega, rfl⟩⟩
-- X5_opened
theorem m_opened {l : Int} (hl : -1 ≤ l ∧ l < 60) (hn : 0 ≤ K 0 0 ∧ K 0 0 ≤ 9) (ha : ∀ t, 0 ≤ t → t ≤ l → H 66 t = pO K t) : jOk E mX5_opened [jRF E 56, .int (jI l)] H (jQi fun r H' => H' = H ∧ r = sumI (fun t => oc (pO K t)) (l + 1)) := by
  refine jOk.rng (fun hR0 => ?_)
  refine jOk.ofe rfl (Nat.le_of_ble_eq_true rfl) (en_ai_4 (E := E)) ?_
  refine j_iconst 1 rfl dX5_opened_0 ?_
  refine j_istore_n 2 rfl st_4_2 (by decide) rfl dX5_opened_1 ?_
  refine j_iconst 3 rfl dX5_opened_2 ?_
  refine j_istore_n 4 rfl st_4_3 (by decide) rfl dX5_opened_3 ?_
  have loop := jUp 0 (l + 1) (fun t => jWP E mX5_opened (jQi fun r H' => H' = H ∧ r = sumI (fun t => oc (pO K t)) (l + 1)) 4 [some (jRF E 56), some (.int (jI l)), some (.int (jI (sumI (fun t => oc (pO K t)) t))), some (.int (jI t))] [] H) ?_ ?_ 0 (by omega) (by omega)
  · exact loop
  · refine j_iload_n 5 rfl rfl dX5_opened_4 ?_
    refine j_iload_n 6 rfl rfl dX5_opened_5 ?_
    refine j_icmp_gt 27 9 (by decide) rfl dX5_opened_6 (by intro hR; first | omega | exact hR _ _ | exact jb_r _ | exact hR0 _ _ | assumption) (by intro hR; first | omega | exact hR _ _ | exact jb_r _ | exact hR0 _ _ | assumption) (fun h1 => ?_) (fun h1 => ?_)
    · refine j_iload_n 28 rfl rfl dX5_opened_27 ?_
      refine j_ireti dX5_opened_28 rfl ?_
      exact ⟨rfl, rfl⟩
    · exfalso; omega
  · intro t t0 t1 ih
    rw [sumI_s _ t0] at ih
    have r1 := pO_r hn t
    refine j_iload_n 5 rfl rfl dX5_opened_4 ?_
    refine j_iload_n 6 rfl rfl dX5_opened_5 ?_
    refine j_icmp_gt 27 9 (by decide) rfl dX5_opened_6 (by intro hR; first | omega | exact hR _ _ | exact jb_r _ | exact hR0 _ _ | assumption) (by intro hR; first | omega | exact hR _ _ | exact jb_r _ | exact hR0 _ _ | assumption) (fun h1 => ?_) (fun h1 => ?_)
    · exfalso; omega
    · refine j_iload_n 10 rfl rfl dX5_opened_9 ?_
      refine j_aload_n 11 rfl rfl dX5_opened_10 ?_
      refine j_getr 14 rfl 15 fl_X5_37 dX5_opened_11 (by decide) ( rfl) ( rfl) ?_
      refine j_iload_n 15 rfl rfl dX5_opened_14 ?_
      refine j_iald 16 rfl dX5_opened_15 (by decide) rfl (by decide) rfl (by omega) ?_
      rw [ha t t0 (by omega)]
      refine jS1i 19 rfl dX5_opened_16 lk_X5_167 rfl rfl (m_ones (by omega)) (fun q1 H9 ⟨eh_, hq1⟩ => ?_)
      obtain rfl := eh_.symm
      rw [hq1]
      refine j_iadd 20 rfl dX5_opened_19 ?_
      refine j_istore_n 21 rfl st_4_2 (by decide) rfl dX5_opened_20 ?_
      refine j_iinc 24 rfl rfl st_4_3 (by decide) rfl dX5_opened_21 ?_
      refine j_goto 4 (by decide) dX5_opened_24 ?_
      exact ih
-- X5_count
theorem m_count {w : Int} (hw : -2147483648 ≤ w ∧ w ≤ 2147483647) (h : RI H) : jOk E mX5_count [jRF E 56, .int (jI w)] H (jQi fun r H' => MZ H H' ∧ FD H' ∧ r = fCount H w) := by
  refine jOk.rng (fun hR0 => ?_)
  refine jOk.ofe rfl (Nat.le_of_ble_eq_true rfl) (en_ai_4 (E := E)) ?_
  refine j_iconst 1 rfl dX5_count_0 ?_
  refine j_istore_n 2 rfl st_4_2 (by decide) rfl dX5_count_1 ?_
  refine j_aload_n 3 rfl rfl dX5_count_2 ?_
  refine jV0v 6 rfl dX5_count_3 lk_X5_183 rfl rfl (by decide) ( rfl) ( rfl) (m_find h) (fun H1 ⟨mq, fd⟩ => ?_)
  rw [← mq.same.count]
  have hn := fd.n
  obtain ⟨_, mb⟩ := fd.2.2.1
  have ar := fd.2.2.2
  obtain ⟨c1, c2, c3, c4, c5, c6, c7⟩ := fd.1.2
  by_cases hok : 0 ≤ w ∧ w ≤ 8
  rotate_left
  · refine j_iload_n 7 rfl rfl dX5_count_6 ?_
    refine j_tabOut 162 dX5_count_7 (by intro _; omega) (by omega) (by decide) ?_
    refine j_bipush 164 rfl rfl dX5_count_162 ?_
    refine j_ireti dX5_count_164 rfl ?_
    refine ⟨mq, fd, ?_⟩
    unfold fCount
    rw [if_neg (by omega), if_neg (by omega), if_neg (by omega), if_neg (by omega), if_neg (by omega), if_neg (by omega), if_neg (by omega), if_neg (by omega), if_neg (by omega)]
  rcases (show w = 0 ∨ w = 1 ∨ w = 2 ∨ w = 3 ∨ w = 4 ∨ w = 5 ∨ w = 6 ∨ w = 7 ∨ w = 8 by omega) with rfl | rfl | rfl | rfl | rfl | rfl | rfl | rfl | rfl
  · refine j_iload_n 7 rfl rfl dX5_count_6 ?_
    refine j_tabIn 56 dX5_count_7 (by omega) (by omega) (by rfl) (by decide) ?_
    refine j_aload_n 57 rfl rfl dX5_count_56 ?_
    refine g_geti 60 rfl 8 8 rfl fl_X5_109 dX5_count_57 (by decide) ( rfl) ( rfl) ?_
    refine j_ireti dX5_count_60 rfl ?_
    exact ⟨mq, fd, hn.2.1⟩
  · refine j_iload_n 7 rfl rfl dX5_count_6 ?_
    refine j_tabIn 61 dX5_count_7 (by omega) (by omega) (by rfl) (by decide) ?_
    refine j_aload_n 62 rfl rfl dX5_count_61 ?_
    refine g_geti 65 rfl 6 6 rfl fl_X5_106 dX5_count_62 (by decide) ( rfl) ( rfl) ?_
    refine j_ireti dX5_count_65 rfl ?_
    exact ⟨mq, fd, c1.1⟩
  · refine j_iload_n 7 rfl rfl dX5_count_6 ?_
    refine j_tabIn 66 dX5_count_7 (by omega) (by omega) (by rfl) (by decide) ?_
    refine j_aload_n 67 rfl rfl dX5_count_66 ?_
    refine g_geti 70 rfl 12 12 rfl fl_X5_148 dX5_count_67 (by decide) ( rfl) ( rfl) ?_
    refine j_ireti dX5_count_70 rfl ?_
    exact ⟨mq, fd, c4.1⟩
  · refine j_iload_n 7 rfl rfl dX5_count_6 ?_
    refine j_tabIn 71 dX5_count_7 (by omega) (by omega) (by rfl) (by decide) ?_
    refine j_aload_n 72 rfl rfl dX5_count_71 ?_
    refine g_geti 75 rfl 26 26 rfl fl_X5_236 dX5_count_72 (by decide) ( rfl) ( rfl) ?_
    refine j_ireti dX5_count_75 rfl ?_
    exact ⟨mq, fd, c5.1⟩
  · refine j_iload_n 7 rfl rfl dX5_count_6 ?_
    refine j_tabIn 76 dX5_count_7 (by omega) (by omega) (by rfl) (by decide) ?_
    refine j_aload_n 77 rfl rfl dX5_count_76 ?_
    refine g_geti 80 rfl 11 11 rfl fl_X5_142 dX5_count_77 (by decide) ( rfl) ( rfl) ?_
    refine j_ireti dX5_count_80 rfl ?_
    exact ⟨mq, fd, c3⟩
  · refine j_iload_n 7 rfl rfl dX5_count_6 ?_
    refine j_tabIn 81 dX5_count_7 (by omega) (by omega) (by rfl) (by decide) ?_
    refine j_iconst 82 rfl dX5_count_81 ?_
    refine j_istore_n 83 rfl st_4_3 (by decide) rfl dX5_count_82 ?_
    have loop := jUp 0 (H1 1 3) (fun b => jWP E mX5_count (jQi fun r H' => MZ H H' ∧ FD H' ∧ r = fCount H1 5) 83 [some (jRF E 56), some (.int (jI 5)), some (.int (jI (sumI (H1 5) b))), some (.int (jI b))] [] H1) ?_ ?_ 0 (by omega) (by omega)
    · exact loop
    · refine j_iload_n 84 rfl rfl dX5_count_83 ?_
      refine j_aload_n 85 rfl rfl dX5_count_84 ?_
      refine g_geti 88 rfl 8 8 rfl fl_X5_109 dX5_count_85 (by decide) ( rfl) ( rfl) ?_
      rw [hn.2.1]
      refine j_icmp_ge 110 91 (by decide) rfl dX5_count_88 (by intro hR; first | omega | exact hR _ _ | exact jb_r _ | exact hR0 _ _ | assumption) (by intro hR; first | omega | exact hR _ _ | exact jb_r _ | exact hR0 _ _ | assumption) (fun h1 => ?_) (fun h1 => ?_)
      · refine j_iload_n 111 rfl rfl dX5_count_110 ?_
        refine j_ireti dX5_count_111 rfl ?_
        exact ⟨mq, fd, rfl⟩
      · exfalso; omega
    · intro b b0 b1 ih
      rw [sumI_s _ b0] at ih
      refine j_iload_n 84 rfl rfl dX5_count_83 ?_
      refine j_aload_n 85 rfl rfl dX5_count_84 ?_
      refine g_geti 88 rfl 8 8 rfl fl_X5_109 dX5_count_85 (by decide) ( rfl) ( rfl) ?_
      rw [hn.2.1]
      refine j_icmp_ge 110 91 (by decide) rfl dX5_count_88 (by intro hR; first | omega | exact hR _ _ | exact jb_r _ | exact hR0 _ _ | assumption) (by intro hR; first | omega | exact hR _ _ | exact jb_r _ | exact hR0 _ _ | assumption) (fun h1 => ?_) (fun h1 => ?_)
      · exfalso; omega
      · refine j_iload_n 92 rfl rfl dX5_count_91 ?_
        refine j_aload_n 93 rfl rfl dX5_count_92 ?_
        refine j_getr 96 rfl 9 fl_X5_25 dX5_count_93 (by decide) ( rfl) ( rfl) ?_
        refine j_iconst 97 rfl dX5_count_96 ?_
        refine j_iload_n 98 rfl rfl dX5_count_97 ?_
        refine j_imul 99 rfl dX5_count_98 ?_
        refine j_iconst 100 rfl dX5_count_99 ?_
        refine j_iadd 101 rfl dX5_count_100 ?_
        refine j_iald 102 rfl dX5_count_101 (by decide) rfl (by decide) rfl (by omega) ?_
        rw [(mb b b0 b1).2.2]
        refine j_iadd 103 rfl dX5_count_102 ?_
        refine j_istore_n 104 rfl st_4_2 (by decide) rfl dX5_count_103 ?_
        refine j_iinc 107 rfl rfl st_4_3 (by decide) rfl dX5_count_104 ?_
        refine j_goto 83 (by decide) dX5_count_107 ?_
        exact ih
  · refine j_iload_n 7 rfl rfl dX5_count_6 ?_
    refine j_tabIn 112 dX5_count_7 (by omega) (by omega) (by rfl) (by decide) ?_
    refine j_aload_n 113 rfl rfl dX5_count_112 ?_
    refine j_bipush 115 rfl rfl dX5_count_113 ?_
    refine jV1i 118 rfl dX5_count_115 lk_X5_220 rfl rfl (by decide) ( rfl) ( rfl) (m_opened (K := cfg H1) (by omega) fd.1.ok.1 (fun t t0 t1 => (ar t t0 (by omega)).1)) (fun r1 H9 ⟨eh_, hr1⟩ => ?_)
    obtain rfl := eh_.symm
    refine j_ireti dX5_count_118 rfl ?_
    exact ⟨mq, fd, hr1⟩
  · refine j_iload_n 7 rfl rfl dX5_count_6 ?_
    refine j_tabIn 119 dX5_count_7 (by omega) (by omega) (by rfl) (by decide) ?_
    refine j_iconst 120 rfl dX5_count_119 ?_
    refine j_istore_n 121 rfl st_4_3 (by decide) rfl dX5_count_120 ?_
    have loop := jUp 0 (H1 1 3) (fun b => jWP E mX5_count (jQi fun r H' => MZ H H' ∧ FD H' ∧ r = fCount H1 7) 121 [some (jRF E 56), some (.int (jI 7)), some (.int (jI (sumI (fun b => if H1 3 b = 4 then 1 else 0) b))), some (.int (jI b))] [] H1) ?_ ?_ 0 (by omega) (by omega)
    · exact loop
    · refine j_iload_n 122 rfl rfl dX5_count_121 ?_
      refine j_aload_n 123 rfl rfl dX5_count_122 ?_
      refine g_geti 126 rfl 8 8 rfl fl_X5_109 dX5_count_123 (by decide) ( rfl) ( rfl) ?_
      rw [hn.2.1]
      refine j_icmp_ge 155 129 (by decide) rfl dX5_count_126 (by intro hR; first | omega | exact hR _ _ | exact jb_r _ | exact hR0 _ _ | assumption) (by intro hR; first | omega | exact hR _ _ | exact jb_r _ | exact hR0 _ _ | assumption) (fun h1 => ?_) (fun h1 => ?_)
      · refine j_iload_n 156 rfl rfl dX5_count_155 ?_
        refine j_ireti dX5_count_156 rfl ?_
        exact ⟨mq, fd, rfl⟩
      · exfalso; omega
    · intro b b0 b1 ih
      rw [sumI_s _ b0] at ih
      refine j_iload_n 122 rfl rfl dX5_count_121 ?_
      refine j_aload_n 123 rfl rfl dX5_count_122 ?_
      refine g_geti 126 rfl 8 8 rfl fl_X5_109 dX5_count_123 (by decide) ( rfl) ( rfl) ?_
      rw [hn.2.1]
      refine j_icmp_ge 155 129 (by decide) rfl dX5_count_126 (by intro hR; first | omega | exact hR _ _ | exact jb_r _ | exact hR0 _ _ | assumption) (by intro hR; first | omega | exact hR _ _ | exact jb_r _ | exact hR0 _ _ | assumption) (fun h1 => ?_) (fun h1 => ?_)
      · exfalso; omega
      · refine j_iload_n 130 rfl rfl dX5_count_129 ?_
        refine j_aload_n 131 rfl rfl dX5_count_130 ?_
        refine j_getr 134 rfl 9 fl_X5_25 dX5_count_131 (by decide) ( rfl) ( rfl) ?_
        refine j_iconst 135 rfl dX5_count_134 ?_
        refine j_iload_n 136 rfl rfl dX5_count_135 ?_
        refine j_imul 137 rfl dX5_count_136 ?_
        refine j_iald 138 rfl dX5_count_137 (by decide) rfl (by decide) rfl (by omega) ?_
        rw [(mb b b0 b1).1]
        refine jWP.rng (fun hR1 => ?_)
        have w1 := hR1 3 b
        refine j_iconst 139 rfl dX5_count_138 ?_
        refine j_icmp_ne 146 142 (by decide) rfl dX5_count_139 (by intro hR; first | omega | exact hR _ _ | exact jb_r _ | exact hR0 _ _ | assumption) (by intro hR; first | omega | exact hR _ _ | exact jb_r _ | exact hR0 _ _ | assumption) (fun h2 => ?_) (fun h2 => ?_)
        · rw [if_neg h2] at ih
          refine j_iconst 147 rfl dX5_count_146 ?_
          refine j_iadd 148 rfl dX5_count_147 ?_
          refine j_istore_n 149 rfl st_4_2 (by decide) rfl dX5_count_148 ?_
          refine j_iinc 152 rfl rfl st_4_3 (by decide) rfl dX5_count_149 ?_
          refine j_goto 121 (by decide) dX5_count_152 ?_
          exact ih
        · rw [if_pos (by omega)] at ih
          refine j_iconst 143 rfl dX5_count_142 ?_
          refine j_goto 147 (by decide) dX5_count_143 ?_
          refine j_iadd 148 rfl dX5_count_147 ?_
          refine j_istore_n 149 rfl st_4_2 (by decide) rfl dX5_count_148 ?_
          refine j_iinc 152 rfl rfl st_4_3 (by decide) rfl dX5_count_149 ?_
          refine j_goto 121 (by decide) dX5_count_152 ?_
          exact ih
  · refine j_iload_n 7 rfl rfl dX5_count_6 ?_
    refine j_tabIn 157 dX5_count_7 (by omega) (by omega) (by rfl) (by decide) ?_
    refine j_aload_n 158 rfl rfl dX5_count_157 ?_
    refine g_geti 161 rfl 4 4 rfl fl_X5_79 dX5_count_158 (by decide) ( rfl) ( rfl) ?_
    refine j_ireti dX5_count_161 rfl ?_
    exact ⟨mq, fd, c6⟩
end S38
