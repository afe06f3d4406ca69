/-! ===== the reference: learn, empty ===== -/
def nm (k : Int) : Int := if k = 36 then 40 else 10 * (k / 9) + k % 9 + 1
def kTk (K : jH) (b k : Int) : jH := kLaw K b (k / 9) (k % 9 + 1)
theorem nm_s {k : Int} (h0 : 0 ≤ k) (h : k < 36) : nm (k + 1) = nm k + 1 ∨ (nm (k + 1) = nm k + 2 ∧ (nm k + 1) % 10 = 0 ∧ nm k + 1 ≠ 40) := by
  unfold nm
  by_cases e : k + 1 = 36
  · rw [if_pos e, if_neg (by omega)]; omega
  · rw [if_neg e, if_neg (by omega)]; omega
theorem nm_rg {k : Int} (h0 : 0 ≤ k) (h : k < 37) : 1 ≤ nm k ∧ nm k ≤ 40 := by
  unfold nm
  by_cases e : k = 36
  · rw [if_pos e]; omega
  · rw [if_neg e]; omega
theorem cnt_nm {f : Int → Bool} (hf : ∀ c, c % 10 = 0 → c ≠ 40 → f c = false) : ∀ k : Nat, k ≤ 36 → cntI f (nm k) = cntI (fun k => f (nm k)) k
  | 0, _ => by
    rw [show nm ((0 : Nat) : Int) = 0 + 1 from rfl, cntI_s _ (by omega), hf 0 (by decide) (by decide)]
    rfl
  | k + 1, h => by
    have ih := cnt_nm hf k (by omega)
    have hr := nm_rg (k := (k : Int)) (by omega) (by omega)
    rw [show ((k + 1 : Nat) : Int) = (k : Int) + 1 by omega, cntI_s _ (by omega)]
    rcases nm_s (k := (k : Int)) (by omega) (by omega) with e | ⟨e, e2, e3⟩
    · rw [e, cntI_s _ (by omega), ih]
    · rw [e, show nm k + 2 = (nm k + 1) + 1 by omega, cntI_s _ (by omega), cntI_s _ (by omega), hf _ e2 e3, ih]
      simp
theorem cnt_41 {f : Int → Bool} (hf : ∀ c, c % 10 = 0 → c ≠ 40 → f c = false) : cntI f 41 = cntI (fun k => f (nm k)) 37 := by
  have h := cnt_nm hf 36 (by omega)
  rw [show (41 : Int) = 40 + 1 from rfl, cntI_s _ (by omega), show (37 : Int) = 36 + 1 from rfl, cntI_s (fun k => f (nm k)) (n := 36) (by omega)]
  have e : nm 36 = 40 := rfl
  rw [e]
  have h' : cntI f 40 = cntI (fun k => f (nm k)) 36 := h
  rw [h']
theorem kLaw4 (K : jH) (b m m2 : Int) : kEq (kLaw K b 4 m) (kLaw K b 4 m2) := by
  refine ⟨by rw [kLaw_o (by decide) (by decide), kLaw_o (by decide) (by decide)], fun q q0 q1 => ?_, fun t t0 t1 q q0 q1 => ?_⟩
  · rw [kLaw_o (k := 0) (by decide) (by decide), kLaw_o (k := 0) (by decide) (by decide), kLaw_o (k := 3) (by decide) (by decide), kLaw_o (k := 3) (by decide) (by decide), kLaw_o (k := 4) (by decide) (by decide), kLaw_o (k := 4) (by decide) (by decide), kLaw_1, kLaw_1, kLaw_2, kLaw_2]
    refine ⟨rfl, rfl, fun h => ?_, rfl, rfl⟩
    by_cases e : q = b
    · rw [if_pos e] at h; exact absurd rfl h
    · rw [if_neg e, if_neg e]
  · rw [kLaw_o (k := 6) (by decide) (by decide), kLaw_o (k := 6) (by decide) (by decide), kLaw_o (k := 7) (by decide) (by decide), kLaw_o (k := 7) (by decide) (by decide), kLaw_o (k := 8) (by decide) (by decide), kLaw_o (k := 8) (by decide) (by decide)]
    exact ⟨fun _ => rfl, fun _ => rfl, rfl⟩
theorem kTk_code (K : jH) (b : Int) {k : Int} (h0 : 0 ≤ k) (h : k < 37) : kEq (kCode K b (nm k)) (kTk K b k) := by
  unfold kCode kTk nm
  by_cases e : k = 36
  · subst e
    exact kLaw4 K b _ _
  · rw [if_neg e, show (10 * (k / 9) + k % 9 + 1) / 10 = k / 9 by omega, show (10 * (k / 9) + k % 9 + 1) % 10 = k % 9 + 1 by omega]
    exact kEq.refl _
theorem cOk_tk {K : jH} (ok : cOk K) (b : Int) {k : Int} (h0 : 0 ≤ k) (h : k < 37) : cOk (kTk K b k) := cOk_law ok (by omega) (by omega) (by omega)
theorem cOk_cd {K : jH} (ok : cOk K) (b : Int) {k : Int} (h0 : 0 ≤ k) (h : k < 37) : cOk (kCode K b (nm k)) := by
  unfold kCode nm
  by_cases e : k = 36
  · rw [if_pos e]; exact cOk_law ok (by omega) (by omega) (by omega)
  · rw [if_neg e]; exact cOk_law ok (by omega) (by omega) (by omega)
theorem gd_nm {H : jH} (h : RI H) (b : Int) {k : Int} (h0 : 0 ≤ k) (h1 : k < 37) : gdB H b (nm k) = asB (H 11) (H 12) (H 0 6) (kTk (cfg H) b k) := by
  have hear := h.1.1.2.2.2.2.2.1
  unfold gdB
  have e : (decide (nm k % 10 ≠ 0) || decide (nm k = 40)) = true := by
    unfold nm
    by_cases e : k = 36
    · rw [if_pos e]; rfl
    · rw [if_neg e]
      have : (10 * (k / 9) + k % 9 + 1) % 10 ≠ 0 := by omega
      simp [this]
  rw [e, Bool.true_and]
  exact asB_cong (fun _ _ _ => ⟨rfl, rfl⟩) (fun q q0 q1 => (hear.2 q q0 q1).1.2) (kTk_code _ b h0 h1) (cOk_cd h.ok b h0 h1).1
theorem holdM_law {H K : jH} {b l0 m0 : Int} (h : holdM H (kLaw K b l0 m0)) (l m : Int) : holdM (jU (jU H 70 b l) 71 b m) (kLaw K b l m) := by
  obtain ⟨h1, h2, h3, h4⟩ := h
  unfold holdM
  rw [kLaw_o (k := 0) (by decide) (by decide)] at h1 h2 h3 ⊢
  refine ⟨by rw [jU_k (by decide), jU_k (by decide)]; exact h1, by rw [jU_k (by decide), jU_k (by decide)]; exact h2, fun q q0 q1 => ?_, fun t t0 t1 => ?_⟩
  · obtain ⟨a1, a2, a3, a4⟩ := h3 q q0 q1
    rw [kLaw_o (k := 3) (by decide) (by decide)] at a3 ⊢
    rw [kLaw_o (k := 4) (by decide) (by decide)] at a4 ⊢
    rw [kLaw_1] at a1 ⊢
    rw [kLaw_2] at a2 ⊢
    refine ⟨?_, ?_, by rw [jU_k (by decide), jU_k (by decide)]; exact a3, by rw [jU_k (by decide), jU_k (by decide)]; exact a4⟩
    · rw [jU_k (by decide)]
      by_cases e : q = b
      · subst e; rw [if_pos rfl, jU_s]
      · rw [if_neg e] at a1 ⊢; rw [jU_i e]; exact a1
    · by_cases e : q = b
      · subst e; rw [if_pos rfl, jU_s]
      · rw [if_neg e] at a2 ⊢; rw [jU_i e, jU_k (by decide)]; exact a2
  · have := h4 t t0 t1
    rw [kLaw_o (k := 6) (by decide) (by decide), kLaw_o (k := 7) (by decide) (by decide), kLaw_o (k := 8) (by decide) (by decide)] at this ⊢
    rw [jU_k (by decide), jU_k (by decide), jU_k (by decide), jU_k (by decide), jU_k (by decide), jU_k (by decide)]
    exact this
theorem holdM_self {H : jH} (h : FD H) (b : Int) : holdM H (kLaw (cfg H) b (cfg H 1 b) (cfg H 2 b)) := by rw [kLaw_self]; exact h.2.1
section S40
variable {E : jE} {H K Hi : jH}
-- X5_takes
theorem m_takes {b k : Int} (hb : 0 ≤ b ∧ b < 9) (hk : 0 ≤ k ∧ k < 37) : jOk E mX5_takes [jRF E 56, .int (jI b), .int (jI k)] H (jQv fun H' => H' = jU (jU H 70 b (k / 9)) 71 b (k % 9 + 1)) := by
  refine jOk.rng (fun hR0 => ?_)
  refine jOk.ofe rfl (Nat.le_of_ble_eq_true rfl) (en_aii_3 (E := E)) ?_
  refine j_aload_n 1 rfl rfl dX5_takes_0 ?_
  refine j_getr 4 rfl 19 fl_X5_49 dX5_takes_1 (by decide) ( rfl) ( rfl) ?_
  refine j_iload_n 5 rfl rfl dX5_takes_4 ?_
  refine j_iload_n 6 rfl rfl dX5_takes_5 ?_
  refine j_bipush 8 rfl rfl dX5_takes_6 ?_
  refine k_idiv 9 rfl (by omega) (by intro hR; first | omega | exact hR _ _ | exact jb_r _ | exact hR0 _ _ | assumption) dX5_takes_8 ?_
  rw [iDiv_n (by omega) (by omega)]
  refine j_iast 10 rfl dX5_takes_9 (by decide) rfl (by decide) rfl (by omega) (by intro hR; first | omega | exact hR _ _ | exact jb_r _ | exact hR0 _ _ | assumption) ?_
  refine j_aload_n 11 rfl rfl dX5_takes_10 ?_
  refine j_getr 14 rfl 20 fl_X5_52 dX5_takes_11 (by decide) ( rfl) ( rfl) ?_
  refine j_iload_n 15 rfl rfl dX5_takes_14 ?_
  refine j_iload_n 16 rfl rfl dX5_takes_15 ?_
  refine j_bipush 18 rfl rfl dX5_takes_16 ?_
  refine k_irem 19 rfl (by omega) (by intro hR; first | omega | exact hR _ _ | exact jb_r _ | exact hR0 _ _ | assumption) dX5_takes_18 ?_
  rw [iRem_n (by omega) (by omega)]
  refine j_iconst 20 rfl dX5_takes_19 ?_
  refine j_iadd 21 rfl dX5_takes_20 ?_
  refine j_iast 22 rfl dX5_takes_21 (by decide) rfl (by decide) rfl (by omega) (by intro hR; first | omega | exact hR _ _ | exact jb_r _ | exact hR0 _ _ | assumption) ?_
  refine j_vretv dX5_takes_22 rfl ?_
  rfl
-- X5_lawName
theorem m_lawName {k : Int} (hk : 0 ≤ k ∧ k < 37) : jOk E mX5_lawName [.int (jI k)] H (jQi fun r H' => H' = H ∧ r = nm k) := by
  unfold nm
  refine jOk.rng (fun hR0 => ?_)
  refine jOk.ofe rfl (Nat.le_of_ble_eq_true rfl) (en_i_1 (E := E)) ?_
  refine j_iload_n 1 rfl rfl dX5_lawName_0 ?_
  refine j_bipush 3 rfl rfl dX5_lawName_1 ?_
  refine j_icmp_ne 11 6 (by decide) rfl dX5_lawName_3 (by intro hR; first | omega | exact hR _ _ | exact jb_r _ | exact hR0 _ _ | assumption) (by intro hR; first | omega | exact hR _ _ | exact jb_r _ | exact hR0 _ _ | assumption) (fun h1 => ?_) (fun h1 => ?_)
  · refine j_bipush 13 rfl rfl dX5_lawName_11 ?_
    refine j_iload_n 14 rfl rfl dX5_lawName_13 ?_
    refine j_bipush 16 rfl rfl dX5_lawName_14 ?_
    refine k_idiv 17 rfl (by omega) (by intro hR; first | omega | exact hR _ _ | exact jb_r _ | exact hR0 _ _ | assumption) dX5_lawName_16 ?_
    rw [iDiv_n (by omega) (by omega)]
    refine j_imul 18 rfl dX5_lawName_17 ?_
    refine j_iload_n 19 rfl rfl dX5_lawName_18 ?_
    refine j_bipush 21 rfl rfl dX5_lawName_19 ?_
    refine k_irem 22 rfl (by omega) (by intro hR; first | omega | exact hR _ _ | exact jb_r _ | exact hR0 _ _ | assumption) dX5_lawName_21 ?_
    rw [iRem_n (by omega) (by omega)]
    refine j_iadd 23 rfl dX5_lawName_22 ?_
    refine j_iconst 24 rfl dX5_lawName_23 ?_
    refine j_iadd 25 rfl dX5_lawName_24 ?_
    refine j_ireti dX5_lawName_25 rfl ?_
    exact ⟨rfl, by rw [if_neg h1]⟩
  · refine j_bipush 8 rfl rfl dX5_lawName_6 ?_
    refine j_goto 25 (by decide) dX5_lawName_8 ?_
    refine j_ireti dX5_lawName_25 rfl ?_
    exact ⟨rfl, by rw [if_pos (by omega)]⟩
-- X5_isHeard
theorem m_isHeard (h : RI H) (w : wk H Hi) (hn : 0 ≤ K 0 0 ∧ K 0 0 ≤ 9) (ha : ∀ t, 0 ≤ t → t < 60 → Hi 66 t = pO K t) : jOk E mX5_isHeard [jRF E 56] Hi (jQi fun r H' => H' = Hi ∧ r = bI (asB (H 11) (H 12) (H 0 6) K)) := by
  have hear := h.1.1.2.2.2.2.2.1
  obtain ⟨c1, c2, c3, c4, c5, c6, c7⟩ := h.2
  have e26 : Hi 56 26 = H 0 6 := by rw [w.1.2 26 (by omega)]; exact c5.1
  have e76 : Hi 76 = H 76 := w.1.1 76 (by omega)
  obtain ⟨f, hf⟩ : ∃ f : Int → Bool, f = fun k => !decide (oc (pO K (H 11 k)) = H 12 k) := ⟨_, rfl⟩
  have ep : asB (H 11) (H 12) (H 0 6) K = !anyI f (H 0 6) := by rw [hf]; rfl
  rw [ep]
  have h8 := hear.1
  refine jOk.rng (fun hRi => ?_)
  refine jOk.rng (fun hR0 => ?_)
  refine jOk.ofe rfl (Nat.le_of_ble_eq_true rfl) (en_a_3 (E := E)) ?_
  refine j_iconst 1 rfl dX5_isHeard_0 ?_
  refine j_istore_n 2 rfl st_3_1 (by decide) rfl dX5_isHeard_1 ?_
  refine j_iconst 3 rfl dX5_isHeard_2 ?_
  refine j_istore_n 4 rfl st_3_2 (by decide) rfl dX5_isHeard_3 ?_
  have loop := jUp 0 (H 0 6) (fun k => jWP E mX5_isHeard (jQi fun r H' => H' = Hi ∧ r = bI (!anyI f (H 0 6))) 4 [some (jRF E 56), some (.int (jI (bI (!anyI f k)))), some (.int (jI k))] [] Hi) ?_ ?_ 0 (by omega) (by omega)
  · exact loop
  · refine j_iload_n 5 rfl rfl dX5_isHeard_4 ?_
    refine j_aload_n 6 rfl rfl dX5_isHeard_5 ?_
    refine g_geti 9 rfl 26 26 rfl fl_X5_236 dX5_isHeard_6 (by decide) ( rfl) ( rfl) ?_
    rw [e26]
    refine j_icmp_ge 57 12 (by decide) rfl dX5_isHeard_9 (by intro hR; first | omega | exact hR _ _ | exact jb_r _ | exact hR0 _ _ | assumption) (by intro hR; first | omega | exact hR _ _ | exact jb_r _ | exact hR0 _ _ | assumption) (fun h1 => ?_) (fun h1 => ?_)
    · refine j_iload_n 58 rfl rfl dX5_isHeard_57 ?_
      have := bI_r (!anyI f (H 0 6))
      refine j_zreti dX5_isHeard_58 rfl (by first | decide | omega) ?_
      exact ⟨rfl, rfl⟩
    · exfalso; omega
  · intro k k0 k1 ih
    obtain ⟨r1, r2⟩ := hear.2 k k0 k1
    obtain ⟨d1, d2⟩ := c5.2 k k0 k1
    have hA : bI (!anyI f (k + 1)) = 1 ↔ (bI (!anyI f k) = 1 ∧ oc (pO K (H 11 k)) = H 12 k) := by
      have ef : f k = !decide (oc (pO K (H 11 k)) = H 12 k) := by rw [hf]
      rw [anyI_s _ k0, ef]
      generalize anyI f k = A
      by_cases e1 : oc (pO K (H 11 k)) = H 12 k <;> cases A <;> simp [bI, e1]
    have u1 := bI_r (!anyI f k)
    have u2 := bI_r (!anyI f (k + 1))
    have hp := pO_r hn (H 11 k)
    have ho := oc_r (pO K (H 11 k))
    have nx : ∀ x, x = bI (!anyI f (k + 1)) → jWP E mX5_isHeard (jQi fun r H' => H' = Hi ∧ r = bI (!anyI f (H 0 6))) 51 [some (jRF E 56), some (.int (jI x)), some (.int (jI k))] [] Hi := by
      intro x hx
      subst hx
      refine j_iinc 54 rfl rfl st_3_2 (by decide) rfl dX5_isHeard_51 ?_
      refine j_goto 4 (by decide) dX5_isHeard_54 ?_
      exact ih
    refine j_iload_n 5 rfl rfl dX5_isHeard_4 ?_
    refine j_aload_n 6 rfl rfl dX5_isHeard_5 ?_
    refine g_geti 9 rfl 26 26 rfl fl_X5_236 dX5_isHeard_6 (by decide) ( rfl) ( rfl) ?_
    rw [e26]
    refine j_icmp_ge 57 12 (by decide) rfl dX5_isHeard_9 (by intro hR; first | omega | exact hR _ _ | exact jb_r _ | exact hR0 _ _ | assumption) (by intro hR; first | omega | exact hR _ _ | exact jb_r _ | exact hR0 _ _ | assumption) (fun h1 => ?_) (fun h1 => ?_)
    · exfalso; omega
    · refine j_iload_n 13 rfl rfl dX5_isHeard_12 ?_
      refine j_if_eq 49 16 (by decide) rfl dX5_isHeard_13 (by intro hR; first | omega | exact hR _ _ | exact jb_r _ | exact hR0 _ _ | assumption) (fun h2 => ?_) (fun h2 => ?_)
      · refine j_iconst 50 rfl dX5_isHeard_49 ?_
        refine j_istore_n 51 rfl st_3_1 (by decide) rfl dX5_isHeard_50 ?_
        exact nx _ (by omega)
      · refine j_aload_n 17 rfl rfl dX5_isHeard_16 ?_
        refine j_getr 20 rfl 15 fl_X5_37 dX5_isHeard_17 (by decide) ( rfl) ( rfl) ?_
        refine j_aload_n 21 rfl rfl dX5_isHeard_20 ?_
        refine j_getr 24 rfl 27 fl_X5_67 dX5_isHeard_21 (by decide) ( rfl) ( rfl) ?_
        refine j_iconst 25 rfl dX5_isHeard_24 ?_
        refine j_iload_n 26 rfl rfl dX5_isHeard_25 ?_
        refine j_imul 27 rfl dX5_isHeard_26 ?_
        refine j_iald 28 rfl dX5_isHeard_27 (by decide) rfl (by decide) rfl (by omega) ?_
        rw [e76, d1]
        refine j_iald 29 rfl dX5_isHeard_28 (by decide) rfl (by decide) rfl (by omega) ?_
        rw [ha _ r1.1 r1.2]
        refine jS1i 32 rfl dX5_isHeard_29 lk_X5_167 rfl rfl (m_ones (by omega)) (fun q1 H9 ⟨eh_, hq1⟩ => ?_)
        obtain rfl := eh_.symm
        refine j_aload_n 33 rfl rfl dX5_isHeard_32 ?_
        refine j_getr 36 rfl 27 fl_X5_67 dX5_isHeard_33 (by decide) ( rfl) ( rfl) ?_
        refine j_iconst 37 rfl dX5_isHeard_36 ?_
        refine j_iload_n 38 rfl rfl dX5_isHeard_37 ?_
        refine j_imul 39 rfl dX5_isHeard_38 ?_
        refine j_iconst 40 rfl dX5_isHeard_39 ?_
        refine j_iadd 41 rfl dX5_isHeard_40 ?_
        refine j_iald 42 rfl dX5_isHeard_41 (by decide) rfl (by decide) rfl (by omega) ?_
        rw [e76, d2]
        refine j_icmp_ne 49 45 (by decide) rfl dX5_isHeard_42 (by intro hR; first | omega | exact hR _ _ | exact jb_r _ | exact hR0 _ _ | assumption) (by intro hR; first | omega | exact hR _ _ | exact jb_r _ | exact hR0 _ _ | assumption) (fun h3 => ?_) (fun h3 => ?_)
        · refine j_iconst 50 rfl dX5_isHeard_49 ?_
          refine j_istore_n 51 rfl st_3_1 (by decide) rfl dX5_isHeard_50 ?_
          exact nx _ (by omega)
        · refine j_iconst 46 rfl dX5_isHeard_45 ?_
          refine j_goto 50 (by decide) dX5_isHeard_46 ?_
          refine j_istore_n 51 rfl st_3_1 (by decide) rfl dX5_isHeard_50 ?_
          exact nx _ (by omega)
-- X5_gives
theorem m_gives {b l m : Int} (hb : 0 ≤ b ∧ b < H 1 3) (h : FD H) (w : wk H Hi) (hm : holdM Hi (kLaw (cfg H) b l m)) : jOk E mX5_gives [jRF E 56, .int (jI b)] Hi (jQv fun H' => wk H H' ∧ FD H' ∧ ∀ k, k ≠ 66 → k ≠ 67 → k ≠ 68 → k ≠ 70 → k ≠ 71 → k ≠ 72 → k ≠ 73 → H' k = Hi k) := by
  have hn := h.n
  obtain ⟨q0, q1, _⟩ := h.2.2.1.2 b hb.1 hb.2
  have pb := parsed_b h.1.1.1.1 h.1.1.1.2.1 hb.1 hb.2
  have e62 := w.2.1
  refine jOk.rng (fun hR0 => ?_)
  refine jOk.ofe rfl (Nat.le_of_ble_eq_true rfl) (en_ai_2 (E := E)) ?_
  refine j_aload_n 1 rfl rfl dX5_gives_0 ?_
  refine j_getr 4 rfl 19 fl_X5_49 dX5_gives_1 (by decide) ( rfl) ( rfl) ?_
  refine j_iload_n 5 rfl rfl dX5_gives_4 ?_
  refine j_aload_n 6 rfl rfl dX5_gives_5 ?_
  refine j_getr 9 rfl 9 fl_X5_25 dX5_gives_6 (by decide) ( rfl) ( rfl) ?_
  refine j_iconst 10 rfl dX5_gives_9 ?_
  refine j_iload_n 11 rfl rfl dX5_gives_10 ?_
  refine j_imul 12 rfl dX5_gives_11 ?_
  refine j_iald 13 rfl dX5_gives_12 (by decide) rfl (by decide) rfl (by omega) ?_
  rw [e62, q0]
  refine j_iast 14 rfl dX5_gives_13 (by decide) rfl (by decide) rfl (by omega) (by intro hR; first | omega | exact hR _ _ | exact jb_r _ | exact hR0 _ _ | assumption) ?_
  refine j_aload_n 15 rfl rfl dX5_gives_14 ?_
  refine j_getr 18 rfl 20 fl_X5_52 dX5_gives_15 (by decide) ( rfl) ( rfl) ?_
  refine j_iload_n 19 rfl rfl dX5_gives_18 ?_
  refine j_aload_n 20 rfl rfl dX5_gives_19 ?_
  refine j_getr 23 rfl 9 fl_X5_25 dX5_gives_20 (by decide) ( rfl) ( rfl) ?_
  refine j_iconst 24 rfl dX5_gives_23 ?_
  refine j_iload_n 25 rfl rfl dX5_gives_24 ?_
  refine j_imul 26 rfl dX5_gives_25 ?_
  refine j_iconst 27 rfl dX5_gives_26 ?_
  refine j_iadd 28 rfl dX5_gives_27 ?_
  refine j_iald 29 rfl dX5_gives_28 (by decide) rfl (by decide) rfl (by omega) ?_
  try simp (disch := omega) only [jU_s, jU_k, jU_i]
  try simp (disch := omega) only [jU_k]
  rw [e62, q1]
  refine j_iast 30 rfl dX5_gives_29 (by decide) rfl (by decide) rfl (by omega) (by intro hR; first | omega | exact hR _ _ | exact jb_r _ | exact hR0 _ _ | assumption) ?_
  refine j_aload_n 31 rfl rfl dX5_gives_30 ?_
  refine j_bipush 33 rfl rfl dX5_gives_31 ?_
  have hl := holdM_law hm (H 3 b) (H 4 b)
  have es : kLaw (cfg H) b (H 3 b) (H 4 b) = cfg H := kLaw_self (cfg H) b
  rw [es] at hl
  refine jV1v 36 rfl dX5_gives_33 lk_X5_179 rfl rfl (by decide) ( rfl) ( rfl) (m_run (by omega) ((w.trans (wk.u b _ (by omega))).trans (wk.u b _ (by omega))) hl h.1.ok) (fun H2 ⟨w2, h2, a2, f2⟩ => ?_)
  refine j_vretv dX5_gives_36 rfl ?_
  exact ⟨w2, h.back w2 h2 (fun s s0 s1 => a2 s s0 (by omega)), fun k k1 k2 k3 k4 k5 k6 k7 => by rw [f2 k k1 k2 k3 k6 k7, jU_o k5, jU_o k4]⟩
/-- a law is tried -/
theorem m_tk {b k : Int} {l0 m0 : Int} {K : jH} (hm : holdM Hi (kLaw K b l0 m0)) : holdM (jU (jU Hi 70 b (k / 9)) 71 b (k % 9 + 1)) (kTk K b k) := holdM_law hm _ _
-- X5_learnOf
set_option maxHeartbeats 1000000 in
theorem m_learnOf {b i : Int} (hb : 0 ≤ b ∧ b < H 1 3) (hi : -1 ≤ i ∧ i < 37) (h : FD H) : jOk E mX5_learnOf [jRF E 56, .int (jI b), .int (jI i)] H (jQi fun r H' => MZ H H' ∧ FD H' ∧ ((i = -1 ∧ r = cntI (gdB H b) 41) ∨ ((0 ≤ i ∧ i < 37) ∧ i < cntI (gdB H b) 41 ∧ 0 ≤ r ∧ r < 41 ∧ gdB H b r = true ∧ cntI (gdB H b) r = i) ∨ ((0 ≤ i ∧ i < 37) ∧ cntI (gdB H b) 41 ≤ i ∧ r = -1))) := by
  have hn := h.n
  have ok := h.1.ok
  have hg0 : ∀ c, c % 10 = 0 → c ≠ 40 → gdB H b c = false := gd_0 H b
  obtain ⟨g, hg⟩ : ∃ g : Int → Bool, g = fun k => gdB H b (nm k) := ⟨_, rfl⟩
  have h41 : cntI (gdB H b) 41 = cntI g 37 := by rw [hg]; exact cnt_41 hg0
  have hnm : ∀ k : Int, 0 ≤ k → k < 37 → cntI (gdB H b) (nm k) = cntI g k := fun k k0 k1 => by
    have := cnt_nm hg0 k.toNat (by omega)
    rw [Int.toNat_of_nonneg k0] at this
    rw [hg]; exact this
  refine jOk.rng (fun hR0 => ?_)
  refine jOk.ofe rfl (Nat.le_of_ble_eq_true rfl) (en_aii_6 (E := E)) ?_
  have loop := jUp 0 37 (fun k => ∀ Hi fd, wk H Hi → (∃ l m, holdM Hi (kLaw (cfg H) b l m)) → (fd = -1 ∧ (i < 0 ∨ cntI g k ≤ i) ∨ (0 ≤ i ∧ i < cntI g k ∧ ∃ c, 0 ≤ c ∧ c < k ∧ g c = true ∧ cntI g c = i ∧ fd = nm c)) → jWP E mX5_learnOf (jQi fun r H' => MZ H H' ∧ FD H' ∧ ((i = -1 ∧ r = cntI (gdB H b) 41) ∨ ((0 ≤ i ∧ i < 37) ∧ i < cntI (gdB H b) 41 ∧ 0 ≤ r ∧ r < 41 ∧ gdB H b r = true ∧ cntI (gdB H b) r = i) ∨ ((0 ≤ i ∧ i < 37) ∧ cntI (gdB H b) 41 ≤ i ∧ r = -1))) 8 [some (jRF E 56), some (.int (jI b)), some (.int (jI i)), some (.int (jI (cntI g k))), some (.int (jI fd)), some (.int (jI k))] [] Hi) ?_ ?_ 0 (by omega) (by omega)
  · refine j_iconst 1 rfl dX5_learnOf_0 ?_
    refine j_istore_n 2 rfl st_6_3 (by decide) rfl dX5_learnOf_1 ?_
    refine j_iconst 3 rfl dX5_learnOf_2 ?_
    refine j_istore 5 rfl st_6_4 (by decide) rfl dX5_learnOf_3 ?_
    refine j_iconst 6 rfl dX5_learnOf_5 ?_
    refine j_istore 8 rfl st_6_5 (by decide) rfl dX5_learnOf_6 ?_
    exact loop H (-1) (wk.refl H) ⟨_, _, holdM_self h b⟩ (Or.inl ⟨rfl, by rw [cntI_0]; omega⟩)
  · rintro Hi fd w ⟨l, m, hm⟩ hfd
    refine j_iload 10 rfl rfl dX5_learnOf_8 ?_
    refine j_bipush 12 rfl rfl dX5_learnOf_10 ?_
    refine j_icmp_ge 61 15 (by decide) rfl dX5_learnOf_12 (by intro hR; first | omega | exact hR _ _ | exact jb_r _ | exact hR0 _ _ | assumption) (by intro hR; first | omega | exact hR _ _ | exact jb_r _ | exact hR0 _ _ | assumption) (fun h1 => ?_) (fun h1 => ?_)
    · refine j_aload_n 62 rfl rfl dX5_learnOf_61 ?_
      refine j_iload_n 63 rfl rfl dX5_learnOf_62 ?_
      refine jV1v 66 rfl dX5_learnOf_63 lk_X5_248 rfl rfl (by decide) ( rfl) ( rfl) (m_gives hb h w hm) (fun H2 ⟨w2, fd2, _⟩ => ?_)
      refine j_iload_n 67 rfl rfl dX5_learnOf_66 ?_
      refine j_iconst 68 rfl dX5_learnOf_67 ?_
      refine j_icmp_ne 75 71 (by decide) rfl dX5_learnOf_68 (by intro hR; first | omega | exact hR _ _ | exact jb_r _ | exact hR0 _ _ | assumption) (by intro hR; first | omega | exact hR _ _ | exact jb_r _ | exact hR0 _ _ | assumption) (fun h2 => ?_) (fun h2 => ?_)
      · refine j_iload 77 rfl rfl dX5_learnOf_75 ?_
        refine j_ireti dX5_learnOf_77 rfl ?_
        refine ⟨w2.1, fd2, Or.inr ?_⟩
        rcases hfd with ⟨a, c⟩ | ⟨a, c, q, q0, q1, q2, q3, q4⟩
        · exact Or.inr ⟨by omega, by omega, a⟩
        · have hr := nm_rg q0 q1
          refine Or.inl ⟨by omega, by omega, by omega, by omega, ?_, ?_⟩
          · rw [q4]; rw [hg] at q2; exact q2
          · rw [q4, hnm q q0 q1]; exact q3
      · refine j_iload_n 72 rfl rfl dX5_learnOf_71 ?_
        refine j_goto 77 (by decide) dX5_learnOf_72 ?_
        refine j_ireti dX5_learnOf_77 rfl ?_
        exact ⟨w2.1, fd2, Or.inl ⟨by omega, h41.symm⟩⟩
    · exfalso; omega
  · rintro k k0 k1 ih Hi fd w ⟨l, m, hm⟩ hfd
    have okk := cOk_tk ok b k0 k1
    have hck := cntI_r g (n := k) k0
    have hck2 : k ≤ 36 := by omega
    rw [cntI_s _ k0] at ih
    have egk : g k = asB (H 11) (H 12) (H 0 6) (kTk (cfg H) b k) := by rw [hg]; exact gd_nm h.1 b k0 k1
    refine j_iload 10 rfl rfl dX5_learnOf_8 ?_
    refine j_bipush 12 rfl rfl dX5_learnOf_10 ?_
    refine j_icmp_ge 61 15 (by decide) rfl dX5_learnOf_12 (by intro hR; first | omega | exact hR _ _ | exact jb_r _ | exact hR0 _ _ | assumption) (by intro hR; first | omega | exact hR _ _ | exact jb_r _ | exact hR0 _ _ | assumption) (fun h1 => ?_) (fun h1 => ?_)
    · exfalso; omega
    · refine j_aload_n 16 rfl rfl dX5_learnOf_15 ?_
      refine j_iload_n 17 rfl rfl dX5_learnOf_16 ?_
      refine j_iload 19 rfl rfl dX5_learnOf_17 ?_
      refine jV2v 22 rfl dX5_learnOf_19 lk_X5_239 rfl rfl (by decide) ( rfl) ( rfl) (m_takes (by omega) (by omega)) (fun H2 e2 => ?_)
      subst e2
      have hm2 := m_tk (k := k) hm
      refine j_aload_n 23 rfl rfl dX5_learnOf_22 ?_
      refine j_bipush 25 rfl rfl dX5_learnOf_23 ?_
      refine jV1v 28 rfl dX5_learnOf_25 lk_X5_179 rfl rfl (by decide) ( rfl) ( rfl) (m_run (by omega) ((w.trans (wk.u b _ (by omega))).trans (wk.u b _ (by omega))) hm2 okk) (fun H3 ⟨w3, h3, a3, _⟩ => ?_)
      refine j_aload_n 29 rfl rfl dX5_learnOf_28 ?_
      refine jV0i 32 rfl dX5_learnOf_29 lk_X5_242 rfl rfl (by decide) ( rfl) ( rfl) (m_isHeard h.1 w3 okk.1 (fun t t0 t1 => (a3 t t0 (by omega)).1)) (fun r1 H9 ⟨eh_, hr1⟩ => ?_)
      obtain rfl := eh_.symm
      rw [← egk] at hr1
      have u1 := bI_r (g k)
      have go8 : ∀ fd n, n = cntI g k + (if g k then 1 else 0) → (fd = -1 ∧ (i < 0 ∨ n ≤ i) ∨ (0 ≤ i ∧ i < n ∧ ∃ c, 0 ≤ c ∧ c < k + 1 ∧ g c = true ∧ cntI g c = i ∧ fd = nm c)) → jWP E mX5_learnOf (jQi fun r H' => MZ H H' ∧ FD H' ∧ ((i = -1 ∧ r = cntI (gdB H b) 41) ∨ ((0 ≤ i ∧ i < 37) ∧ i < cntI (gdB H b) 41 ∧ 0 ≤ r ∧ r < 41 ∧ gdB H b r = true ∧ cntI (gdB H b) r = i) ∨ ((0 ≤ i ∧ i < 37) ∧ cntI (gdB H b) 41 ≤ i ∧ r = -1))) 55 [some (jRF E 56), some (.int (jI b)), some (.int (jI i)), some (.int (jI n)), some (.int (jI fd)), some (.int (jI k))] [] H3 := by
        intro fd n hn2 hf2
        subst hn2
        refine j_iinc 58 rfl rfl st_6_5 (by decide) rfl dX5_learnOf_55 ?_
        refine j_goto 8 (by decide) dX5_learnOf_58 ?_
        exact ih H3 fd w3 ⟨_, _, h3⟩ hf2
      refine j_if_eq 55 35 (by decide) rfl dX5_learnOf_32 (by intro hR; first | omega | exact hR _ _ | exact jb_r _ | exact hR0 _ _ | assumption) (fun h2 => ?_) (fun h2 => ?_)
      · have gk : g k = false := bI_0.mp (by omega)
        refine go8 fd _ (by rw [gk]; simp) ?_
        rcases hfd with ⟨a, c⟩ | ⟨a, c, q, q0, q1, q2, q3, q4⟩
        · exact Or.inl ⟨a, by omega⟩
        · exact Or.inr ⟨a, by omega, q, q0, by omega, q2, q3, q4⟩
      · have gk : g k = true := bI_1.mp (by omega)
        have hir : -2147483648 ≤ i ∧ i ≤ 2147483647 := by omega
        have hcr : -2147483648 ≤ cntI g k ∧ cntI g k ≤ 2147483647 := by omega
        refine j_iload_n 36 rfl rfl dX5_learnOf_35 ?_
        refine j_iload_n 37 rfl rfl dX5_learnOf_36 ?_
        refine j_icmp_ne 48 40 (by decide) rfl dX5_learnOf_37 (fun _ => hcr) (fun _ => hir) (fun h4 => ?_) (fun h4 => ?_)
        · refine j_iload 50 rfl rfl dX5_learnOf_48 ?_
          refine j_istore 52 rfl st_6_4 (by decide) rfl dX5_learnOf_50 ?_
          refine j_iinc 55 rfl rfl st_6_3 (by decide) rfl dX5_learnOf_52 ?_
          refine go8 fd _ (by rw [gk]; simp) ?_
          rcases hfd with ⟨a, c⟩ | ⟨a, c, q, q0, q1, q2, q3, q4⟩
          · refine Or.inl ⟨a, ?_⟩
            rcases c with c | c
            · exact Or.inl c
            · right; omega
          · exact Or.inr ⟨a, by omega, q, q0, by omega, q2, q3, q4⟩
        · refine j_iload 42 rfl rfl dX5_learnOf_40 ?_
          refine jS1i 45 rfl dX5_learnOf_42 lk_X5_245 rfl rfl (m_lawName (by omega)) (fun r2 H9 ⟨eh_, hr2⟩ => ?_)
          obtain rfl := eh_.symm
          refine j_goto 50 (by decide) dX5_learnOf_45 ?_
          refine j_istore 52 rfl st_6_4 (by decide) rfl dX5_learnOf_50 ?_
          refine j_iinc 55 rfl rfl st_6_3 (by decide) rfl dX5_learnOf_52 ?_
          exact go8 r2 _ (by rw [gk]; simp) (Or.inr ⟨by omega, by omega, k, k0, by omega, gk, by omega, hr2⟩)
-- X5_learn
theorem m_learn {b i : Int} (hb : -2147483648 ≤ b ∧ b ≤ 2147483647) (hi : -2147483648 ≤ i ∧ i ≤ 2147483647) (h : RI H) : jOk E mX5_learn [jRF E 56, .int (jI b), .int (jI i)] H (jQi fun r H' => MZ H H' ∧ FD H' ∧ anLearn H b i r) := by
  refine jOk.rng (fun hR0 => ?_)
  refine jOk.ofe rfl (Nat.le_of_ble_eq_true rfl) (en_aii_3 (E := E)) ?_
  refine j_aload_n 1 rfl rfl dX5_learn_0 ?_
  refine jV0v 4 rfl dX5_learn_1 lk_X5_183 rfl rfl (by decide) ( rfl) ( rfl) (m_find h) (fun H1 ⟨mq, fd⟩ => ?_)
  rw [← mq.same.learn]
  have hn := fd.n
  by_cases hok : (0 ≤ b ∧ b < H1 1 3 ∧ -1 ≤ i ∧ i < 37)
  rotate_left
  · refine j_aload_n 5 rfl rfl dX5_learn_4 ?_
    refine j_iload_n 6 rfl rfl dX5_learn_5 ?_
    refine jV1i 9 rfl dX5_learn_6 lk_X5_134 rfl rfl (by decide) ( rfl) ( rfl) (m_isBox (by omega) (by omega)) (fun r6 H1 ⟨eh_, hr6⟩ => ?_)
    obtain rfl := eh_.symm
    refine j_if_eq 35 12 (by decide) rfl dX5_learn_9 (by intro hR; first | omega | exact hR _ _ | exact jb_r _ | exact hR0 _ _ | assumption) (fun h9 => ?_) (fun h9 => ?_)
    · refine j_bipush 37 rfl rfl dX5_learn_35 ?_
      refine j_ireti dX5_learn_37 rfl ?_
      exact ⟨mq, fd, Or.inl ⟨hok, rfl⟩⟩
    · refine j_iload_n 13 rfl rfl dX5_learn_12 ?_
      refine j_i2l 14 rfl (by intro hR; first | omega | exact hR _ _ | exact jb_r _ | exact hR0 _ _ | assumption) dX5_learn_13 ?_
      refine j_ldc2 17 rfl kc_X5_229 dX5_learn_14 ?_
      refine j_ldc2 20 rfl kc_X5_251 dX5_learn_17 ?_
      refine jS3i 23 rfl dX5_learn_20 lk_X5_75 rfl rfl (m_in (by omega) (by omega) (by omega)) (fun r20 H1 ⟨eh_, hr20⟩ => ?_)
      obtain rfl := eh_.symm
      refine j_if_eq 35 26 (by decide) rfl dX5_learn_23 (by intro hR; first | omega | exact hR _ _ | exact jb_r _ | exact hR0 _ _ | assumption) (fun h23 => ?_) (fun h23 => ?_)
      · refine j_bipush 37 rfl rfl dX5_learn_35 ?_
        refine j_ireti dX5_learn_37 rfl ?_
        exact ⟨mq, fd, Or.inl ⟨hok, rfl⟩⟩
      · exfalso; omega
  refine j_aload_n 5 rfl rfl dX5_learn_4 ?_
  refine j_iload_n 6 rfl rfl dX5_learn_5 ?_
  refine jV1i 9 rfl dX5_learn_6 lk_X5_134 rfl rfl (by decide) ( rfl) ( rfl) (m_isBox (by omega) (by omega)) (fun r6 H1 ⟨eh_, hr6⟩ => ?_)
  obtain rfl := eh_.symm
  refine j_if_eq 35 12 (by decide) rfl dX5_learn_9 (by intro hR; first | omega | exact hR _ _ | exact jb_r _ | exact hR0 _ _ | assumption) (fun h9 => ?_) (fun h9 => ?_)
  · exfalso; omega
  refine j_iload_n 13 rfl rfl dX5_learn_12 ?_
  refine j_i2l 14 rfl (by intro hR; first | omega | exact hR _ _ | exact jb_r _ | exact hR0 _ _ | assumption) dX5_learn_13 ?_
  refine j_ldc2 17 rfl kc_X5_229 dX5_learn_14 ?_
  refine j_ldc2 20 rfl kc_X5_251 dX5_learn_17 ?_
  refine jS3i 23 rfl dX5_learn_20 lk_X5_75 rfl rfl (m_in (by omega) (by omega) (by omega)) (fun r20 H1 ⟨eh_, hr20⟩ => ?_)
  obtain rfl := eh_.symm
  refine j_if_eq 35 26 (by decide) rfl dX5_learn_23 (by intro hR; first | omega | exact hR _ _ | exact jb_r _ | exact hR0 _ _ | assumption) (fun h23 => ?_) (fun h23 => ?_)
  · exfalso; omega
  refine j_aload_n 27 rfl rfl dX5_learn_26 ?_
  refine j_iload_n 28 rfl rfl dX5_learn_27 ?_
  refine j_iload_n 29 rfl rfl dX5_learn_28 ?_
  refine jV2i 32 rfl dX5_learn_29 lk_X5_253 rfl rfl (by decide) ( rfl) ( rfl) (m_learnOf (by omega) (by omega) fd) (fun r1 H2 ⟨mq2, fd2, hr1⟩ => ?_)
  refine j_goto 37 (by decide) dX5_learn_32 ?_
  refine j_ireti dX5_learn_37 rfl ?_
  refine ⟨mq.trans mq2, fd2, Or.inr ?_⟩
  rcases hr1 with ⟨a, c⟩ | ⟨a, c⟩ | ⟨a, c⟩
  · exact Or.inl ⟨by omega, a, c⟩
  · exact Or.inr (Or.inl ⟨by omega, a, c⟩)
  · exact Or.inr (Or.inr ⟨by omega, a, c⟩)
-- X5_emptyNow
set_option maxHeartbeats 1000000 in
theorem m_emptyNow (h : FD H) : jOk E mX5_emptyNow [jRF E 56] H (jQi fun r H' => MZ H H' ∧ FD H' ∧ anEmpty H r) := by
  have hn := h.n
  have ok := h.1.ok
  have hear := h.1.1.1.2.2.2.2.2.1
  obtain ⟨f, hf⟩ : ∃ f : Int → Bool, f = fun b => asB (H 11) (H 12) (H 0 6) (kLaw (cfg H) b 4 (H 4 b)) := ⟨_, rfl⟩
  have ef : ∀ b, 0 ≤ b → b < H 1 3 → f b = asB (H 11) (H 12) (H 0 6) (kTk (cfg H) b 36) := fun b b0 b1 => by
    rw [hf]
    have pb := parsed_b h.1.1.1.1 h.1.1.1.2.1 b0 b1
    exact asB_cong (fun _ _ _ => ⟨rfl, rfl⟩) (fun q q0 q1 => (hear.2 q q0 q1).1.2) (kLaw4 _ b _ _) (cOk_law ok (by omega) (by omega) (by omega)).1
  have ea : ∀ r, anEmpty H r ↔ r = mkI f (H 1 3) := fun r => by rw [hf]; rfl
  refine jOk.rng (fun hR0 => ?_)
  refine jOk.ofe rfl (Nat.le_of_ble_eq_true rfl) (en_a_3 (E := E)) ?_
  refine j_iconst 1 rfl dX5_emptyNow_0 ?_
  refine j_istore_n 2 rfl st_3_1 (by decide) rfl dX5_emptyNow_1 ?_
  refine j_iconst 3 rfl dX5_emptyNow_2 ?_
  refine j_istore_n 4 rfl st_3_2 (by decide) rfl dX5_emptyNow_3 ?_
  have loop := jUp 0 (H 1 3) (fun b => ∀ Hi, wk H Hi → FD Hi → jWP E mX5_emptyNow (jQi fun r H' => MZ H H' ∧ FD H' ∧ anEmpty H r) 4 [some (jRF E 56), some (.int (jI (mkI f b))), some (.int (jI b))] [] Hi) ?_ ?_ 0 (by omega) (by omega)
  · exact loop H (wk.refl H) h
  · intro Hi w fd
    have e8 : Hi 56 8 = H 1 3 := w.2.2.trans hn.2.1
    have hmk := mkI_lt f hn.2.2
    refine j_iload_n 5 rfl rfl dX5_emptyNow_4 ?_
    refine j_aload_n 6 rfl rfl dX5_emptyNow_5 ?_
    refine g_geti 9 rfl 8 8 rfl fl_X5_109 dX5_emptyNow_6 (by decide) ( rfl) ( rfl) ?_
    rw [e8]
    refine j_icmp_ge 53 12 (by decide) rfl dX5_emptyNow_9 (by intro hR; first | omega | exact hR _ _ | exact jb_r _ | exact hR0 _ _ | assumption) (by intro hR; first | omega | exact hR _ _ | exact jb_r _ | exact hR0 _ _ | assumption) (fun h1 => ?_) (fun h1 => ?_)
    · refine j_iload_n 54 rfl rfl dX5_emptyNow_53 ?_
      refine j_ireti dX5_emptyNow_54 rfl ?_
      exact ⟨w.1, fd, (ea _).mpr rfl⟩
    · exfalso; omega
  · intro b b0 b1 ih Hi w fd
    have e8 : Hi 56 8 = H 1 3 := w.2.2.trans hn.2.1
    have okk := cOk_tk ok b (k := 36) (by omega) (by omega)
    have hmk := mkI_lt f (n := b) (by omega)
    rw [mkI_s _ b0] at ih
    refine j_iload_n 5 rfl rfl dX5_emptyNow_4 ?_
    refine j_aload_n 6 rfl rfl dX5_emptyNow_5 ?_
    refine g_geti 9 rfl 8 8 rfl fl_X5_109 dX5_emptyNow_6 (by decide) ( rfl) ( rfl) ?_
    rw [e8]
    refine j_icmp_ge 53 12 (by decide) rfl dX5_emptyNow_9 (by intro hR; first | omega | exact hR _ _ | exact jb_r _ | exact hR0 _ _ | assumption) (by intro hR; first | omega | exact hR _ _ | exact jb_r _ | exact hR0 _ _ | assumption) (fun h1 => ?_) (fun h1 => ?_)
    · exfalso; omega
    · refine j_aload_n 13 rfl rfl dX5_emptyNow_12 ?_
      refine j_iload_n 14 rfl rfl dX5_emptyNow_13 ?_
      refine j_bipush 16 rfl rfl dX5_emptyNow_14 ?_
      refine jV2v 19 rfl dX5_emptyNow_16 lk_X5_239 rfl rfl (by decide) ( rfl) ( rfl) (m_takes (by omega) (by omega)) (fun H2 e2 => ?_)
      subst e2
      have hms := holdM_self fd b
      rw [w.1.same.cfg] at hms
      have hm2 := m_tk (k := 36) hms
      refine j_aload_n 20 rfl rfl dX5_emptyNow_19 ?_
      refine j_bipush 22 rfl rfl dX5_emptyNow_20 ?_
      refine jV1v 25 rfl dX5_emptyNow_22 lk_X5_179 rfl rfl (by decide) ( rfl) ( rfl) (m_run (by omega) ((w.trans (wk.u b _ (by omega))).trans (wk.u b _ (by omega))) hm2 okk) (fun H3 ⟨w3, h3, a3, _⟩ => ?_)
      refine j_iload_n 26 rfl rfl dX5_emptyNow_25 ?_
      refine j_aload_n 27 rfl rfl dX5_emptyNow_26 ?_
      refine jV0i 30 rfl dX5_emptyNow_27 lk_X5_242 rfl rfl (by decide) ( rfl) ( rfl) (m_isHeard h.1 w3 okk.1 (fun t t0 t1 => (a3 t t0 (by omega)).1)) (fun r1 H9 ⟨eh_, hr1⟩ => ?_)
      obtain rfl := eh_.symm
      rw [← ef b b0 b1] at hr1
      have u1 := bI_r (f b)
      have tail : ∀ z, bOr (mkI f b) z = mkI f b + (if f b then 2 ^ b.toNat else 0) → jWP E mX5_emptyNow (jQi fun r H' => MZ H H' ∧ FD H' ∧ anEmpty H r) 40 [some (jRF E 56), some (.int (jI (mkI f b))), some (.int (jI b))] [.int (jI z), .int (jI (mkI f b))] H3 := by
        intro z hz
        refine k_ior 41 rfl dX5_emptyNow_40 ?_
        rw [hz]
        refine j_istore_n 42 rfl st_3_1 (by decide) rfl dX5_emptyNow_41 ?_
        refine j_aload_n 43 rfl rfl dX5_emptyNow_42 ?_
        refine j_iload_n 44 rfl rfl dX5_emptyNow_43 ?_
        refine jV1v 47 rfl dX5_emptyNow_44 lk_X5_248 rfl rfl (by decide) ( rfl) ( rfl) (m_gives ⟨b0, b1⟩ h w3 h3) (fun H4 ⟨w4, fd4, _⟩ => ?_)
        refine j_iinc 50 rfl rfl st_3_2 (by decide) rfl dX5_emptyNow_47 ?_
        refine j_goto 4 (by decide) dX5_emptyNow_50 ?_
        exact ih H4 w4 fd4
      refine j_if_eq 39 33 (by decide) rfl dX5_emptyNow_30 (by intro hR; first | omega | exact hR _ _ | exact jb_r _ | exact hR0 _ _ | assumption) (fun h2 => ?_) (fun h2 => ?_)
      · have gk : f b = false := bI_0.mp (by omega)
        refine j_iconst 40 rfl dX5_emptyNow_39 ?_
        refine tail 0 ?_
        rw [gk, bOr_0 (by omega)]
        simp
      · have gk : f b = true := bI_1.mp (by omega)
        refine j_iconst 34 rfl dX5_emptyNow_33 ?_
        refine j_iload_n 35 rfl rfl dX5_emptyNow_34 ?_
        refine k_ishl 36 rfl dX5_emptyNow_35 ?_
        refine j_goto 40 (by decide) dX5_emptyNow_36 ?_
        refine tail _ ?_
        rw [gk, mkI_or _ (by omega)]
        simp
-- X5_empty
theorem m_empty (h : RI H) : jOk E mX5_empty [jRF E 56] H (jQi fun r H' => MZ H H' ∧ FD H' ∧ anEmpty H r) := by
  refine jOk.rng (fun hR0 => ?_)
  refine jOk.ofe rfl (Nat.le_of_ble_eq_true rfl) (en_a_1 (E := E)) ?_
  refine j_aload_n 1 rfl rfl dX5_empty_0 ?_
  refine jV0v 4 rfl dX5_empty_1 lk_X5_183 rfl rfl (by decide) ( rfl) ( rfl) (m_find h) (fun H1 ⟨mq, fd⟩ => ?_)
  rw [← mq.same.empty]
  refine j_aload_n 5 rfl rfl dX5_empty_4 ?_
  refine jV0i 8 rfl dX5_empty_5 lk_X5_256 rfl rfl (by decide) ( rfl) ( rfl) (m_emptyNow fd) (fun r1 H2 ⟨mq2, fd2, hr1⟩ => ?_)
  refine j_ireti dX5_empty_8 rfl ?_
  exact ⟨mq.trans mq2, fd2, hr1⟩
end S40
