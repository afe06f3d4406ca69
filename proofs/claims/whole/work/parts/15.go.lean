/-! ===== one step of the class's course ===== -/
section S15
variable {E : jE} {H : jH}
-- X1_go
set_option maxHeartbeats 4000000 in
theorem s_go_22 {t : Int} (ht : 0 ≤ t ∧ t < 60) (ok : cOk (cK H 22)) (rel : cRel 22 H t.toNat) : jOk E mX1_go [jRF E 22, .int (jI t)] H (jQv fun H' => cFr 22 H H' ∧ cRel 22 H' (t.toNat + 1) ∧ (∀ i, H' 31 i = if i = t then (pS (cK H 22) (t.toNat + 1)).2.1 else H 31 i) ∧ (∀ i, H' 32 i = if i = t then (pS (cK H 22) (t.toNat + 1)).1 else H 32 i)) := by
  refine jOk.rng (fun hR0 => ?_)
  obtain ⟨K, hK⟩ : ∃ K, K = cK H 22 := ⟨_, rfl⟩
  obtain ⟨s, hs⟩ : ∃ s, s = pS K t.toNat := ⟨_, rfl⟩
  have ktt : ((t.toNat : Nat) : Int) = t := Int.toNat_of_nonneg ht.1
  have k0 : H 22 0 = K 0 0 := by rw [hK]; rfl
  have k5 : H 22 5 = K 0 5 := by rw [hK]; rfl
  have k1 : ∀ b, H 23 b = K 1 b := fun b => by rw [hK]; rfl
  have k2 : ∀ b, H 24 b = K 2 b := fun b => by rw [hK]; rfl
  have k4 : ∀ b, H 26 b = K 4 b := fun b => by rw [hK]; rfl
  have k6 : ∀ b, H 28 b = K 6 b := fun b => by rw [hK]; rfl
  have k7 : ∀ b, H 29 b = K 7 b := fun b => by rw [hK]; rfl
  have k8 : ∀ b, H 30 b = K 8 b := fun b => by rw [hK]; rfl
  unfold cRel at rel
  rw [← hK] at ok rel ⊢
  rw [← hs] at rel
  obtain ⟨hU, hO, hB⟩ := rel
  obtain ⟨hn, hlid, hbx, hinj, hmask⟩ := id ok
  have hs1 : pS K (t.toNat + 1) = pStep K t s := by rw [hs]; show pStep K ((t.toNat : Nat) : Int) _ = _; rw [ktt]
  have hU5 : 0 ≤ s.1 ∧ s.1 < 512 := by rw [hs]; exact pS_U hn _
  have hm := hmask t ht.1 ht.2
  have hbits : ∀ b, 0 ≤ b → b < K 0 0 → (0 ≤ s.2.2.1 b ∧ s.2.2.1 b ≤ 9) ∧ (0 ≤ s.2.2.2.1 b ∧ s.2.2.2.1 b ≤ 60) ∧ (0 ≤ s.2.2.2.2 b ∧ s.2.2.2.2 b ≤ 60) := fun b h0 h1 => by
    have q1 := pS_lr (K := K) (hbx b h0 h1).2.2.2.1 t.toNat
    have q2 := pS_tr (K := K) (b := b) t.toNat
    rw [← hs] at q1 q2
    omega
  have hal : ∀ b, 0 ≤ b → b < K 0 0 → bt s.1 b = true → s.2.2.2.2 b = 0 := fun b h0 h1 hu => by
    have := pS_al hn t.toNat h0 h1
    rw [← hs] at this
    exact this hu
  refine jOk.rng (fun hR0 => ?_)
  refine jOk.ofe rfl (Nat.le_of_ble_eq_true rfl) (en_ai_6 (E := E)) ?_
  refine j_iconst 1 rfl dX1_go_0 ?_
  refine j_istore_n 2 rfl st_6_2 (by decide) rfl dX1_go_1 ?_
  refine j_iconst 3 rfl dX1_go_2 ?_
  refine j_istore_n 4 rfl st_6_3 (by decide) rfl dX1_go_3 ?_
  refine j_aload_n 5 rfl rfl dX1_go_4 ?_
  refine g_geti 8 rfl 13 13 rfl fl_X1_54 dX1_go_5 (by decide) ( rfl) ( rfl) ?_
  refine j_aload_n 9 rfl rfl dX1_go_8 ?_
  refine g_geti 12 rfl 5 5 rfl fl_X1_28 dX1_go_9 (by decide) ( rfl) ( rfl) ?_
  refine k_ior 13 rfl dX1_go_12 ?_
  refine j_iconst 14 rfl dX1_go_13 ?_
  refine k_ixor 15 rfl dX1_go_14 ?_
  refine j_istore 17 rfl st_6_4 (by decide) rfl dX1_go_15 ?_
  refine j_aload_n 18 rfl rfl dX1_go_17 ?_
  refine j_aload_n 19 rfl rfl dX1_go_18 ?_
  refine g_geti 22 rfl 13 13 rfl fl_X1_54 dX1_go_19 (by decide) ( rfl) ( rfl) ?_
  refine jS1i 25 rfl dX1_go_22 lk_X1_106 rfl rfl (s_bitCount (by rw [hU]; exact hU5)) (fun r H1 ⟨e, hr⟩ => ?_)
  subst e
  subst hr
  rw [hU]
  refine g_puti 28 rfl 14 14 rfl fl_X1_57 ft_1_14 dX1_go_25 (by decide) ( rfl) ( rfl)  (by intro hR; have := oc_r s.1; omega) ?_
  refine j_iconst 29 rfl dX1_go_28 ?_
  refine j_istore 31 rfl st_6_5 (by decide) rfl dX1_go_29 ?_
  obtain ⟨gI, hgI⟩ : ∃ gI : Int → jH → Prop, gI = fun i Hi => (∀ k, k ≠ 22 → k ≠ 34 → k ≠ 35 → k ≠ 36 → Hi k = H1 k) ∧ (∀ j, j ≠ 14 → Hi 22 j = H1 22 j) ∧ Hi 22 14 = oc s.1 ∧ (∀ b, 0 ≤ b → b < K 0 0 → b < i → Hi 34 b = (pStep K t s).2.2.1 b ∧ (K 1 b = 0 → bt (K 0 5) b = false → 0 < (pStep K t s).2.2.1 b → Hi 35 b = (pStep K t s).2.2.2.1 b) ∧ (K 1 b = 2 → bt (K 0 5) b = false → 0 < (pStep K t s).2.2.1 b → Hi 36 b = (pStep K t s).2.2.2.2 b)) ∧ (∀ b, i ≤ b → Hi 34 b = H1 34 b ∧ Hi 35 b = H1 35 b ∧ Hi 36 b = H1 36 b) := ⟨_, rfl⟩
  have loop := jUp 0 (K 0 0) (fun i => ∀ Hi, gI i Hi → jWP E mX1_go (jQv fun H' => cFr 22 H1 H' ∧ cRel 22 H' (t.toNat + 1) ∧ (∀ i, H' 31 i = if i = t then (pS K (t.toNat + 1)).2.1 else H1 31 i) ∧ (∀ i, H' 32 i = if i = t then (pS K (t.toNat + 1)).1 else H1 32 i)) 31 [some (jRF E 22), some (.int (jI t)), some (.int (jI (mkI (pOp K t s) i))), some (.int (jI (nz (pOp K t s) (K 4) i))), some (.int (jI (bXor (bOr s.1 (K 0 5)) (-1)))), some (.int (jI i))] [] Hi) ?_ ?_ 0 (by omega) (by omega)
  · rw [k5]
    refine loop _ ?_
    rw [hgI]
    refine ⟨fun k h1 h2 h3 h4 => jU_o h1, fun j hj => jU_i hj, jU_s, fun b h0 h1 h2 => by omega, fun b h0 => ⟨jU_k (by omega), jU_k (by omega), jU_k (by omega)⟩⟩
  · intro Hi g
    rw [hgI] at g
    obtain ⟨g1, g2, g3, g4, g5⟩ := g
    refine j_iload 33 rfl rfl dX1_go_31 ?_
    refine j_aload_n 34 rfl rfl dX1_go_33 ?_
    refine g_geti 37 rfl 0 0 rfl fl_X1_9 dX1_go_34 (by decide) ( rfl) ( rfl) ?_
    rw [g2 0 (by omega), k0]
    refine j_icmp_ge 122 40 (by decide) rfl dX1_go_37 (by intro hR; first | omega | exact hR _ _ | exact jb_r _ | exact hR0 _ _ | assumption) (by intro hR; first | omega | exact hR _ _ | exact jb_r _ | exact hR0 _ _ | assumption) (fun h => ?_) (fun h => ?_)
    · refine j_aload_n 123 rfl rfl dX1_go_122 ?_
      refine j_aload_n 124 rfl rfl dX1_go_123 ?_
      refine g_geti 127 rfl 13 13 rfl fl_X1_54 dX1_go_124 (by decide) ( rfl) ( rfl) ?_
      refine j_iload_n 128 rfl rfl dX1_go_127 ?_
      rw [g2 13 (by omega), hU]
      refine k_ior 129 rfl dX1_go_128 ?_
      refine j_aload_n 130 rfl rfl dX1_go_129 ?_
      refine j_getr 133 rfl 6 fl_X1_33 dX1_go_130 (by decide) ( rfl) ( rfl) ?_
      refine j_iconst 134 rfl dX1_go_133 ?_
      refine j_aald 135 rfl dX1_go_134 (by decide) rfl (by decide) rfl (by omega) (rfl)  ?_
      refine j_iload_n 136 rfl rfl dX1_go_135 ?_
      refine j_iald 137 rfl dX1_go_136 (by decide) rfl (by decide) rfl (by omega) ?_
      rw [g1 30 (by decide) (by decide) (by decide) (by decide), k8]
      refine j_iconst 138 rfl dX1_go_137 ?_
      refine k_ixor 139 rfl dX1_go_138 ?_
      refine k_iand 140 rfl dX1_go_139 ?_
      refine g_puti 143 rfl 13 13 rfl fl_X1_54 ft_1_13 dX1_go_140 (by decide) ( rfl) ( rfl) (by intro hR; first | omega | exact hR _ _ | exact jb_r _ | exact hR0 _ _ | assumption) ?_
      refine j_aload_n 144 rfl rfl dX1_go_143 ?_
      refine j_iload_n 145 rfl rfl dX1_go_144 ?_
      refine g_puti 148 rfl 15 15 rfl fl_X1_60 ft_1_15 dX1_go_145 (by decide) ( rfl) ( rfl)  (by intro hR; exact nz_r _ _ _) ?_
      refine j_aload_n 149 rfl rfl dX1_go_148 ?_
      refine j_getr 152 rfl 7 fl_X1_36 dX1_go_149 (by decide) ( rfl) ( rfl) ?_
      refine j_iload_n 153 rfl rfl dX1_go_152 ?_
      refine j_iload_n 154 rfl rfl dX1_go_153 ?_
      refine j_iast 155 rfl dX1_go_154 (by decide) rfl (by decide) rfl (by omega) (by intro hR; have := mkI_lt (pOp K t s) hn; omega) ?_
      refine j_aload_n 156 rfl rfl dX1_go_155 ?_
      refine j_getr 159 rfl 8 fl_X1_39 dX1_go_156 (by decide) ( rfl) ( rfl) ?_
      refine j_iload_n 160 rfl rfl dX1_go_159 ?_
      refine j_aload_n 161 rfl rfl dX1_go_160 ?_
      refine g_geti 164 rfl 13 13 rfl fl_X1_54 dX1_go_161 (by decide) ( rfl) ( rfl) ?_
      try simp (disch := omega) only [jU_s, jU_k, jU_i]
      refine j_iast 165 rfl dX1_go_164 (by decide) rfl (by decide) rfl (by omega) (by intro hR; exact jb_r _) ?_
      obtain ⟨HF, hHF⟩ : ∃ HF, HF = jU (jU (jU (jU Hi 22 13 (bAnd (bOr s.1 (mkI (pOp K t s) (K 0 0))) (bXor (K 8 t) (-1)))) 22 15 (nz (pOp K t s) (K 4) (K 0 0))) 31 t (mkI (pOp K t s) (K 0 0))) 32 t (bAnd (bOr s.1 (mkI (pOp K t s) (K 0 0))) (bXor (K 8 t) (-1))) := ⟨_, rfl⟩
      rw [← hHF]
      refine j_vretv dX1_go_165 rfl ?_
      have hfr : cFr 22 H1 HF := by
        refine ⟨fun k h1 h2 => ?_, fun j h1 h2 h3 => ?_⟩
        · rw [hHF, jU_o (by omega), jU_o (by omega), jU_o (by omega), jU_o (by omega)]
          exact g1 k (by omega) (by omega) (by omega) (by omega)
        · rw [hHF, jU_k (by decide), jU_k (by decide), jU_i (by omega), jU_i (by omega)]
          exact g2 j h2
      have hKF : cK HF 22 = K := by rw [hfr.K, ← hK]
      have e12 : ∀ b, HF 34 b = Hi 34 b := fun b => by rw [hHF, jU_k (by decide), jU_k (by decide), jU_k (by decide), jU_k (by decide)]
      have e13 : ∀ b, HF 35 b = Hi 35 b := fun b => by rw [hHF, jU_k (by decide), jU_k (by decide), jU_k (by decide), jU_k (by decide)]
      have e14 : ∀ b, HF 36 b = Hi 36 b := fun b => by rw [hHF, jU_k (by decide), jU_k (by decide), jU_k (by decide), jU_k (by decide)]
      have e11 : ∀ b, HF 33 b = H1 33 b := fun b => by rw [hHF, jU_k (by decide), jU_k (by decide), jU_k (by decide), jU_k (by decide), g1 33 (by decide) (by decide) (by decide) (by decide)]
      refine ⟨hfr, ?_, fun i => ?_, fun i => ?_⟩
      · unfold cRel
        rw [hKF, hs1]
        refine ⟨?_, ?_, fun b h0 h1 => ⟨?_, ?_, fun q1 q2 q3 => ?_, fun q1 q2 q3 => ?_⟩⟩
        · rw [hHF, jU_k (by decide), jU_k (by decide), jU_i (by decide), jU_s]
          rfl
        · rw [hHF, jU_k (by decide), jU_k (by decide), jU_s]
          refine nz_cong (fun b h0 h1 => ?_)
          show _ = bt (mkI (pOp K t s) (K 0 0)) b
          rw [bt_mk _ (by omega) h0]
          simp [h1]
        · exact (e12 b).trans (g4 b h0 h1 h1).1
        · exact (e11 b).trans (hB b h0 h1).2.1
        · exact (e13 b).trans ((g4 b h0 h1 h1).2.1 q1 q2 q3)
        · exact (e14 b).trans ((g4 b h0 h1 h1).2.2 q1 q2 q3)
      · rw [hHF, jU_k (by decide), hs1]
        by_cases hi : i = t
        · subst hi
          rw [jU_s, if_pos rfl]
          rfl
        · rw [jU_i hi, if_neg hi, jU_k (by decide), jU_k (by decide), g1 31 (by decide) (by decide) (by decide) (by decide)]
      · rw [hHF, hs1]
        by_cases hi : i = t
        · subst hi
          rw [jU_s, if_pos rfl]
          rfl
        · rw [jU_i hi, if_neg hi, jU_k (by decide), jU_k (by decide), jU_k (by decide), g1 32 (by decide) (by decide) (by decide) (by decide)]
    · exfalso; omega
  · intro i h0 h1 ih Hi g
    rw [hgI] at g
    obtain ⟨g1, g2, g3, g4, g5⟩ := g
    have hbi := hbx i h0 h1
    have hBi := hB i h0 h1
    have hbt := hbits i h0 h1
    obtain ⟨g5a, g5b, g5c⟩ := g5 i (Int.le_refl i)
    have gl : Hi 34 i = s.2.2.1 i := g5a.trans hBi.1
    have nxt : ∀ H2, pOp K t s i = false → gI (i + 1) H2 → jWP E mX1_go (jQv fun H' => cFr 22 H1 H' ∧ cRel 22 H' (t.toNat + 1) ∧ (∀ i, H' 31 i = if i = t then (pS K (t.toNat + 1)).2.1 else H1 31 i) ∧ (∀ i, H' 32 i = if i = t then (pS K (t.toNat + 1)).1 else H1 32 i)) 116 [some (jRF E 22), some (.int (jI t)), some (.int (jI (mkI (pOp K t s) i))), some (.int (jI (nz (pOp K t s) (K 4) i))), some (.int (jI (bXor (bOr s.1 (K 0 5)) (-1)))), some (.int (jI i))] [] H2 := by
      intro H2 ho hg
      have := ih H2 hg
      rw [mkI_s _ h0, nz_s _ _ h0, ho] at this
      simp only [Bool.false_eq_true, if_false, Int.add_zero] at this
      refine j_iinc 119 rfl rfl st_6_5 (by decide) rfl dX1_go_116 ?_
      refine j_goto 31 (by decide) dX1_go_119 ?_
      exact this
    have keep : pOp K t s i = false → (K 1 i = 0 → bt (K 0 5) i = false → 0 < s.2.2.1 i → pTu K t s i = s.2.2.2.1 i) → (K 1 i = 2 → bt (K 0 5) i = false → 0 < s.2.2.1 i → pAl K t s i = s.2.2.2.2 i) → gI (i + 1) Hi := by
      intro ho p1 p2
      rw [hgI]
      refine ⟨g1, g2, g3, fun b b0 b1 b2 => ?_, fun b hb => g5 b (by omega)⟩
      by_cases hbi2 : b = i
      · subst hbi2
        have e1 : (pStep K t s).2.2.1 b = s.2.2.1 b := by show (if pOp K t s b then _ else _) = _; rw [ho]; rfl
        have e2 : (pStep K t s).2.2.2.1 b = pTu K t s b := by show (if pOp K t s b then _ else _) = _; rw [ho]; rfl
        have e3 : (pStep K t s).2.2.2.2 b = pAl K t s b := by show (if pOp K t s b then _ else _) = _; rw [ho]; rfl
        rw [e1, e2, e3]
        refine ⟨gl, fun q1 q2 q3 => ?_, fun q1 q2 q3 => ?_⟩
        · rw [p1 q1 q2 q3, g5b]
          exact hBi.2.2.1 q1 q2 q3
        · rw [p2 q1 q2 q3, g5c]
          exact hBi.2.2.2 q1 q2 q3
      · exact g4 b b0 b1 (by omega)
    refine j_iload 33 rfl rfl dX1_go_31 ?_
    refine j_aload_n 34 rfl rfl dX1_go_33 ?_
    refine g_geti 37 rfl 0 0 rfl fl_X1_9 dX1_go_34 (by decide) ( rfl) ( rfl) ?_
    rw [g2 0 (by omega), k0]
    refine j_icmp_ge 122 40 (by decide) rfl dX1_go_37 (by intro hR; first | omega | exact hR _ _ | exact jb_r _ | exact hR0 _ _ | assumption) (by intro hR; first | omega | exact hR _ _ | exact jb_r _ | exact hR0 _ _ | assumption) (fun h => ?_) (fun h => ?_)
    · exfalso; omega
    · refine j_iload 42 rfl rfl dX1_go_40 ?_
      refine j_iload 44 rfl rfl dX1_go_42 ?_
      refine k_ishr 45 rfl dX1_go_44 ?_
      refine j_iconst 46 rfl dX1_go_45 ?_
      refine k_iand 47 rfl dX1_go_46 ?_
      rw [bt_shr1 (by omega), bt_not (by omega), bt_or]
      cases hu : bt s.1 i with
      | true =>
        simp only [Bool.true_or, Bool.not_true, Bool.false_eq_true, if_false]
        refine j_if_eq 116 50 (by decide) rfl dX1_go_47 (by intro hR; first | omega | exact hR _ _ | exact jb_r _ | exact hR0 _ _ | assumption) (fun h => ?_) (fun h => ?_)
        · refine nxt Hi ?_ (keep ?_ ?_ ?_)
          · unfold pOp; rw [hu]; rfl
          · unfold pOp; rw [hu]; rfl
          · intro _ _ _; unfold pTu; rw [hu]; rfl
          · intro _ _ _; unfold pAl; rw [hu, hal i h0 h1 hu]; rfl
        · exfalso; omega
      | false =>
        cases hl : bt (K 0 5) i with
        | true =>
          simp only [Bool.or_true, Bool.not_true, Bool.false_eq_true, if_false]
          refine j_if_eq 116 50 (by decide) rfl dX1_go_47 (by intro hR; first | omega | exact hR _ _ | exact jb_r _ | exact hR0 _ _ | assumption) (fun h => ?_) (fun h => ?_)
          · refine nxt Hi ?_ (keep ?_ ?_ ?_)
            · unfold pOp; rw [hl]; simp
            · unfold pOp; rw [hl]; simp
            · intro _ q _; rw [hl] at q; cases q
            · intro _ q _; rw [hl] at q; cases q
          · exfalso; omega
        | false =>
          simp only [Bool.or_false, Bool.not_false, if_true]
          refine j_if_eq 116 50 (by decide) rfl dX1_go_47 (by intro hR; first | omega | exact hR _ _ | exact jb_r _ | exact hR0 _ _ | assumption) (fun h => ?_) (fun h => ?_)
          · exfalso; omega
          · refine j_aload_n 51 rfl rfl dX1_go_50 ?_
            refine j_getr 54 rfl 10 fl_X1_45 dX1_go_51 (by decide) ( rfl) ( rfl) ?_
            refine j_iload 56 rfl rfl dX1_go_54 ?_
            refine j_iald 57 rfl dX1_go_56 (by decide) rfl (by decide) rfl (by omega) ?_
            rw [gl]
            refine j_if_le 116 60 (by decide) rfl dX1_go_57 (by intro hR; first | omega | exact hR _ _ | exact jb_r _ | exact hR0 _ _ | assumption) (fun h2 => ?_) (fun h2 => ?_)
            · refine nxt Hi ?_ (keep ?_ ?_ ?_)
              · unfold pOp; simp; intro _ _ q; omega
              · unfold pOp; simp; intro _ _ q; omega
              · intro _ _ q; omega
              · intro _ _ q; omega
            · have hOp : pOp K t s i = pLw K t s i := by unfold pOp; rw [hu, hl]; simp [h2]
              have hi9 : 0 ≤ i ∧ i < 9 := by omega
              have r1 : Hi 23 i = K 1 i := by rw [g1 23 (by decide) (by decide) (by decide) (by decide)]; exact k1 i
              have r2 : Hi 24 i = K 2 i := by rw [g1 24 (by decide) (by decide) (by decide) (by decide)]; exact k2 i
              have r6 : Hi 28 t = K 6 t := by rw [g1 28 (by decide) (by decide) (by decide) (by decide)]; exact k6 t
              have r7 : Hi 29 t = K 7 t := by rw [g1 29 (by decide) (by decide) (by decide) (by decide)]; exact k7 t
              have hTu : pTu K t s i = if bt (K 6 t) i then s.2.2.2.1 i + 1 else s.2.2.2.1 i := by unfold pTu; rw [hu, hl]; simp
              have hAl : pAl K t s i = if bt (K 7 t) i then 0 else s.2.2.2.2 i + 1 := by
                unfold pAl
                rw [hu]
                cases bt (K 7 t) i <;> simp
              have hcall : jOk E mX1_opensByLaw [jRF E 22, .int (jI i), .int (jI t)] Hi (jQi fun r H2 => ((r = 1 ∧ pLw K t s i = true) ∨ (r = 0 ∧ pLw K t s i = false)) ∧ (∀ k, k ≠ 35 → k ≠ 36 → H2 k = Hi k) ∧ (∀ j, j ≠ i → H2 35 j = Hi 35 j ∧ H2 36 j = Hi 36 j) ∧ (K 1 i = 0 → H2 35 i = pTu K t s i) ∧ (K 1 i = 2 → H2 36 i = pAl K t s i)) := by
                rcases (show K 1 i = 0 ∨ K 1 i = 1 ∨ K 1 i = 2 ∨ K 1 i = 3 ∨ K 1 i = 4 by omega) with hL | hL | hL | hL | hL
                · have hT : Hi 35 i = s.2.2.2.1 i := g5b.trans (hBi.2.2.1 hL hl h2)
                  refine (s_law0_22 hi9 ht (r1.trans hL) (by omega)).moni (fun r H2 q => ?_)
                  rw [r6, r2, hT] at q
                  have hLw : pLw K t s i = (bt (K 6 t) i && decide (pTu K t s i = K 2 i)) := by unfold pLw; rw [if_pos hL]
                  rcases q with ⟨q1, q2, q3⟩ | ⟨q1, q2, q3⟩
                  · refine ⟨Or.inr ⟨q2, by rw [hLw, q1]; rfl⟩, fun k _ _ => by rw [q3], fun j _ => by rw [q3]; exact ⟨rfl, rfl⟩, fun _ => by rw [q3, hT, hTu, q1]; rfl, fun q => by omega⟩
                  · rw [q1, if_pos rfl] at hTu
                    refine ⟨?_, fun k a b => by rw [q3, jU_o a], fun j hj => by rw [q3, jU_i hj, jU_k (by decide)]; exact ⟨rfl, rfl⟩, fun _ => by rw [q3, jU_s, hTu], fun q => by omega⟩
                    rw [hLw, q1, hTu]
                    simp
                    omega
                · refine (s_law1_22 hi9 ht (r1.trans hL)).moni (fun r H2 q => ?_)
                  have e15 : Hi 22 15 = nz (bt s.2.1) (K 4) (K 0 0) := (g2 15 (by omega)).trans hO
                  have e11 : Hi 33 i = rch (K 4 i) (K 2 i) := by rw [g1 33 (by decide) (by decide) (by decide) (by decide)]; exact hBi.2.1
                  rw [e15, e11] at q
                  have hLw : pLw K t s i = pNr K s.2.1 i := by unfold pLw; rw [if_neg (by omega), if_pos hL]
                  have hno := near_ok ok (o := s.2.1) h0 h1
                  obtain ⟨q1, q2⟩ := q
                  subst q1
                  refine ⟨?_, fun k _ _ => rfl, fun j _ => ⟨rfl, rfl⟩, fun q => by omega, fun q => by omega⟩
                  rw [hLw]
                  rcases q2 with ⟨q2, q3⟩ | ⟨q2, q3⟩
                  · exact Or.inl ⟨q2, hno.mp q3⟩
                  · refine Or.inr ⟨q2, ?_⟩
                    cases hp : pNr K s.2.1 i with
                    | false => rfl
                    | true => exact absurd q3 (hno.mpr hp)
                · have hT : Hi 36 i = s.2.2.2.2 i := g5c.trans (hBi.2.2.2 hL hl h2)
                  refine (s_law2_22 hi9 ht (r1.trans hL) (by omega)).moni (fun r H2 q => ?_)
                  rw [r7, r2, hT] at q
                  have hLw : pLw K t s i = decide (K 2 i ≤ pAl K t s i) := by unfold pLw; rw [if_neg (by omega), if_neg (by omega), if_pos hL]
                  rcases q with ⟨q1, q2, q3⟩ | ⟨q1, q2, q3⟩
                  · rw [q1, if_pos rfl] at hAl
                    refine ⟨?_, fun k a b => by rw [q3, jU_o b], fun j hj => by rw [q3, jU_k (by decide), jU_i hj]; exact ⟨rfl, rfl⟩, fun q => by omega, fun _ => by rw [q3, jU_s, hAl]⟩
                    rw [hLw, hAl]
                    simp
                    omega
                  · rw [q1, if_neg (by simp)] at hAl
                    refine ⟨?_, fun k a b => by rw [q3, jU_o b], fun j hj => by rw [q3, jU_k (by decide), jU_i hj]; exact ⟨rfl, rfl⟩, fun q => by omega, fun _ => by rw [q3, jU_s, hAl]⟩
                    rw [hLw, hAl]
                    simp
                    omega
                · refine (s_law3_22 hi9 ht (r1.trans hL)).moni (fun r H2 q => ?_)
                  rw [g3, r2] at q
                  have hLw : pLw K t s i = decide (K 2 i ≤ oc s.1) := by unfold pLw; rw [if_neg (by omega), if_neg (by omega), if_neg (by omega), if_pos hL]
                  obtain ⟨q1, q2⟩ := q
                  subst q1
                  refine ⟨?_, fun k _ _ => rfl, fun j _ => ⟨rfl, rfl⟩, fun q => by omega, fun q => by omega⟩
                  rw [hLw]
                  simp
                  omega
                · refine (s_law4_22 hi9 ht (r1.trans hL)).moni (fun r H2 q => ?_)
                  have hLw : pLw K t s i = false := by unfold pLw; rw [if_neg (by omega), if_neg (by omega), if_neg (by omega), if_neg (by omega)]
                  obtain ⟨q1, q2⟩ := q
                  subst q1
                  exact ⟨Or.inr ⟨q2, hLw⟩, fun k _ _ => rfl, fun j _ => ⟨rfl, rfl⟩, fun q => by omega, fun q => by omega⟩
              refine j_aload_n 61 rfl rfl dX1_go_60 ?_
              refine j_iload 63 rfl rfl dX1_go_61 ?_
              refine j_iload_n 64 rfl rfl dX1_go_63 ?_
              refine jV2i 67 rfl dX1_go_64 lk_X1_112 rfl rfl (by decide) ( rfl) ( rfl) (hcall) (fun r H2 ⟨hr, f1, f2, f3, f4⟩ => ?_)
              refine j_if_eq 116 70 (by decide) rfl dX1_go_67 (by intro hR; first | omega | exact hR _ _ | exact jb_r _ | exact hR0 _ _ | assumption) (fun h3 => ?_) (fun h3 => ?_)
              · have ho : pOp K t s i = false := by
                  rw [hOp]
                  rcases hr with ⟨q1, q2⟩ | ⟨q1, q2⟩
                  · omega
                  · exact q2
                refine nxt H2 ho ?_
                rw [hgI]
                refine ⟨fun k a1 a2 a3 a4 => (f1 k a3 a4).trans (g1 k a1 a2 a3 a4), fun j hj => by rw [f1 22 (by decide) (by decide)]; exact g2 j hj, by rw [f1 22 (by decide) (by decide)]; exact g3, fun b b0 b1 b2 => ?_, fun b hb => ?_⟩
                · by_cases hbi2 : b = i
                  · subst hbi2
                    have e1 : (pStep K t s).2.2.1 b = s.2.2.1 b := by show (if pOp K t s b then _ else _) = _; rw [ho]; rfl
                    have e2 : (pStep K t s).2.2.2.1 b = pTu K t s b := by show (if pOp K t s b then _ else _) = _; rw [ho]; rfl
                    have e3 : (pStep K t s).2.2.2.2 b = pAl K t s b := by show (if pOp K t s b then _ else _) = _; rw [ho]; rfl
                    rw [e1, e2, e3, f1 34 (by decide) (by decide)]
                    exact ⟨gl, fun q1 _ _ => f3 q1, fun q1 _ _ => f4 q1⟩
                  · rw [f1 34 (by decide) (by decide), (f2 b hbi2).1, (f2 b hbi2).2]
                    exact g4 b b0 b1 (by omega)
                · rw [f1 34 (by decide) (by decide), (f2 b (by omega)).1, (f2 b (by omega)).2]
                  exact g5 b (by omega)
              · have ho : pOp K t s i = true := by
                  rw [hOp]
                  rcases hr with ⟨q1, q2⟩ | ⟨q1, q2⟩
                  · exact q2
                  · omega
                have e12 : H2 34 i = s.2.2.1 i := by rw [f1 34 (by decide) (by decide)]; exact gl
                have e4 : H2 26 i = K 4 i := by rw [f1 26 (by decide) (by decide), g1 26 (by decide) (by decide) (by decide) (by decide)]; exact k4 i
                refine j_aload_n 71 rfl rfl dX1_go_70 ?_
                refine j_getr 74 rfl 10 fl_X1_45 dX1_go_71 (by decide) ( rfl) ( rfl) ?_
                refine j_iload 76 rfl rfl dX1_go_74 ?_
                refine j_dup2 77 rfl rfl rfl dX1_go_76 ?_
                refine j_iald 78 rfl dX1_go_77 (by decide) rfl (by decide) rfl (by omega) ?_
                rw [e12]
                refine j_iconst 79 rfl dX1_go_78 ?_
                refine j_isub 80 rfl dX1_go_79 ?_
                refine j_iast 81 rfl dX1_go_80 (by decide) rfl (by decide) rfl (by omega) (by intro hR; first | omega | exact hR _ _ | exact jb_r _ | exact hR0 _ _ | assumption) ?_
                refine j_aload_n 82 rfl rfl dX1_go_81 ?_
                refine j_getr 85 rfl 11 fl_X1_48 dX1_go_82 (by decide) ( rfl) ( rfl) ?_
                refine j_iload 87 rfl rfl dX1_go_85 ?_
                refine j_iconst 88 rfl dX1_go_87 ?_
                refine j_iast 89 rfl dX1_go_88 (by decide) rfl (by decide) rfl (by omega) (by intro hR; first | omega | exact hR _ _ | exact jb_r _ | exact hR0 _ _ | assumption) ?_
                refine j_aload_n 90 rfl rfl dX1_go_89 ?_
                refine j_getr 93 rfl 12 fl_X1_51 dX1_go_90 (by decide) ( rfl) ( rfl) ?_
                refine j_iload 95 rfl rfl dX1_go_93 ?_
                refine j_iconst 96 rfl dX1_go_95 ?_
                refine j_iast 97 rfl dX1_go_96 (by decide) rfl (by decide) rfl (by omega) (by intro hR; first | omega | exact hR _ _ | exact jb_r _ | exact hR0 _ _ | assumption) ?_
                refine j_iload_n 98 rfl rfl dX1_go_97 ?_
                refine j_iconst 99 rfl dX1_go_98 ?_
                refine j_iload 101 rfl rfl dX1_go_99 ?_
                refine k_ishl 102 rfl dX1_go_101 ?_
                refine k_ior 103 rfl dX1_go_102 ?_
                refine j_istore_n 104 rfl st_6_2 (by decide) rfl dX1_go_103 ?_
                refine j_iload_n 105 rfl rfl dX1_go_104 ?_
                refine j_iconst 106 rfl dX1_go_105 ?_
                refine j_aload_n 107 rfl rfl dX1_go_106 ?_
                refine j_getr 110 rfl 4 fl_X1_25 dX1_go_107 (by decide) ( rfl) ( rfl) ?_
                refine j_iload 112 rfl rfl dX1_go_110 ?_
                refine j_iald 113 rfl dX1_go_112 (by decide) rfl (by decide) rfl (by omega) ?_
                rw [jU_k (by decide), jU_k (by decide), jU_k (by decide), e4]
                refine k_ishl 114 rfl dX1_go_113 ?_
                refine k_ior 115 rfl dX1_go_114 ?_
                refine j_istore_n 116 rfl st_6_3 (by decide) rfl dX1_go_115 ?_
                have := ih (jU (jU (jU H2 34 i (s.2.2.1 i - 1)) 35 i 0) 36 i 0) ?_
                · rw [mkI_s _ h0, nz_s _ _ h0, ho] at this
                  simp only [if_true] at this
                  rw [← mkI_or (pOp K t s) (by omega)] at this
                  refine j_iinc 119 rfl rfl st_6_5 (by decide) rfl dX1_go_116 ?_
                  refine j_goto 31 (by decide) dX1_go_119 ?_
                  exact this
                · rw [hgI]
                  refine ⟨fun k a1 a2 a3 a4 => ?_, fun j hj => ?_, ?_, fun b b0 b1 b2 => ?_, fun b hb => ?_⟩
                  · rw [jU_o a4, jU_o a3, jU_o a2, f1 k a3 a4]
                    exact g1 k a1 a2 a3 a4
                  · rw [jU_k (by decide), jU_k (by decide), jU_k (by decide), f1 22 (by decide) (by decide)]
                    exact g2 j hj
                  · rw [jU_k (by decide), jU_k (by decide), jU_k (by decide), f1 22 (by decide) (by decide)]
                    exact g3
                  · by_cases hbi2 : b = i
                    · subst hbi2
                      have e1 : (pStep K t s).2.2.1 b = s.2.2.1 b - 1 := by show (if pOp K t s b then _ else _) = _; rw [ho]; rfl
                      have e2 : (pStep K t s).2.2.2.1 b = 0 := by show (if pOp K t s b then _ else _) = _; rw [ho]; rfl
                      have e3 : (pStep K t s).2.2.2.2 b = 0 := by show (if pOp K t s b then _ else _) = _; rw [ho]; rfl
                      rw [e1, e2, e3, jU_k (by decide), jU_k (by decide), jU_s, jU_k (by decide), jU_s, jU_s]
                      exact ⟨rfl, fun _ _ _ => rfl, fun _ _ _ => rfl⟩
                    · rw [jU_k (by decide), jU_k (by decide), jU_i hbi2, jU_k (by decide), jU_i hbi2, jU_k (by decide), jU_i hbi2, jU_k (by decide), jU_k (by decide), f1 34 (by decide) (by decide), (f2 b hbi2).1, (f2 b hbi2).2]
                      exact g4 b b0 b1 (by omega)
                  · have hbi2 : b ≠ i := by omega
                    rw [jU_k (by decide), jU_k (by decide), jU_i hbi2, jU_k (by decide), jU_i hbi2, jU_k (by decide), jU_i hbi2, jU_k (by decide), jU_k (by decide), f1 34 (by decide) (by decide), (f2 b hbi2).1, (f2 b hbi2).2]
                    exact g5 b (by omega)
-- X1_go
set_option maxHeartbeats 4000000 in
theorem s_go_37 {t : Int} (ht : 0 ≤ t ∧ t < 60) (ok : cOk (cK H 37)) (rel : cRel 37 H t.toNat) : jOk E mX1_go [jRF E 37, .int (jI t)] H (jQv fun H' => cFr 37 H H' ∧ cRel 37 H' (t.toNat + 1) ∧ (∀ i, H' 46 i = if i = t then (pS (cK H 37) (t.toNat + 1)).2.1 else H 46 i) ∧ (∀ i, H' 47 i = if i = t then (pS (cK H 37) (t.toNat + 1)).1 else H 47 i)) := by
  refine jOk.rng (fun hR0 => ?_)
  obtain ⟨K, hK⟩ : ∃ K, K = cK H 37 := ⟨_, rfl⟩
  obtain ⟨s, hs⟩ : ∃ s, s = pS K t.toNat := ⟨_, rfl⟩
  have ktt : ((t.toNat : Nat) : Int) = t := Int.toNat_of_nonneg ht.1
  have k0 : H 37 0 = K 0 0 := by rw [hK]; rfl
  have k5 : H 37 5 = K 0 5 := by rw [hK]; rfl
  have k1 : ∀ b, H 38 b = K 1 b := fun b => by rw [hK]; rfl
  have k2 : ∀ b, H 39 b = K 2 b := fun b => by rw [hK]; rfl
  have k4 : ∀ b, H 41 b = K 4 b := fun b => by rw [hK]; rfl
  have k6 : ∀ b, H 43 b = K 6 b := fun b => by rw [hK]; rfl
  have k7 : ∀ b, H 44 b = K 7 b := fun b => by rw [hK]; rfl
  have k8 : ∀ b, H 45 b = K 8 b := fun b => by rw [hK]; rfl
  unfold cRel at rel
  rw [← hK] at ok rel ⊢
  rw [← hs] at rel
  obtain ⟨hU, hO, hB⟩ := rel
  obtain ⟨hn, hlid, hbx, hinj, hmask⟩ := id ok
  have hs1 : pS K (t.toNat + 1) = pStep K t s := by rw [hs]; show pStep K ((t.toNat : Nat) : Int) _ = _; rw [ktt]
  have hU5 : 0 ≤ s.1 ∧ s.1 < 512 := by rw [hs]; exact pS_U hn _
  have hm := hmask t ht.1 ht.2
  have hbits : ∀ b, 0 ≤ b → b < K 0 0 → (0 ≤ s.2.2.1 b ∧ s.2.2.1 b ≤ 9) ∧ (0 ≤ s.2.2.2.1 b ∧ s.2.2.2.1 b ≤ 60) ∧ (0 ≤ s.2.2.2.2 b ∧ s.2.2.2.2 b ≤ 60) := fun b h0 h1 => by
    have q1 := pS_lr (K := K) (hbx b h0 h1).2.2.2.1 t.toNat
    have q2 := pS_tr (K := K) (b := b) t.toNat
    rw [← hs] at q1 q2
    omega
  have hal : ∀ b, 0 ≤ b → b < K 0 0 → bt s.1 b = true → s.2.2.2.2 b = 0 := fun b h0 h1 hu => by
    have := pS_al hn t.toNat h0 h1
    rw [← hs] at this
    exact this hu
  refine jOk.rng (fun hR0 => ?_)
  refine jOk.ofe rfl (Nat.le_of_ble_eq_true rfl) (en_ai_6 (E := E)) ?_
  refine j_iconst 1 rfl dX1_go_0 ?_
  refine j_istore_n 2 rfl st_6_2 (by decide) rfl dX1_go_1 ?_
  refine j_iconst 3 rfl dX1_go_2 ?_
  refine j_istore_n 4 rfl st_6_3 (by decide) rfl dX1_go_3 ?_
  refine j_aload_n 5 rfl rfl dX1_go_4 ?_
  refine g_geti 8 rfl 13 13 rfl fl_X1_54 dX1_go_5 (by decide) ( rfl) ( rfl) ?_
  refine j_aload_n 9 rfl rfl dX1_go_8 ?_
  refine g_geti 12 rfl 5 5 rfl fl_X1_28 dX1_go_9 (by decide) ( rfl) ( rfl) ?_
  refine k_ior 13 rfl dX1_go_12 ?_
  refine j_iconst 14 rfl dX1_go_13 ?_
  refine k_ixor 15 rfl dX1_go_14 ?_
  refine j_istore 17 rfl st_6_4 (by decide) rfl dX1_go_15 ?_
  refine j_aload_n 18 rfl rfl dX1_go_17 ?_
  refine j_aload_n 19 rfl rfl dX1_go_18 ?_
  refine g_geti 22 rfl 13 13 rfl fl_X1_54 dX1_go_19 (by decide) ( rfl) ( rfl) ?_
  refine jS1i 25 rfl dX1_go_22 lk_X1_106 rfl rfl (s_bitCount (by rw [hU]; exact hU5)) (fun r H1 ⟨e, hr⟩ => ?_)
  subst e
  subst hr
  rw [hU]
  refine g_puti 28 rfl 14 14 rfl fl_X1_57 ft_1_14 dX1_go_25 (by decide) ( rfl) ( rfl)  (by intro hR; have := oc_r s.1; omega) ?_
  refine j_iconst 29 rfl dX1_go_28 ?_
  refine j_istore 31 rfl st_6_5 (by decide) rfl dX1_go_29 ?_
  obtain ⟨gI, hgI⟩ : ∃ gI : Int → jH → Prop, gI = fun i Hi => (∀ k, k ≠ 37 → k ≠ 49 → k ≠ 50 → k ≠ 51 → Hi k = H1 k) ∧ (∀ j, j ≠ 14 → Hi 37 j = H1 37 j) ∧ Hi 37 14 = oc s.1 ∧ (∀ b, 0 ≤ b → b < K 0 0 → b < i → Hi 49 b = (pStep K t s).2.2.1 b ∧ (K 1 b = 0 → bt (K 0 5) b = false → 0 < (pStep K t s).2.2.1 b → Hi 50 b = (pStep K t s).2.2.2.1 b) ∧ (K 1 b = 2 → bt (K 0 5) b = false → 0 < (pStep K t s).2.2.1 b → Hi 51 b = (pStep K t s).2.2.2.2 b)) ∧ (∀ b, i ≤ b → Hi 49 b = H1 49 b ∧ Hi 50 b = H1 50 b ∧ Hi 51 b = H1 51 b) := ⟨_, rfl⟩
  have loop := jUp 0 (K 0 0) (fun i => ∀ Hi, gI i Hi → jWP E mX1_go (jQv fun H' => cFr 37 H1 H' ∧ cRel 37 H' (t.toNat + 1) ∧ (∀ i, H' 46 i = if i = t then (pS K (t.toNat + 1)).2.1 else H1 46 i) ∧ (∀ i, H' 47 i = if i = t then (pS K (t.toNat + 1)).1 else H1 47 i)) 31 [some (jRF E 37), some (.int (jI t)), some (.int (jI (mkI (pOp K t s) i))), some (.int (jI (nz (pOp K t s) (K 4) i))), some (.int (jI (bXor (bOr s.1 (K 0 5)) (-1)))), some (.int (jI i))] [] Hi) ?_ ?_ 0 (by omega) (by omega)
  · rw [k5]
    refine loop _ ?_
    rw [hgI]
    refine ⟨fun k h1 h2 h3 h4 => jU_o h1, fun j hj => jU_i hj, jU_s, fun b h0 h1 h2 => by omega, fun b h0 => ⟨jU_k (by omega), jU_k (by omega), jU_k (by omega)⟩⟩
  · intro Hi g
    rw [hgI] at g
    obtain ⟨g1, g2, g3, g4, g5⟩ := g
    refine j_iload 33 rfl rfl dX1_go_31 ?_
    refine j_aload_n 34 rfl rfl dX1_go_33 ?_
    refine g_geti 37 rfl 0 0 rfl fl_X1_9 dX1_go_34 (by decide) ( rfl) ( rfl) ?_
    rw [g2 0 (by omega), k0]
    refine j_icmp_ge 122 40 (by decide) rfl dX1_go_37 (by intro hR; first | omega | exact hR _ _ | exact jb_r _ | exact hR0 _ _ | assumption) (by intro hR; first | omega | exact hR _ _ | exact jb_r _ | exact hR0 _ _ | assumption) (fun h => ?_) (fun h => ?_)
    · refine j_aload_n 123 rfl rfl dX1_go_122 ?_
      refine j_aload_n 124 rfl rfl dX1_go_123 ?_
      refine g_geti 127 rfl 13 13 rfl fl_X1_54 dX1_go_124 (by decide) ( rfl) ( rfl) ?_
      refine j_iload_n 128 rfl rfl dX1_go_127 ?_
      rw [g2 13 (by omega), hU]
      refine k_ior 129 rfl dX1_go_128 ?_
      refine j_aload_n 130 rfl rfl dX1_go_129 ?_
      refine j_getr 133 rfl 6 fl_X1_33 dX1_go_130 (by decide) ( rfl) ( rfl) ?_
      refine j_iconst 134 rfl dX1_go_133 ?_
      refine j_aald 135 rfl dX1_go_134 (by decide) rfl (by decide) rfl (by omega) (rfl)  ?_
      refine j_iload_n 136 rfl rfl dX1_go_135 ?_
      refine j_iald 137 rfl dX1_go_136 (by decide) rfl (by decide) rfl (by omega) ?_
      rw [g1 45 (by decide) (by decide) (by decide) (by decide), k8]
      refine j_iconst 138 rfl dX1_go_137 ?_
      refine k_ixor 139 rfl dX1_go_138 ?_
      refine k_iand 140 rfl dX1_go_139 ?_
      refine g_puti 143 rfl 13 13 rfl fl_X1_54 ft_1_13 dX1_go_140 (by decide) ( rfl) ( rfl) (by intro hR; first | omega | exact hR _ _ | exact jb_r _ | exact hR0 _ _ | assumption) ?_
      refine j_aload_n 144 rfl rfl dX1_go_143 ?_
      refine j_iload_n 145 rfl rfl dX1_go_144 ?_
      refine g_puti 148 rfl 15 15 rfl fl_X1_60 ft_1_15 dX1_go_145 (by decide) ( rfl) ( rfl)  (by intro hR; exact nz_r _ _ _) ?_
      refine j_aload_n 149 rfl rfl dX1_go_148 ?_
      refine j_getr 152 rfl 7 fl_X1_36 dX1_go_149 (by decide) ( rfl) ( rfl) ?_
      refine j_iload_n 153 rfl rfl dX1_go_152 ?_
      refine j_iload_n 154 rfl rfl dX1_go_153 ?_
      refine j_iast 155 rfl dX1_go_154 (by decide) rfl (by decide) rfl (by omega) (by intro hR; have := mkI_lt (pOp K t s) hn; omega) ?_
      refine j_aload_n 156 rfl rfl dX1_go_155 ?_
      refine j_getr 159 rfl 8 fl_X1_39 dX1_go_156 (by decide) ( rfl) ( rfl) ?_
      refine j_iload_n 160 rfl rfl dX1_go_159 ?_
      refine j_aload_n 161 rfl rfl dX1_go_160 ?_
      refine g_geti 164 rfl 13 13 rfl fl_X1_54 dX1_go_161 (by decide) ( rfl) ( rfl) ?_
      try simp (disch := omega) only [jU_s, jU_k, jU_i]
      refine j_iast 165 rfl dX1_go_164 (by decide) rfl (by decide) rfl (by omega) (by intro hR; exact jb_r _) ?_
      obtain ⟨HF, hHF⟩ : ∃ HF, HF = jU (jU (jU (jU Hi 37 13 (bAnd (bOr s.1 (mkI (pOp K t s) (K 0 0))) (bXor (K 8 t) (-1)))) 37 15 (nz (pOp K t s) (K 4) (K 0 0))) 46 t (mkI (pOp K t s) (K 0 0))) 47 t (bAnd (bOr s.1 (mkI (pOp K t s) (K 0 0))) (bXor (K 8 t) (-1))) := ⟨_, rfl⟩
      rw [← hHF]
      refine j_vretv dX1_go_165 rfl ?_
      have hfr : cFr 37 H1 HF := by
        refine ⟨fun k h1 h2 => ?_, fun j h1 h2 h3 => ?_⟩
        · rw [hHF, jU_o (by omega), jU_o (by omega), jU_o (by omega), jU_o (by omega)]
          exact g1 k (by omega) (by omega) (by omega) (by omega)
        · rw [hHF, jU_k (by decide), jU_k (by decide), jU_i (by omega), jU_i (by omega)]
          exact g2 j h2
      have hKF : cK HF 37 = K := by rw [hfr.K, ← hK]
      have e12 : ∀ b, HF 49 b = Hi 49 b := fun b => by rw [hHF, jU_k (by decide), jU_k (by decide), jU_k (by decide), jU_k (by decide)]
      have e13 : ∀ b, HF 50 b = Hi 50 b := fun b => by rw [hHF, jU_k (by decide), jU_k (by decide), jU_k (by decide), jU_k (by decide)]
      have e14 : ∀ b, HF 51 b = Hi 51 b := fun b => by rw [hHF, jU_k (by decide), jU_k (by decide), jU_k (by decide), jU_k (by decide)]
      have e11 : ∀ b, HF 48 b = H1 48 b := fun b => by rw [hHF, jU_k (by decide), jU_k (by decide), jU_k (by decide), jU_k (by decide), g1 48 (by decide) (by decide) (by decide) (by decide)]
      refine ⟨hfr, ?_, fun i => ?_, fun i => ?_⟩
      · unfold cRel
        rw [hKF, hs1]
        refine ⟨?_, ?_, fun b h0 h1 => ⟨?_, ?_, fun q1 q2 q3 => ?_, fun q1 q2 q3 => ?_⟩⟩
        · rw [hHF, jU_k (by decide), jU_k (by decide), jU_i (by decide), jU_s]
          rfl
        · rw [hHF, jU_k (by decide), jU_k (by decide), jU_s]
          refine nz_cong (fun b h0 h1 => ?_)
          show _ = bt (mkI (pOp K t s) (K 0 0)) b
          rw [bt_mk _ (by omega) h0]
          simp [h1]
        · exact (e12 b).trans (g4 b h0 h1 h1).1
        · exact (e11 b).trans (hB b h0 h1).2.1
        · exact (e13 b).trans ((g4 b h0 h1 h1).2.1 q1 q2 q3)
        · exact (e14 b).trans ((g4 b h0 h1 h1).2.2 q1 q2 q3)
      · rw [hHF, jU_k (by decide), hs1]
        by_cases hi : i = t
        · subst hi
          rw [jU_s, if_pos rfl]
          rfl
        · rw [jU_i hi, if_neg hi, jU_k (by decide), jU_k (by decide), g1 46 (by decide) (by decide) (by decide) (by decide)]
      · rw [hHF, hs1]
        by_cases hi : i = t
        · subst hi
          rw [jU_s, if_pos rfl]
          rfl
        · rw [jU_i hi, if_neg hi, jU_k (by decide), jU_k (by decide), jU_k (by decide), g1 47 (by decide) (by decide) (by decide) (by decide)]
    · exfalso; omega
  · intro i h0 h1 ih Hi g
    rw [hgI] at g
    obtain ⟨g1, g2, g3, g4, g5⟩ := g
    have hbi := hbx i h0 h1
    have hBi := hB i h0 h1
    have hbt := hbits i h0 h1
    obtain ⟨g5a, g5b, g5c⟩ := g5 i (Int.le_refl i)
    have gl : Hi 49 i = s.2.2.1 i := g5a.trans hBi.1
    have nxt : ∀ H2, pOp K t s i = false → gI (i + 1) H2 → jWP E mX1_go (jQv fun H' => cFr 37 H1 H' ∧ cRel 37 H' (t.toNat + 1) ∧ (∀ i, H' 46 i = if i = t then (pS K (t.toNat + 1)).2.1 else H1 46 i) ∧ (∀ i, H' 47 i = if i = t then (pS K (t.toNat + 1)).1 else H1 47 i)) 116 [some (jRF E 37), some (.int (jI t)), some (.int (jI (mkI (pOp K t s) i))), some (.int (jI (nz (pOp K t s) (K 4) i))), some (.int (jI (bXor (bOr s.1 (K 0 5)) (-1)))), some (.int (jI i))] [] H2 := by
      intro H2 ho hg
      have := ih H2 hg
      rw [mkI_s _ h0, nz_s _ _ h0, ho] at this
      simp only [Bool.false_eq_true, if_false, Int.add_zero] at this
      refine j_iinc 119 rfl rfl st_6_5 (by decide) rfl dX1_go_116 ?_
      refine j_goto 31 (by decide) dX1_go_119 ?_
      exact this
    have keep : pOp K t s i = false → (K 1 i = 0 → bt (K 0 5) i = false → 0 < s.2.2.1 i → pTu K t s i = s.2.2.2.1 i) → (K 1 i = 2 → bt (K 0 5) i = false → 0 < s.2.2.1 i → pAl K t s i = s.2.2.2.2 i) → gI (i + 1) Hi := by
      intro ho p1 p2
      rw [hgI]
      refine ⟨g1, g2, g3, fun b b0 b1 b2 => ?_, fun b hb => g5 b (by omega)⟩
      by_cases hbi2 : b = i
      · subst hbi2
        have e1 : (pStep K t s).2.2.1 b = s.2.2.1 b := by show (if pOp K t s b then _ else _) = _; rw [ho]; rfl
        have e2 : (pStep K t s).2.2.2.1 b = pTu K t s b := by show (if pOp K t s b then _ else _) = _; rw [ho]; rfl
        have e3 : (pStep K t s).2.2.2.2 b = pAl K t s b := by show (if pOp K t s b then _ else _) = _; rw [ho]; rfl
        rw [e1, e2, e3]
        refine ⟨gl, fun q1 q2 q3 => ?_, fun q1 q2 q3 => ?_⟩
        · rw [p1 q1 q2 q3, g5b]
          exact hBi.2.2.1 q1 q2 q3
        · rw [p2 q1 q2 q3, g5c]
          exact hBi.2.2.2 q1 q2 q3
      · exact g4 b b0 b1 (by omega)
    refine j_iload 33 rfl rfl dX1_go_31 ?_
    refine j_aload_n 34 rfl rfl dX1_go_33 ?_
    refine g_geti 37 rfl 0 0 rfl fl_X1_9 dX1_go_34 (by decide) ( rfl) ( rfl) ?_
    rw [g2 0 (by omega), k0]
    refine j_icmp_ge 122 40 (by decide) rfl dX1_go_37 (by intro hR; first | omega | exact hR _ _ | exact jb_r _ | exact hR0 _ _ | assumption) (by intro hR; first | omega | exact hR _ _ | exact jb_r _ | exact hR0 _ _ | assumption) (fun h => ?_) (fun h => ?_)
    · exfalso; omega
    · refine j_iload 42 rfl rfl dX1_go_40 ?_
      refine j_iload 44 rfl rfl dX1_go_42 ?_
      refine k_ishr 45 rfl dX1_go_44 ?_
      refine j_iconst 46 rfl dX1_go_45 ?_
      refine k_iand 47 rfl dX1_go_46 ?_
      rw [bt_shr1 (by omega), bt_not (by omega), bt_or]
      cases hu : bt s.1 i with
      | true =>
        simp only [Bool.true_or, Bool.not_true, Bool.false_eq_true, if_false]
        refine j_if_eq 116 50 (by decide) rfl dX1_go_47 (by intro hR; first | omega | exact hR _ _ | exact jb_r _ | exact hR0 _ _ | assumption) (fun h => ?_) (fun h => ?_)
        · refine nxt Hi ?_ (keep ?_ ?_ ?_)
          · unfold pOp; rw [hu]; rfl
          · unfold pOp; rw [hu]; rfl
          · intro _ _ _; unfold pTu; rw [hu]; rfl
          · intro _ _ _; unfold pAl; rw [hu, hal i h0 h1 hu]; rfl
        · exfalso; omega
      | false =>
        cases hl : bt (K 0 5) i with
        | true =>
          simp only [Bool.or_true, Bool.not_true, Bool.false_eq_true, if_false]
          refine j_if_eq 116 50 (by decide) rfl dX1_go_47 (by intro hR; first | omega | exact hR _ _ | exact jb_r _ | exact hR0 _ _ | assumption) (fun h => ?_) (fun h => ?_)
          · refine nxt Hi ?_ (keep ?_ ?_ ?_)
            · unfold pOp; rw [hl]; simp
            · unfold pOp; rw [hl]; simp
            · intro _ q _; rw [hl] at q; cases q
            · intro _ q _; rw [hl] at q; cases q
          · exfalso; omega
        | false =>
          simp only [Bool.or_false, Bool.not_false, if_true]
          refine j_if_eq 116 50 (by decide) rfl dX1_go_47 (by intro hR; first | omega | exact hR _ _ | exact jb_r _ | exact hR0 _ _ | assumption) (fun h => ?_) (fun h => ?_)
          · exfalso; omega
          · refine j_aload_n 51 rfl rfl dX1_go_50 ?_
            refine j_getr 54 rfl 10 fl_X1_45 dX1_go_51 (by decide) ( rfl) ( rfl) ?_
            refine j_iload 56 rfl rfl dX1_go_54 ?_
            refine j_iald 57 rfl dX1_go_56 (by decide) rfl (by decide) rfl (by omega) ?_
            rw [gl]
            refine j_if_le 116 60 (by decide) rfl dX1_go_57 (by intro hR; first | omega | exact hR _ _ | exact jb_r _ | exact hR0 _ _ | assumption) (fun h2 => ?_) (fun h2 => ?_)
            · refine nxt Hi ?_ (keep ?_ ?_ ?_)
              · unfold pOp; simp; intro _ _ q; omega
              · unfold pOp; simp; intro _ _ q; omega
              · intro _ _ q; omega
              · intro _ _ q; omega
            · have hOp : pOp K t s i = pLw K t s i := by unfold pOp; rw [hu, hl]; simp [h2]
              have hi9 : 0 ≤ i ∧ i < 9 := by omega
              have r1 : Hi 38 i = K 1 i := by rw [g1 38 (by decide) (by decide) (by decide) (by decide)]; exact k1 i
              have r2 : Hi 39 i = K 2 i := by rw [g1 39 (by decide) (by decide) (by decide) (by decide)]; exact k2 i
              have r6 : Hi 43 t = K 6 t := by rw [g1 43 (by decide) (by decide) (by decide) (by decide)]; exact k6 t
              have r7 : Hi 44 t = K 7 t := by rw [g1 44 (by decide) (by decide) (by decide) (by decide)]; exact k7 t
              have hTu : pTu K t s i = if bt (K 6 t) i then s.2.2.2.1 i + 1 else s.2.2.2.1 i := by unfold pTu; rw [hu, hl]; simp
              have hAl : pAl K t s i = if bt (K 7 t) i then 0 else s.2.2.2.2 i + 1 := by
                unfold pAl
                rw [hu]
                cases bt (K 7 t) i <;> simp
              have hcall : jOk E mX1_opensByLaw [jRF E 37, .int (jI i), .int (jI t)] Hi (jQi fun r H2 => ((r = 1 ∧ pLw K t s i = true) ∨ (r = 0 ∧ pLw K t s i = false)) ∧ (∀ k, k ≠ 50 → k ≠ 51 → H2 k = Hi k) ∧ (∀ j, j ≠ i → H2 50 j = Hi 50 j ∧ H2 51 j = Hi 51 j) ∧ (K 1 i = 0 → H2 50 i = pTu K t s i) ∧ (K 1 i = 2 → H2 51 i = pAl K t s i)) := by
                rcases (show K 1 i = 0 ∨ K 1 i = 1 ∨ K 1 i = 2 ∨ K 1 i = 3 ∨ K 1 i = 4 by omega) with hL | hL | hL | hL | hL
                · have hT : Hi 50 i = s.2.2.2.1 i := g5b.trans (hBi.2.2.1 hL hl h2)
                  refine (s_law0_37 hi9 ht (r1.trans hL) (by omega)).moni (fun r H2 q => ?_)
                  rw [r6, r2, hT] at q
                  have hLw : pLw K t s i = (bt (K 6 t) i && decide (pTu K t s i = K 2 i)) := by unfold pLw; rw [if_pos hL]
                  rcases q with ⟨q1, q2, q3⟩ | ⟨q1, q2, q3⟩
                  · refine ⟨Or.inr ⟨q2, by rw [hLw, q1]; rfl⟩, fun k _ _ => by rw [q3], fun j _ => by rw [q3]; exact ⟨rfl, rfl⟩, fun _ => by rw [q3, hT, hTu, q1]; rfl, fun q => by omega⟩
                  · rw [q1, if_pos rfl] at hTu
                    refine ⟨?_, fun k a b => by rw [q3, jU_o a], fun j hj => by rw [q3, jU_i hj, jU_k (by decide)]; exact ⟨rfl, rfl⟩, fun _ => by rw [q3, jU_s, hTu], fun q => by omega⟩
                    rw [hLw, q1, hTu]
                    simp
                    omega
                · refine (s_law1_37 hi9 ht (r1.trans hL)).moni (fun r H2 q => ?_)
                  have e15 : Hi 37 15 = nz (bt s.2.1) (K 4) (K 0 0) := (g2 15 (by omega)).trans hO
                  have e11 : Hi 48 i = rch (K 4 i) (K 2 i) := by rw [g1 48 (by decide) (by decide) (by decide) (by decide)]; exact hBi.2.1
                  rw [e15, e11] at q
                  have hLw : pLw K t s i = pNr K s.2.1 i := by unfold pLw; rw [if_neg (by omega), if_pos hL]
                  have hno := near_ok ok (o := s.2.1) h0 h1
                  obtain ⟨q1, q2⟩ := q
                  subst q1
                  refine ⟨?_, fun k _ _ => rfl, fun j _ => ⟨rfl, rfl⟩, fun q => by omega, fun q => by omega⟩
                  rw [hLw]
                  rcases q2 with ⟨q2, q3⟩ | ⟨q2, q3⟩
                  · exact Or.inl ⟨q2, hno.mp q3⟩
                  · refine Or.inr ⟨q2, ?_⟩
                    cases hp : pNr K s.2.1 i with
                    | false => rfl
                    | true => exact absurd q3 (hno.mpr hp)
                · have hT : Hi 51 i = s.2.2.2.2 i := g5c.trans (hBi.2.2.2 hL hl h2)
                  refine (s_law2_37 hi9 ht (r1.trans hL) (by omega)).moni (fun r H2 q => ?_)
                  rw [r7, r2, hT] at q
                  have hLw : pLw K t s i = decide (K 2 i ≤ pAl K t s i) := by unfold pLw; rw [if_neg (by omega), if_neg (by omega), if_pos hL]
                  rcases q with ⟨q1, q2, q3⟩ | ⟨q1, q2, q3⟩
                  · rw [q1, if_pos rfl] at hAl
                    refine ⟨?_, fun k a b => by rw [q3, jU_o b], fun j hj => by rw [q3, jU_k (by decide), jU_i hj]; exact ⟨rfl, rfl⟩, fun q => by omega, fun _ => by rw [q3, jU_s, hAl]⟩
                    rw [hLw, hAl]
                    simp
                    omega
                  · rw [q1, if_neg (by simp)] at hAl
                    refine ⟨?_, fun k a b => by rw [q3, jU_o b], fun j hj => by rw [q3, jU_k (by decide), jU_i hj]; exact ⟨rfl, rfl⟩, fun q => by omega, fun _ => by rw [q3, jU_s, hAl]⟩
                    rw [hLw, hAl]
                    simp
                    omega
                · refine (s_law3_37 hi9 ht (r1.trans hL)).moni (fun r H2 q => ?_)
                  rw [g3, r2] at q
                  have hLw : pLw K t s i = decide (K 2 i ≤ oc s.1) := by unfold pLw; rw [if_neg (by omega), if_neg (by omega), if_neg (by omega), if_pos hL]
                  obtain ⟨q1, q2⟩ := q
                  subst q1
                  refine ⟨?_, fun k _ _ => rfl, fun j _ => ⟨rfl, rfl⟩, fun q => by omega, fun q => by omega⟩
                  rw [hLw]
                  simp
                  omega
                · refine (s_law4_37 hi9 ht (r1.trans hL)).moni (fun r H2 q => ?_)
                  have hLw : pLw K t s i = false := by unfold pLw; rw [if_neg (by omega), if_neg (by omega), if_neg (by omega), if_neg (by omega)]
                  obtain ⟨q1, q2⟩ := q
                  subst q1
                  exact ⟨Or.inr ⟨q2, hLw⟩, fun k _ _ => rfl, fun j _ => ⟨rfl, rfl⟩, fun q => by omega, fun q => by omega⟩
              refine j_aload_n 61 rfl rfl dX1_go_60 ?_
              refine j_iload 63 rfl rfl dX1_go_61 ?_
              refine j_iload_n 64 rfl rfl dX1_go_63 ?_
              refine jV2i 67 rfl dX1_go_64 lk_X1_112 rfl rfl (by decide) ( rfl) ( rfl) (hcall) (fun r H2 ⟨hr, f1, f2, f3, f4⟩ => ?_)
              refine j_if_eq 116 70 (by decide) rfl dX1_go_67 (by intro hR; first | omega | exact hR _ _ | exact jb_r _ | exact hR0 _ _ | assumption) (fun h3 => ?_) (fun h3 => ?_)
              · have ho : pOp K t s i = false := by
                  rw [hOp]
                  rcases hr with ⟨q1, q2⟩ | ⟨q1, q2⟩
                  · omega
                  · exact q2
                refine nxt H2 ho ?_
                rw [hgI]
                refine ⟨fun k a1 a2 a3 a4 => (f1 k a3 a4).trans (g1 k a1 a2 a3 a4), fun j hj => by rw [f1 37 (by decide) (by decide)]; exact g2 j hj, by rw [f1 37 (by decide) (by decide)]; exact g3, fun b b0 b1 b2 => ?_, fun b hb => ?_⟩
                · by_cases hbi2 : b = i
                  · subst hbi2
                    have e1 : (pStep K t s).2.2.1 b = s.2.2.1 b := by show (if pOp K t s b then _ else _) = _; rw [ho]; rfl
                    have e2 : (pStep K t s).2.2.2.1 b = pTu K t s b := by show (if pOp K t s b then _ else _) = _; rw [ho]; rfl
                    have e3 : (pStep K t s).2.2.2.2 b = pAl K t s b := by show (if pOp K t s b then _ else _) = _; rw [ho]; rfl
                    rw [e1, e2, e3, f1 49 (by decide) (by decide)]
                    exact ⟨gl, fun q1 _ _ => f3 q1, fun q1 _ _ => f4 q1⟩
                  · rw [f1 49 (by decide) (by decide), (f2 b hbi2).1, (f2 b hbi2).2]
                    exact g4 b b0 b1 (by omega)
                · rw [f1 49 (by decide) (by decide), (f2 b (by omega)).1, (f2 b (by omega)).2]
                  exact g5 b (by omega)
              · have ho : pOp K t s i = true := by
                  rw [hOp]
                  rcases hr with ⟨q1, q2⟩ | ⟨q1, q2⟩
                  · exact q2
                  · omega
                have e12 : H2 49 i = s.2.2.1 i := by rw [f1 49 (by decide) (by decide)]; exact gl
                have e4 : H2 41 i = K 4 i := by rw [f1 41 (by decide) (by decide), g1 41 (by decide) (by decide) (by decide) (by decide)]; exact k4 i
                refine j_aload_n 71 rfl rfl dX1_go_70 ?_
                refine j_getr 74 rfl 10 fl_X1_45 dX1_go_71 (by decide) ( rfl) ( rfl) ?_
                refine j_iload 76 rfl rfl dX1_go_74 ?_
                refine j_dup2 77 rfl rfl rfl dX1_go_76 ?_
                refine j_iald 78 rfl dX1_go_77 (by decide) rfl (by decide) rfl (by omega) ?_
                rw [e12]
                refine j_iconst 79 rfl dX1_go_78 ?_
                refine j_isub 80 rfl dX1_go_79 ?_
                refine j_iast 81 rfl dX1_go_80 (by decide) rfl (by decide) rfl (by omega) (by intro hR; first | omega | exact hR _ _ | exact jb_r _ | exact hR0 _ _ | assumption) ?_
                refine j_aload_n 82 rfl rfl dX1_go_81 ?_
                refine j_getr 85 rfl 11 fl_X1_48 dX1_go_82 (by decide) ( rfl) ( rfl) ?_
                refine j_iload 87 rfl rfl dX1_go_85 ?_
                refine j_iconst 88 rfl dX1_go_87 ?_
                refine j_iast 89 rfl dX1_go_88 (by decide) rfl (by decide) rfl (by omega) (by intro hR; first | omega | exact hR _ _ | exact jb_r _ | exact hR0 _ _ | assumption) ?_
                refine j_aload_n 90 rfl rfl dX1_go_89 ?_
                refine j_getr 93 rfl 12 fl_X1_51 dX1_go_90 (by decide) ( rfl) ( rfl) ?_
                refine j_iload 95 rfl rfl dX1_go_93 ?_
                refine j_iconst 96 rfl dX1_go_95 ?_
                refine j_iast 97 rfl dX1_go_96 (by decide) rfl (by decide) rfl (by omega) (by intro hR; first | omega | exact hR _ _ | exact jb_r _ | exact hR0 _ _ | assumption) ?_
                refine j_iload_n 98 rfl rfl dX1_go_97 ?_
                refine j_iconst 99 rfl dX1_go_98 ?_
                refine j_iload 101 rfl rfl dX1_go_99 ?_
                refine k_ishl 102 rfl dX1_go_101 ?_
                refine k_ior 103 rfl dX1_go_102 ?_
                refine j_istore_n 104 rfl st_6_2 (by decide) rfl dX1_go_103 ?_
                refine j_iload_n 105 rfl rfl dX1_go_104 ?_
                refine j_iconst 106 rfl dX1_go_105 ?_
                refine j_aload_n 107 rfl rfl dX1_go_106 ?_
                refine j_getr 110 rfl 4 fl_X1_25 dX1_go_107 (by decide) ( rfl) ( rfl) ?_
                refine j_iload 112 rfl rfl dX1_go_110 ?_
                refine j_iald 113 rfl dX1_go_112 (by decide) rfl (by decide) rfl (by omega) ?_
                rw [jU_k (by decide), jU_k (by decide), jU_k (by decide), e4]
                refine k_ishl 114 rfl dX1_go_113 ?_
                refine k_ior 115 rfl dX1_go_114 ?_
                refine j_istore_n 116 rfl st_6_3 (by decide) rfl dX1_go_115 ?_
                have := ih (jU (jU (jU H2 49 i (s.2.2.1 i - 1)) 50 i 0) 51 i 0) ?_
                · rw [mkI_s _ h0, nz_s _ _ h0, ho] at this
                  simp only [if_true] at this
                  rw [← mkI_or (pOp K t s) (by omega)] at this
                  refine j_iinc 119 rfl rfl st_6_5 (by decide) rfl dX1_go_116 ?_
                  refine j_goto 31 (by decide) dX1_go_119 ?_
                  exact this
                · rw [hgI]
                  refine ⟨fun k a1 a2 a3 a4 => ?_, fun j hj => ?_, ?_, fun b b0 b1 b2 => ?_, fun b hb => ?_⟩
                  · rw [jU_o a4, jU_o a3, jU_o a2, f1 k a3 a4]
                    exact g1 k a1 a2 a3 a4
                  · rw [jU_k (by decide), jU_k (by decide), jU_k (by decide), f1 37 (by decide) (by decide)]
                    exact g2 j hj
                  · rw [jU_k (by decide), jU_k (by decide), jU_k (by decide), f1 37 (by decide) (by decide)]
                    exact g3
                  · by_cases hbi2 : b = i
                    · subst hbi2
                      have e1 : (pStep K t s).2.2.1 b = s.2.2.1 b - 1 := by show (if pOp K t s b then _ else _) = _; rw [ho]; rfl
                      have e2 : (pStep K t s).2.2.2.1 b = 0 := by show (if pOp K t s b then _ else _) = _; rw [ho]; rfl
                      have e3 : (pStep K t s).2.2.2.2 b = 0 := by show (if pOp K t s b then _ else _) = _; rw [ho]; rfl
                      rw [e1, e2, e3, jU_k (by decide), jU_k (by decide), jU_s, jU_k (by decide), jU_s, jU_s]
                      exact ⟨rfl, fun _ _ _ => rfl, fun _ _ _ => rfl⟩
                    · rw [jU_k (by decide), jU_k (by decide), jU_i hbi2, jU_k (by decide), jU_i hbi2, jU_k (by decide), jU_i hbi2, jU_k (by decide), jU_k (by decide), f1 49 (by decide) (by decide), (f2 b hbi2).1, (f2 b hbi2).2]
                      exact g4 b b0 b1 (by omega)
                  · have hbi2 : b ≠ i := by omega
                    rw [jU_k (by decide), jU_k (by decide), jU_i hbi2, jU_k (by decide), jU_i hbi2, jU_k (by decide), jU_i hbi2, jU_k (by decide), jU_k (by decide), f1 49 (by decide) (by decide), (f2 b hbi2).1, (f2 b hbi2).2]
                    exact g5 b (by omega)
end S15
