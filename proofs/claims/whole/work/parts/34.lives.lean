/-! ===== the reference: lives ===== -/
def bI (x : Bool) : Int := if x then 1 else 0
theorem bI_r (x : Bool) : 0 ≤ bI x ∧ bI x ≤ 1 := by cases x <;> decide
theorem bI_1 {x : Bool} : bI x = 1 ↔ x = true := by cases x <;> decide
theorem bI_0 {x : Bool} : bI x = 0 ↔ x = false := by cases x <;> decide
theorem bOr_0 {x : Int} (h : -2147483648 ≤ x ∧ x ≤ 2147483647) : bOr x 0 = x := by
  apply bt_ext (jb_r _) h
  intro b b0 b1
  show bt (bOr x 0) b = bt x b
  rw [bt_or, bt_0, Bool.or_false]
def holdM (H K : jH) : Prop := H 56 8 = K 0 0 ∧ H 56 21 = K 0 5 ∧ (∀ b, 0 ≤ b → b < K 0 0 → H 70 b = K 1 b ∧ H 71 b = K 2 b ∧ H 62 (3 * b + 2) = K 3 b ∧ H 69 b = K 4 b) ∧ (∀ t, 0 ≤ t → t < 60 → H 65 (3 * t) = K 6 t ∧ H 65 (3 * t + 1) = K 7 t ∧ H 65 (3 * t + 2) = K 8 t)
theorem holdM.cong {H H' K : jH} (h : holdM H K) (f : ∀ k, (k = 56 ∨ k = 62 ∨ k = 65 ∨ k = 69 ∨ k = 70 ∨ k = 71) → H' k = H k) : holdM H' K := by
  unfold holdM
  rw [f 56 (by decide), f 62 (by decide), f 65 (by decide), f 69 (by decide), f 70 (by decide), f 71 (by decide)]
  exact h
/-- the springs before step t -/
def sprM (H : jH) (t b : Int) : Int := if t = 0 then H 62 (3 * b + 2) else H 68 (9 * (t - 1) + b)
def mRel (H K : jH) (t : Int) : Prop := (∀ b, 0 ≤ b → b < K 0 0 → H 72 b = (pS K t.toNat).2.2.2.1 b ∧ H 73 b = (pS K t.toNat).2.2.2.2 b ∧ sprM H t b = (pS K t.toNat).2.2.1 b) ∧ (0 < t → H 66 (t - 1) = (pS K t.toNat).2.1 ∧ H 67 (t - 1) = (pS K t.toNat).1)
theorem pTu_i (K : jH) (t : Int) (s : pT) (b : Int) : (bI (bt s.1 b) = 0 ∧ bI (bt (K 6 t) b) = 1 ∧ bI (bt (K 0 5) b) = 0 → pTu K t s b = s.2.2.2.1 b + 1) ∧ (¬ (bI (bt s.1 b) = 0 ∧ bI (bt (K 6 t) b) = 1 ∧ bI (bt (K 0 5) b) = 0) → pTu K t s b = s.2.2.2.1 b) := by
  unfold pTu
  cases bt s.1 b <;> cases bt (K 6 t) b <;> cases bt (K 0 5) b <;> simp [bI]
theorem pAl_i (K : jH) (t : Int) (s : pT) (b : Int) : (bI (bt s.1 b) = 0 ∧ bI (bt (K 7 t) b) = 0 → pAl K t s b = s.2.2.2.2 b + 1) ∧ (¬ (bI (bt s.1 b) = 0 ∧ bI (bt (K 7 t) b) = 0) → pAl K t s b = 0) := by
  unfold pAl
  cases bt s.1 b <;> cases bt (K 7 t) b <;> simp [bI]
theorem pOp_i (K : jH) (t : Int) (s : pT) (b : Int) : bI (pOp K t s b) = 1 ↔ (bI (bt s.1 b) = 0 ∧ bI (bt (K 0 5) b) = 0 ∧ 0 < s.2.2.1 b ∧ bI (pLw K t s b) = 1) := by
  unfold pOp
  by_cases h : 0 < s.2.2.1 b <;> cases bt s.1 b <;> cases bt (K 0 5) b <;> cases pLw K t s b <;> simp [bI, h]
section S34
variable {E : jE} {H K : jH}
theorem m_isInI {x b : Int} (hb : 0 ≤ b ∧ b < 32) : jOk E mX5_isIn [.int (jI x), .int (jI b)] H (jQi fun r H' => H' = H ∧ r = bI (bt x b)) := (m_isIn hb).moni (fun r H' h => by
  obtain ⟨h1, h2⟩ := h
  refine ⟨h1, ?_⟩
  rcases h2 with ⟨a, b⟩ | ⟨a, b⟩ <;> rw [a, b] <;> rfl)
-- X5_springAt
theorem m_springAt {t b : Int} (ht : 0 ≤ t ∧ t < 60) (hb : 0 ≤ b ∧ b < 9) : jOk E mX5_springAt [jRF E 56, .int (jI (t - 1)), .int (jI b)] H (jQi fun r H' => H' = H ∧ r = sprM H t b) := by
  unfold sprM
  refine jOk.rng (fun hR0 => ?_)
  refine jOk.ofe rfl (Nat.le_of_ble_eq_true rfl) (en_aii_3 (E := E)) ?_
  refine j_iload_n 1 rfl rfl dX5_springAt_0 ?_
  refine j_if_ge 17 4 (by decide) rfl dX5_springAt_1 (by intro hR; first | omega | exact hR _ _ | exact jb_r _ | exact hR0 _ _ | assumption) (fun h1 => ?_) (fun h1 => ?_)
  · refine j_aload_n 18 rfl rfl dX5_springAt_17 ?_
    refine j_getr 21 rfl 17 fl_X5_43 dX5_springAt_18 (by decide) ( rfl) ( rfl) ?_
    refine j_bipush 23 rfl rfl dX5_springAt_21 ?_
    refine j_iload_n 24 rfl rfl dX5_springAt_23 ?_
    refine j_imul 25 rfl dX5_springAt_24 ?_
    refine j_iload_n 26 rfl rfl dX5_springAt_25 ?_
    refine j_iadd 27 rfl dX5_springAt_26 ?_
    refine j_iald 28 rfl dX5_springAt_27 (by decide) rfl (by decide) rfl (by omega) ?_
    refine j_ireti dX5_springAt_28 rfl ?_
    refine ⟨rfl, ?_⟩
    first | rw [if_pos (by omega)] | rw [if_neg (by omega)]
  · refine j_aload_n 5 rfl rfl dX5_springAt_4 ?_
    refine j_getr 8 rfl 9 fl_X5_25 dX5_springAt_5 (by decide) ( rfl) ( rfl) ?_
    refine j_iconst 9 rfl dX5_springAt_8 ?_
    refine j_iload_n 10 rfl rfl dX5_springAt_9 ?_
    refine j_imul 11 rfl dX5_springAt_10 ?_
    refine j_iconst 12 rfl dX5_springAt_11 ?_
    refine j_iadd 13 rfl dX5_springAt_12 ?_
    refine j_iald 14 rfl dX5_springAt_13 (by decide) rfl (by decide) rfl (by omega) ?_
    refine j_goto 28 (by decide) dX5_springAt_14 ?_
    refine j_ireti dX5_springAt_28 rfl ?_
    refine ⟨rfl, ?_⟩
    first | rw [if_pos (by omega)] | rw [if_neg (by omega)]
-- X5_isNear
theorem m_isNear {b o : Int} (hm : holdM H K) (ok : cOk K) (hb : 0 ≤ b ∧ b < K 0 0) : jOk E mX5_isNear [jRF E 56, .int (jI b), .int (jI o)] H (jQi fun r H' => H' = H ∧ r = bI (pNr K o b)) := by
  obtain ⟨m1, m2, m3, m4⟩ := hm
  have hn := ok.1
  obtain ⟨f, hf⟩ : ∃ f : Int → Bool, f = fun c => decide (c ≠ b) && bt o c && decide (K 4 b - K 4 c ≤ K 2 b ∧ K 4 c - K 4 b ≤ K 2 b) := ⟨_, rfl⟩
  have ep : pNr K o b = anyI f (K 0 0) := by rw [hf]; rfl
  rw [ep]
  refine jOk.rng (fun hR0 => ?_)
  refine jOk.ofe rfl (Nat.le_of_ble_eq_true rfl) (en_aii_5 (E := E)) ?_
  refine j_iconst 1 rfl dX5_isNear_0 ?_
  refine j_istore_n 2 rfl st_5_3 (by decide) rfl dX5_isNear_1 ?_
  refine j_iconst 3 rfl dX5_isNear_2 ?_
  refine j_istore 5 rfl st_5_4 (by decide) rfl dX5_isNear_3 ?_
  have loop := jUp 0 (K 0 0) (fun c => jWP E mX5_isNear (jQi fun r H' => H' = H ∧ r = bI (anyI f (K 0 0))) 5 [some (jRF E 56), some (.int (jI b)), some (.int (jI o)), some (.int (jI (bI (anyI f c)))), some (.int (jI c))] [] H) ?_ ?_ 0 (by omega) (by omega)
  · exact loop
  · refine j_iload 7 rfl rfl dX5_isNear_5 ?_
    refine j_aload_n 8 rfl rfl dX5_isNear_7 ?_
    refine g_geti 11 rfl 8 8 rfl fl_X5_109 dX5_isNear_8 (by decide) ( rfl) ( rfl) ?_
    rw [m1]
    refine j_icmp_ge 71 14 (by decide) rfl dX5_isNear_11 (by intro hR; first | omega | exact hR _ _ | exact jb_r _ | exact hR0 _ _ | assumption) (by intro hR; first | omega | exact hR _ _ | exact jb_r _ | exact hR0 _ _ | assumption) (fun h1 => ?_) (fun h1 => ?_)
    · refine j_iload_n 72 rfl rfl dX5_isNear_71 ?_
      have := bI_r (anyI f (K 0 0))
      refine j_zreti dX5_isNear_72 rfl (by first | decide | omega) ?_
      exact ⟨rfl, rfl⟩
    · exfalso; omega
  · intro c c0 c1 ih
    have hA : bI (anyI f (c + 1)) = 1 ↔ (bI (anyI f c) = 1 ∨ (c ≠ b ∧ bI (bt o c) = 1 ∧ K 4 b - K 4 c ≤ K 2 b ∧ K 4 c - K 4 b ≤ K 2 b)) := by
      have ef : f c = (decide (c ≠ b) && bt o c && decide (K 4 b - K 4 c ≤ K 2 b ∧ K 4 c - K 4 b ≤ K 2 b)) := by rw [hf]
      rw [anyI_s _ c0, ef]
      generalize anyI f c = A
      generalize bt o c = B
      by_cases e1 : c = b <;> by_cases e2 : K 4 b - K 4 c ≤ K 2 b ∧ K 4 c - K 4 b ≤ K 2 b <;> cases A <;> cases B <;> simp [bI, e1, e2]
    have r1 := bI_r (anyI f c)
    have r2 := bI_r (anyI f (c + 1))
    have r3 := bI_r (bt o c)
    obtain ⟨_, g2, _, g4⟩ := m3 b hb.1 hb.2
    obtain ⟨_, _, _, g5⟩ := m3 c c0 c1
    have o3 := ok.2.2.1 b hb.1 hb.2
    have o4 := ok.2.2.1 c c0 c1
    have nx : ∀ x, x = bI (anyI f (c + 1)) → jWP E mX5_isNear (jQi fun r H' => H' = H ∧ r = bI (anyI f (K 0 0))) 65 [some (jRF E 56), some (.int (jI b)), some (.int (jI o)), some (.int (jI x)), some (.int (jI c))] [] H := by
      intro x hx
      subst hx
      refine j_iinc 68 rfl rfl st_5_4 (by decide) rfl dX5_isNear_65 ?_
      refine j_goto 5 (by decide) dX5_isNear_68 ?_
      exact ih
    refine j_iload 7 rfl rfl dX5_isNear_5 ?_
    refine j_aload_n 8 rfl rfl dX5_isNear_7 ?_
    refine g_geti 11 rfl 8 8 rfl fl_X5_109 dX5_isNear_8 (by decide) ( rfl) ( rfl) ?_
    rw [m1]
    refine j_icmp_ge 71 14 (by decide) rfl dX5_isNear_11 (by intro hR; first | omega | exact hR _ _ | exact jb_r _ | exact hR0 _ _ | assumption) (by intro hR; first | omega | exact hR _ _ | exact jb_r _ | exact hR0 _ _ | assumption) (fun h1 => ?_) (fun h1 => ?_)
    · exfalso; omega
    · refine j_iload_n 15 rfl rfl dX5_isNear_14 ?_
      refine j_if_ne 59 18 (by decide) rfl dX5_isNear_15 (by intro hR; first | omega | exact hR _ _ | exact jb_r _ | exact hR0 _ _ | assumption) (fun h15 => ?_) (fun h15 => ?_)
      · refine j_iconst 60 rfl dX5_isNear_59 ?_
        refine j_goto 64 (by decide) dX5_isNear_60 ?_
        refine j_istore_n 65 rfl st_5_3 (by decide) rfl dX5_isNear_64 ?_
        exact nx _ (by omega)
      · refine j_iload 20 rfl rfl dX5_isNear_18 ?_
        refine j_iload_n 21 rfl rfl dX5_isNear_20 ?_
        refine j_icmp_eq 63 24 (by decide) rfl dX5_isNear_21 (by intro hR; first | omega | exact hR _ _ | exact jb_r _ | exact hR0 _ _ | assumption) (by intro hR; first | omega | exact hR _ _ | exact jb_r _ | exact hR0 _ _ | assumption) (fun h21 => ?_) (fun h21 => ?_)
        · refine j_iconst 64 rfl dX5_isNear_63 ?_
          refine j_istore_n 65 rfl st_5_3 (by decide) rfl dX5_isNear_64 ?_
          exact nx _ (by omega)
        · refine j_iload_n 25 rfl rfl dX5_isNear_24 ?_
          refine j_iload 27 rfl rfl dX5_isNear_25 ?_
          refine jS2i 30 rfl dX5_isNear_27 lk_X5_157 rfl rfl (m_isInI (by omega)) (fun r27 H1 ⟨eh_, hr27⟩ => ?_)
          obtain rfl := eh_.symm
          refine j_if_eq 63 33 (by decide) rfl dX5_isNear_30 (by intro hR; first | omega | exact hR _ _ | exact jb_r _ | exact hR0 _ _ | assumption) (fun h30 => ?_) (fun h30 => ?_)
          · refine j_iconst 64 rfl dX5_isNear_63 ?_
            refine j_istore_n 65 rfl st_5_3 (by decide) rfl dX5_isNear_64 ?_
            exact nx _ (by omega)
          · refine j_aload_n 34 rfl rfl dX5_isNear_33 ?_
            refine j_getr 37 rfl 18 fl_X5_46 dX5_isNear_34 (by decide) ( rfl) ( rfl) ?_
            refine j_iload_n 38 rfl rfl dX5_isNear_37 ?_
            refine j_iald 39 rfl dX5_isNear_38 (by decide) rfl (by decide) rfl (by omega) ?_
            refine j_aload_n 40 rfl rfl dX5_isNear_39 ?_
            refine j_getr 43 rfl 18 fl_X5_46 dX5_isNear_40 (by decide) ( rfl) ( rfl) ?_
            refine j_iload 45 rfl rfl dX5_isNear_43 ?_
            refine j_iald 46 rfl dX5_isNear_45 (by decide) rfl (by decide) rfl (by omega) ?_
            refine j_isub 47 rfl dX5_isNear_46 ?_
            refine jS1i 50 rfl dX5_isNear_47 lk_X5_161 rfl rfl (m_amount (by omega)) (fun r47 H1 ⟨eh_, hr47⟩ => ?_)
            obtain rfl := eh_.symm
            refine j_aload_n 51 rfl rfl dX5_isNear_50 ?_
            refine j_getr 54 rfl 20 fl_X5_52 dX5_isNear_51 (by decide) ( rfl) ( rfl) ?_
            refine j_iload_n 55 rfl rfl dX5_isNear_54 ?_
            refine j_iald 56 rfl dX5_isNear_55 (by decide) rfl (by decide) rfl (by omega) ?_
            refine j_icmp_gt 63 59 (by decide) rfl dX5_isNear_56 (by intro hR; first | omega | exact hR _ _ | exact jb_r _ | exact hR0 _ _ | assumption) (by intro hR; first | omega | exact hR _ _ | exact jb_r _ | exact hR0 _ _ | assumption) (fun h56 => ?_) (fun h56 => ?_)
            · refine j_iconst 64 rfl dX5_isNear_63 ?_
              refine j_istore_n 65 rfl st_5_3 (by decide) rfl dX5_isNear_64 ?_
              exact nx _ (by omega)
            · refine j_iconst 60 rfl dX5_isNear_59 ?_
              refine j_goto 64 (by decide) dX5_isNear_60 ?_
              refine j_istore_n 65 rfl st_5_3 (by decide) rfl dX5_isNear_64 ?_
              exact nx _ (by omega)
-- X5_opensNow
theorem m_opensNow {t b : Int} (hm : holdM H K) (ok : cOk K) (ht : 0 ≤ t ∧ t < 60) (hb : 0 ≤ b ∧ b < K 0 0) (h72 : H 72 b = pTu K t (pS K t.toNat) b) (h73 : H 73 b = pAl K t (pS K t.toNat) b) (hp : 0 < t → H 66 (t - 1) = (pS K t.toNat).2.1 ∧ H 67 (t - 1) = (pS K t.toNat).1) : jOk E mX5_opensNow [jRF E 56, .int (jI t), .int (jI b)] H (jQi fun r H' => H' = H ∧ r = bI (pLw K t (pS K t.toNat) b)) := by
  have hm0 := hm
  obtain ⟨m1, m2, m3, m4⟩ := hm
  have hn := ok.1
  obtain ⟨g1, g2, g3, g4⟩ := m3 b hb.1 hb.2
  obtain ⟨e6, e7, e8⟩ := m4 t ht.1 ht.2
  have o3 := ok.2.2.1 b hb.1 hb.2
  have hU := pS_U hn t.toNat
  have hO := pS_O hn t.toNat
  have htr := pS_tr (K := K) (b := b) t.toNat
  have hTu := pTu_i K t (pS K t.toNat) b
  have hAl := pAl_i K t (pS K t.toNat) b
  have rd := bI_r (bt (K 6 t) b)
  have hoc := oc_r (pS K t.toNat).1
  have z0 : t = 0 → (pS K t.toNat).2.1 = 0 ∧ (pS K t.toNat).1 = 0 := fun e => by rw [e]; exact ⟨rfl, rfl⟩
  unfold pLw
  rcases (show K 1 b = 0 ∨ K 1 b = 1 ∨ K 1 b = 2 ∨ K 1 b = 3 ∨ K 1 b = 4 by omega) with q | q | q | q | q
  · rw [if_pos q]
    have hB : bI (bt (K 6 t) b && decide (pTu K t (pS K t.toNat) b = K 2 b)) = 1 ↔ (bI (bt (K 6 t) b) = 1 ∧ pTu K t (pS K t.toNat) b = K 2 b) := by
      cases bt (K 6 t) b <;> by_cases e : pTu K t (pS K t.toNat) b = K 2 b <;> simp [bI, e]
    have rB := bI_r (bt (K 6 t) b && decide (pTu K t (pS K t.toNat) b = K 2 b))
    refine jOk.rng (fun hR0 => ?_)
    refine jOk.ofe rfl (Nat.le_of_ble_eq_true rfl) (en_aii_4 (E := E)) ?_
    refine j_aload_n 1 rfl rfl dX5_opensNow_0 ?_
    refine j_getr 4 rfl 20 fl_X5_52 dX5_opensNow_1 (by decide) ( rfl) ( rfl) ?_
    refine j_iload_n 5 rfl rfl dX5_opensNow_4 ?_
    refine j_iald 6 rfl dX5_opensNow_5 (by decide) rfl (by decide) rfl (by omega) ?_
    refine j_istore_n 7 rfl st_4_3 (by decide) rfl dX5_opensNow_6 ?_
    refine j_aload_n 8 rfl rfl dX5_opensNow_7 ?_
    refine j_getr 11 rfl 19 fl_X5_49 dX5_opensNow_8 (by decide) ( rfl) ( rfl) ?_
    refine j_iload_n 12 rfl rfl dX5_opensNow_11 ?_
    refine j_iald 13 rfl dX5_opensNow_12 (by decide) rfl (by decide) rfl (by omega) ?_
    rw [g1, q, g2]
    refine j_tabIn 44 dX5_opensNow_13 (by omega) (by omega) (by rfl) (by decide) ?_
    refine j_aload_n 45 rfl rfl dX5_opensNow_44 ?_
    refine j_getr 48 rfl 14 fl_X5_34 dX5_opensNow_45 (by decide) ( rfl) ( rfl) ?_
    refine j_iconst 49 rfl dX5_opensNow_48 ?_
    refine j_iload_n 50 rfl rfl dX5_opensNow_49 ?_
    refine j_imul 51 rfl dX5_opensNow_50 ?_
    refine j_iald 52 rfl dX5_opensNow_51 (by decide) rfl (by decide) rfl (by omega) ?_
    rw [e6]
    refine j_iload_n 53 rfl rfl dX5_opensNow_52 ?_
    refine jS2i 56 rfl dX5_opensNow_53 lk_X5_157 rfl rfl (m_isInI (by omega)) (fun r53 H1 ⟨eh_, hr53⟩ => ?_)
    obtain rfl := eh_.symm
    refine j_if_eq 73 59 (by decide) rfl dX5_opensNow_56 (by intro hR; first | omega | exact hR _ _ | exact jb_r _ | exact hR0 _ _ | assumption) (fun h56 => ?_) (fun h56 => ?_)
    · refine j_iconst 74 rfl dX5_opensNow_73 ?_
      refine j_zreti dX5_opensNow_74 rfl (by first | decide | omega) ?_
      exact ⟨rfl, by omega⟩
    · refine j_aload_n 60 rfl rfl dX5_opensNow_59 ?_
      refine j_getr 63 rfl 22 fl_X5_55 dX5_opensNow_60 (by decide) ( rfl) ( rfl) ?_
      refine j_iload_n 64 rfl rfl dX5_opensNow_63 ?_
      refine j_iald 65 rfl dX5_opensNow_64 (by decide) rfl (by decide) rfl (by omega) ?_
      refine j_iload_n 66 rfl rfl dX5_opensNow_65 ?_
      refine j_icmp_ne 73 69 (by decide) rfl dX5_opensNow_66 (by intro hR; first | omega | exact hR _ _ | exact jb_r _ | exact hR0 _ _ | assumption) (by intro hR; first | omega | exact hR _ _ | exact jb_r _ | exact hR0 _ _ | assumption) (fun h66 => ?_) (fun h66 => ?_)
      · refine j_iconst 74 rfl dX5_opensNow_73 ?_
        refine j_zreti dX5_opensNow_74 rfl (by first | decide | omega) ?_
        exact ⟨rfl, by omega⟩
      · refine j_iconst 70 rfl dX5_opensNow_69 ?_
        refine j_goto 74 (by decide) dX5_opensNow_70 ?_
        refine j_zreti dX5_opensNow_74 rfl (by first | decide | omega) ?_
        exact ⟨rfl, by omega⟩
  · rw [if_neg (by omega), if_pos q]
    have rN := bI_r (pNr K (pS K t.toNat).2.1 b)
    refine jOk.rng (fun hR0 => ?_)
    refine jOk.ofe rfl (Nat.le_of_ble_eq_true rfl) (en_aii_4 (E := E)) ?_
    refine j_aload_n 1 rfl rfl dX5_opensNow_0 ?_
    refine j_getr 4 rfl 20 fl_X5_52 dX5_opensNow_1 (by decide) ( rfl) ( rfl) ?_
    refine j_iload_n 5 rfl rfl dX5_opensNow_4 ?_
    refine j_iald 6 rfl dX5_opensNow_5 (by decide) rfl (by decide) rfl (by omega) ?_
    refine j_istore_n 7 rfl st_4_3 (by decide) rfl dX5_opensNow_6 ?_
    refine j_aload_n 8 rfl rfl dX5_opensNow_7 ?_
    refine j_getr 11 rfl 19 fl_X5_49 dX5_opensNow_8 (by decide) ( rfl) ( rfl) ?_
    refine j_iload_n 12 rfl rfl dX5_opensNow_11 ?_
    refine j_iald 13 rfl dX5_opensNow_12 (by decide) rfl (by decide) rfl (by omega) ?_
    rw [g1, q, g2]
    refine j_tabIn 75 dX5_opensNow_13 (by omega) (by omega) (by rfl) (by decide) ?_
    refine j_iload_n 76 rfl rfl dX5_opensNow_75 ?_
    refine j_if_le 99 79 (by decide) rfl dX5_opensNow_76 (by intro hR; first | omega | exact hR _ _ | exact jb_r _ | exact hR0 _ _ | assumption) (fun h1 => ?_) (fun h1 => ?_)
    · have e0 : pNr K (pS K t.toNat).2.1 b = false := by
        rw [(z0 (by omega)).1]
        cases hq : pNr K 0 b with
        | false => rfl
        | true =>
          unfold pNr at hq
          rw [anyI_iff] at hq
          obtain ⟨c, _, _, hc⟩ := hq
          rw [bt_0] at hc
          simp at hc
      rw [e0]
      refine j_iconst 100 rfl dX5_opensNow_99 ?_
      refine j_zreti dX5_opensNow_100 rfl (by first | decide | omega) ?_
      exact ⟨rfl, rfl⟩
    · refine j_aload_n 80 rfl rfl dX5_opensNow_79 ?_
      refine j_iload_n 81 rfl rfl dX5_opensNow_80 ?_
      refine j_aload_n 82 rfl rfl dX5_opensNow_81 ?_
      refine j_getr 85 rfl 15 fl_X5_37 dX5_opensNow_82 (by decide) ( rfl) ( rfl) ?_
      refine j_iload_n 86 rfl rfl dX5_opensNow_85 ?_
      refine j_iconst 87 rfl dX5_opensNow_86 ?_
      refine j_isub 88 rfl dX5_opensNow_87 ?_
      refine j_iald 89 rfl dX5_opensNow_88 (by decide) rfl (by decide) rfl (by omega) ?_
      rw [(hp (by omega)).1]
      refine jV2i 92 rfl dX5_opensNow_89 lk_X5_164 rfl rfl (by decide) ( rfl) ( rfl) (m_isNear hm0 ok hb) (fun r89 H1 ⟨eh_, hr89⟩ => ?_)
      obtain rfl := eh_.symm
      refine j_if_eq 99 95 (by decide) rfl dX5_opensNow_92 (by intro hR; first | omega | exact hR _ _ | exact jb_r _ | exact hR0 _ _ | assumption) (fun h92 => ?_) (fun h92 => ?_)
      · refine j_iconst 100 rfl dX5_opensNow_99 ?_
        refine j_zreti dX5_opensNow_100 rfl (by first | decide | omega) ?_
        exact ⟨rfl, by omega⟩
      · refine j_iconst 96 rfl dX5_opensNow_95 ?_
        refine j_goto 100 (by decide) dX5_opensNow_96 ?_
        refine j_zreti dX5_opensNow_100 rfl (by first | decide | omega) ?_
        exact ⟨rfl, by omega⟩
  · rw [if_neg (by omega), if_neg (by omega), if_pos q]
    have hB : bI (decide (K 2 b ≤ pAl K t (pS K t.toNat) b)) = 1 ↔ (K 2 b ≤ pAl K t (pS K t.toNat) b) := by
      by_cases e : K 2 b ≤ pAl K t (pS K t.toNat) b <;> simp [bI, e]
    have rB := bI_r (decide (K 2 b ≤ pAl K t (pS K t.toNat) b))
    refine jOk.rng (fun hR0 => ?_)
    refine jOk.ofe rfl (Nat.le_of_ble_eq_true rfl) (en_aii_4 (E := E)) ?_
    refine j_aload_n 1 rfl rfl dX5_opensNow_0 ?_
    refine j_getr 4 rfl 20 fl_X5_52 dX5_opensNow_1 (by decide) ( rfl) ( rfl) ?_
    refine j_iload_n 5 rfl rfl dX5_opensNow_4 ?_
    refine j_iald 6 rfl dX5_opensNow_5 (by decide) rfl (by decide) rfl (by omega) ?_
    refine j_istore_n 7 rfl st_4_3 (by decide) rfl dX5_opensNow_6 ?_
    refine j_aload_n 8 rfl rfl dX5_opensNow_7 ?_
    refine j_getr 11 rfl 19 fl_X5_49 dX5_opensNow_8 (by decide) ( rfl) ( rfl) ?_
    refine j_iload_n 12 rfl rfl dX5_opensNow_11 ?_
    refine j_iald 13 rfl dX5_opensNow_12 (by decide) rfl (by decide) rfl (by omega) ?_
    rw [g1, q, g2]
    refine j_tabIn 101 dX5_opensNow_13 (by omega) (by omega) (by rfl) (by decide) ?_
    refine j_aload_n 102 rfl rfl dX5_opensNow_101 ?_
    refine j_getr 105 rfl 23 fl_X5_58 dX5_opensNow_102 (by decide) ( rfl) ( rfl) ?_
    refine j_iload_n 106 rfl rfl dX5_opensNow_105 ?_
    refine j_iald 107 rfl dX5_opensNow_106 (by decide) rfl (by decide) rfl (by omega) ?_
    refine j_iload_n 108 rfl rfl dX5_opensNow_107 ?_
    refine j_icmp_lt 115 111 (by decide) rfl dX5_opensNow_108 (by intro hR; first | omega | exact hR _ _ | exact jb_r _ | exact hR0 _ _ | assumption) (by intro hR; first | omega | exact hR _ _ | exact jb_r _ | exact hR0 _ _ | assumption) (fun h108 => ?_) (fun h108 => ?_)
    · refine j_iconst 116 rfl dX5_opensNow_115 ?_
      refine j_zreti dX5_opensNow_116 rfl (by first | decide | omega) ?_
      exact ⟨rfl, by omega⟩
    · refine j_iconst 112 rfl dX5_opensNow_111 ?_
      refine j_goto 116 (by decide) dX5_opensNow_112 ?_
      refine j_zreti dX5_opensNow_116 rfl (by first | decide | omega) ?_
      exact ⟨rfl, by omega⟩
  · rw [if_neg (by omega), if_neg (by omega), if_neg (by omega), if_pos q]
    have hB : bI (decide (K 2 b ≤ oc (pS K t.toNat).1)) = 1 ↔ (K 2 b ≤ oc (pS K t.toNat).1) := by
      by_cases e : K 2 b ≤ oc (pS K t.toNat).1 <;> simp [bI, e]
    have rB := bI_r (decide (K 2 b ≤ oc (pS K t.toNat).1))
    refine jOk.rng (fun hR0 => ?_)
    refine jOk.ofe rfl (Nat.le_of_ble_eq_true rfl) (en_aii_4 (E := E)) ?_
    refine j_aload_n 1 rfl rfl dX5_opensNow_0 ?_
    refine j_getr 4 rfl 20 fl_X5_52 dX5_opensNow_1 (by decide) ( rfl) ( rfl) ?_
    refine j_iload_n 5 rfl rfl dX5_opensNow_4 ?_
    refine j_iald 6 rfl dX5_opensNow_5 (by decide) rfl (by decide) rfl (by omega) ?_
    refine j_istore_n 7 rfl st_4_3 (by decide) rfl dX5_opensNow_6 ?_
    refine j_aload_n 8 rfl rfl dX5_opensNow_7 ?_
    refine j_getr 11 rfl 19 fl_X5_49 dX5_opensNow_8 (by decide) ( rfl) ( rfl) ?_
    refine j_iload_n 12 rfl rfl dX5_opensNow_11 ?_
    refine j_iald 13 rfl dX5_opensNow_12 (by decide) rfl (by decide) rfl (by omega) ?_
    rw [g1, q, g2]
    refine j_tabIn 117 dX5_opensNow_13 (by omega) (by omega) (by rfl) (by decide) ?_
    refine j_iload_n 118 rfl rfl dX5_opensNow_117 ?_
    refine j_if_le 140 121 (by decide) rfl dX5_opensNow_118 (by intro hR; first | omega | exact hR _ _ | exact jb_r _ | exact hR0 _ _ | assumption) (fun h1 => ?_) (fun h1 => ?_)
    · have e0 : oc (pS K t.toNat).1 = 0 := by rw [(z0 (by omega)).2]; exact oc_zero
      refine j_iconst 141 rfl dX5_opensNow_140 ?_
      refine j_zreti dX5_opensNow_141 rfl (by first | decide | omega) ?_
      exact ⟨rfl, by omega⟩
    · refine j_aload_n 122 rfl rfl dX5_opensNow_121 ?_
      refine j_getr 125 rfl 16 fl_X5_40 dX5_opensNow_122 (by decide) ( rfl) ( rfl) ?_
      refine j_iload_n 126 rfl rfl dX5_opensNow_125 ?_
      refine j_iconst 127 rfl dX5_opensNow_126 ?_
      refine j_isub 128 rfl dX5_opensNow_127 ?_
      refine j_iald 129 rfl dX5_opensNow_128 (by decide) rfl (by decide) rfl (by omega) ?_
      rw [(hp (by omega)).2]
      refine jS1i 132 rfl dX5_opensNow_129 lk_X5_167 rfl rfl (m_ones (by omega)) (fun r129 H1 ⟨eh_, hr129⟩ => ?_)
      obtain rfl := eh_.symm
      refine j_iload_n 133 rfl rfl dX5_opensNow_132 ?_
      refine j_icmp_lt 140 136 (by decide) rfl dX5_opensNow_133 (by intro hR; first | omega | exact hR _ _ | exact jb_r _ | exact hR0 _ _ | assumption) (by intro hR; first | omega | exact hR _ _ | exact jb_r _ | exact hR0 _ _ | assumption) (fun h133 => ?_) (fun h133 => ?_)
      · refine j_iconst 141 rfl dX5_opensNow_140 ?_
        refine j_zreti dX5_opensNow_141 rfl (by first | decide | omega) ?_
        exact ⟨rfl, by omega⟩
      · refine j_iconst 137 rfl dX5_opensNow_136 ?_
        refine j_goto 141 (by decide) dX5_opensNow_137 ?_
        refine j_zreti dX5_opensNow_141 rfl (by first | decide | omega) ?_
        exact ⟨rfl, by omega⟩
  · rw [if_neg (by omega), if_neg (by omega), if_neg (by omega), if_neg (by omega)]
    refine jOk.rng (fun hR0 => ?_)
    refine jOk.ofe rfl (Nat.le_of_ble_eq_true rfl) (en_aii_4 (E := E)) ?_
    refine j_aload_n 1 rfl rfl dX5_opensNow_0 ?_
    refine j_getr 4 rfl 20 fl_X5_52 dX5_opensNow_1 (by decide) ( rfl) ( rfl) ?_
    refine j_iload_n 5 rfl rfl dX5_opensNow_4 ?_
    refine j_iald 6 rfl dX5_opensNow_5 (by decide) rfl (by decide) rfl (by omega) ?_
    refine j_istore_n 7 rfl st_4_3 (by decide) rfl dX5_opensNow_6 ?_
    refine j_aload_n 8 rfl rfl dX5_opensNow_7 ?_
    refine j_getr 11 rfl 19 fl_X5_49 dX5_opensNow_8 (by decide) ( rfl) ( rfl) ?_
    refine j_iload_n 12 rfl rfl dX5_opensNow_11 ?_
    refine j_iald 13 rfl dX5_opensNow_12 (by decide) rfl (by decide) rfl (by omega) ?_
    rw [g1, q, g2]
    refine j_tabOut 142 dX5_opensNow_13 (by intro _; omega) (by omega) (by decide) ?_
    refine j_iconst 143 rfl dX5_opensNow_142 ?_
    refine j_zreti dX5_opensNow_143 rfl (by first | decide | omega) ?_
    exact ⟨rfl, rfl⟩
-- X5_lives
variable {Q : Option Value → jH → Prop}
set_option maxHeartbeats 1000000 in
theorem m_lv1 {l t : Int} (hm : holdM H K) (ok : cOk K) (ht : 0 ≤ t ∧ t < 60) (rel : mRel H K t)
    (cont : ∀ Hi x6 x7, jCk [none, none, none, none, none, none, x6, x7] 7 = true → (∀ k, k ≠ 72 → k ≠ 73 → Hi k = H k) → (∀ b, 0 ≤ b → b < K 0 0 → Hi 72 b = pTu K t (pS K t.toNat) b ∧ Hi 73 b = pAl K t (pS K t.toNat) b) → jWP E mX5_lives Q 246 [some (jRF E 56), some (.int (jI l)), some (.int (jI t)), some (.int (jI (pS K t.toNat).1)), some (.int (jI (mkI (pOp K t (pS K t.toNat)) (K 0 0)))), some (.int (jI (K 0 0))), x6, x7] [] Hi) (x6 x7 : Option Value) (h6 : jCk [none, none, none, none, none, none, x6, x7] 7 = true) :
    jWP E mX5_lives Q 60 [some (jRF E 56), some (.int (jI l)), some (.int (jI t)), some (.int (jI (pS K t.toNat).1)), some (.int (jI 0)), some (.int (jI 0)), x6, x7] [] H := by
  have hn := ok.1
  obtain ⟨m1, m2, m3, m4⟩ := hm
  obtain ⟨e6, e7, e8⟩ := m4 t ht.1 ht.2
  obtain ⟨s, hs⟩ : ∃ s, s = pS K t.toNat := ⟨_, rfl⟩
  unfold mRel at rel
  obtain ⟨rel1, rel2⟩ := rel
  have hO := pS_O hn t.toNat
  have loop := jUp 0 (K 0 0) (fun b => ∀ Hi x6 x7, (jCk [none, none, none, none, none, none, x6, x7] 7 = true) → (∀ k, k ≠ 72 → k ≠ 73 → Hi k = H k) → (∀ c, 0 ≤ c → c < K 0 0 → Hi 72 c = (if c < b then pTu K t (pS K t.toNat) c else H 72 c) ∧ Hi 73 c = (if c < b then pAl K t (pS K t.toNat) c else H 73 c)) → jWP E mX5_lives Q 60 [some (jRF E 56), some (.int (jI l)), some (.int (jI t)), some (.int (jI (pS K t.toNat).1)), some (.int (jI (mkI (pOp K t (pS K t.toNat)) b))), some (.int (jI b)), x6, x7] [] Hi) ?_ ?_ 0 (by omega) (by omega)
  · exact loop H x6 x7 h6 (fun _ _ _ => rfl) (fun c c0 c1 => ⟨by rw [if_neg (by omega)], by rw [if_neg (by omega)]⟩)
  · intro Hi x6 x7 hck g1 g2
    refine j_iload 62 rfl rfl dX5_lives_60 ?_
    refine j_aload_n 63 rfl rfl dX5_lives_62 ?_
    refine g_geti 66 rfl 8 8 rfl fl_X5_109 dX5_lives_63 (by decide) ( rfl) ( rfl) ?_
    rw [g1 56 (by decide) (by decide), m1]
    refine j_icmp_ge 246 69 (by decide) rfl dX5_lives_66 (by intro hR; first | omega | exact hR _ _ | exact jb_r _ | exact hR0 _ _ | assumption) (by intro hR; first | omega | exact hR _ _ | exact jb_r _ | exact hR0 _ _ | assumption) (fun h1 => ?_) (fun h1 => ?_)
    · exact cont Hi x6 x7 hck g1 (fun b b0 b1 => by
        have := g2 b b0 b1
        rw [if_pos b1, if_pos b1] at this
        exact this)
    · exfalso; omega
  · intro b b0 b1 ih Hi x6 x7 hc6 g1 g2
    have c72 := (g2 b b0 b1).1
    have c73 := (g2 b b0 b1).2
    rw [if_neg (by omega)] at c72 c73
    obtain ⟨rl1, rl2, rl3⟩ := rel1 b b0 b1
    rw [rl1] at c72
    rw [rl2] at c73
    have hT := pTu_i K t (pS K t.toNat) b
    have hA := pAl_i K t (pS K t.toNat) b
    have hOp := pOp_i K t (pS K t.toNat) b
    have htr := pS_tr (K := K) (b := b) t.toNat
    have u1 := bI_r (bt (pS K t.toNat).1 b)
    have u2 := bI_r (bt (K 6 t) b)
    have u3 := bI_r (bt (K 7 t) b)
    have u4 := bI_r (bt (K 0 5) b)
    have u5 := bI_r (pOp K t (pS K t.toNat) b)
    have u6 := bI_r (pLw K t (pS K t.toNat) b)
    have hlr := pS_lr (ok.2.2.1 b b0 b1).2.2.2.1 t.toNat
    have hmk := mkI_lt (pOp K t (pS K t.toNat)) (n := b) (by omega)
    rw [mkI_s _ b0] at ih
    -- behind the turns and the looks
    obtain ⟨H3, hH3⟩ : ∃ H3, H3 = jU (jU Hi 72 b (pTu K t (pS K t.toNat) b)) 73 b (pAl K t (pS K t.toNat) b) := ⟨_, rfl⟩
    have f3 : ∀ k, k ≠ 72 → k ≠ 73 → H3 k = H k := fun k a c => by rw [hH3, jU_o c, jU_o a]; exact g1 k a c
    have f72 : ∀ c, 0 ≤ c → c < K 0 0 → H3 72 c = (if c < b + 1 then pTu K t (pS K t.toNat) c else H 72 c) ∧ H3 73 c = (if c < b + 1 then pAl K t (pS K t.toNat) c else H 73 c) := fun c c0 c1 => by
      obtain ⟨w1, w2⟩ := g2 c c0 c1
      rw [hH3]
      by_cases e : c = b
      · subst e
        rw [if_pos (by omega), if_pos (by omega), jU_k (by decide), jU_s, jU_s]
        exact ⟨rfl, rfl⟩
      · rw [jU_k (by decide), jU_i e, jU_i e, jU_k (by decide), w1, w2]
        by_cases e2 : c < b
        · rw [if_pos e2, if_pos e2, if_pos (by omega), if_pos (by omega)]
          exact ⟨rfl, rfl⟩
        · rw [if_neg e2, if_neg e2, if_neg (by omega), if_neg (by omega)]
          exact ⟨rfl, rfl⟩
    have hold3 : holdM H3 K := holdM.cong (H := H) ⟨m1, m2, m3, m4⟩ (fun k a => f3 k (by omega) (by omega))
    have a72 : H3 72 b = pTu K t (pS K t.toNat) b := by have := (f72 b b0 b1).1; rw [if_pos (by omega)] at this; exact this
    have a73 : H3 73 b = pAl K t (pS K t.toNat) b := by have := (f72 b b0 b1).2; rw [if_pos (by omega)] at this; exact this
    have spr3 : sprM H3 t b = (pS K t.toNat).2.2.1 b := by
      rw [← rl3]
      unfold sprM
      rw [f3 62 (by decide) (by decide), f3 68 (by decide) (by decide)]
    have hp3 : 0 < t → H3 66 (t - 1) = (pS K t.toNat).2.1 ∧ H3 67 (t - 1) = (pS K t.toNat).1 := by
      rw [f3 66 (by decide) (by decide), f3 67 (by decide) (by decide)]
      exact rel2
    have e5 : H3 56 21 = K 0 5 := hold3.2.1
    have step3 : ∀ sh mm z, (mm = 1 ∨ mm = 0) → ((z = bShl 1 b ∧ bI (pOp K t (pS K t.toNat) b) = 1) ∨ (z = 0 ∧ bI (pOp K t (pS K t.toNat) b) = 0)) → jWP E mX5_lives Q 237 [some (jRF E 56), some (.int (jI l)), some (.int (jI t)), some (.int (jI (pS K t.toNat).1)), some (.int (jI (mkI (pOp K t (pS K t.toNat)) b))), some (.int (jI b)), some (.int (jI sh)), some (.int (jI mm))] [.int (jI z), .int (jI (mkI (pOp K t (pS K t.toNat)) b))] H3 := by
      intro sh mm z hmm hz
      refine k_ior 238 rfl dX5_lives_237 ?_
      have ez : bOr (mkI (pOp K t (pS K t.toNat)) b) z = mkI (pOp K t (pS K t.toNat)) b + (if pOp K t (pS K t.toNat) b then 2 ^ b.toNat else 0) := by
        rcases hz with ⟨q1, q2⟩ | ⟨q1, q2⟩
        · rw [q1, bI_1.mp q2, mkI_or _ (by omega)]
          simp
        · rw [q1, bI_0.mp q2, bOr_0 (by omega)]
          simp
      rw [ez]
      refine j_istore 240 rfl st_8_4 (by decide) rfl dX5_lives_238 ?_
      refine j_iinc 243 rfl rfl st_8_5 (by decide) rfl dX5_lives_240 ?_
      refine j_goto 60 (by decide) dX5_lives_243 ?_
      exact ih H3 _ _ rfl f3 f72
    have step2 : ∀ sh, sh = 1 - bI (bt (pS K t.toNat).1 b) → jWP E mX5_lives Q 176 [some (jRF E 56), some (.int (jI l)), some (.int (jI t)), some (.int (jI (pS K t.toNat).1)), some (.int (jI (mkI (pOp K t (pS K t.toNat)) b))), some (.int (jI b)), some (.int (jI sh)), x7] [] H3 := by
      intro sh hsh
      have mayk : ∀ mm, (mm = 1 ∧ bI (bt (pS K t.toNat).1 b) = 0 ∧ bI (bt (K 0 5) b) = 0 ∧ 0 < (pS K t.toNat).2.2.1 b) ∨ (mm = 0 ∧ ¬ (bI (bt (pS K t.toNat).1 b) = 0 ∧ bI (bt (K 0 5) b) = 0 ∧ 0 < (pS K t.toNat).2.2.1 b)) → jWP E mX5_lives Q 210 [some (jRF E 56), some (.int (jI l)), some (.int (jI t)), some (.int (jI (pS K t.toNat).1)), some (.int (jI (mkI (pOp K t (pS K t.toNat)) b))), some (.int (jI b)), some (.int (jI sh)), x7] [.int (jI mm)] H3 := by
        intro mm hmm
        refine j_istore 212 rfl st_8_7 (by decide) rfl dX5_lives_210 ?_
        refine j_iload 214 rfl rfl dX5_lives_212 ?_
        refine j_iload 216 rfl rfl dX5_lives_214 ?_
        refine j_if_eq 236 219 (by decide) rfl dX5_lives_216 (by intro hR; first | omega | exact hR _ _ | exact jb_r _ | exact hR0 _ _ | assumption) (fun h216 => ?_) (fun h216 => ?_)
        · refine j_iconst 237 rfl dX5_lives_236 ?_
          refine step3 sh mm _ (by omega) ?_
          first | exact Or.inl ⟨rfl, by omega⟩ | exact Or.inr ⟨rfl, by omega⟩
        · refine j_aload_n 220 rfl rfl dX5_lives_219 ?_
          refine j_iload_n 221 rfl rfl dX5_lives_220 ?_
          refine j_iload 223 rfl rfl dX5_lives_221 ?_
          refine jV2i 226 rfl dX5_lives_223 lk_X5_173 rfl rfl (by decide) ( rfl) ( rfl) (m_opensNow hold3 ok ht ⟨b0, b1⟩ a72 a73 hp3) (fun r223 H1 ⟨eh_, hr223⟩ => ?_)
          obtain rfl := eh_.symm
          refine j_if_eq 236 229 (by decide) rfl dX5_lives_226 (by intro hR; first | omega | exact hR _ _ | exact jb_r _ | exact hR0 _ _ | assumption) (fun h226 => ?_) (fun h226 => ?_)
          · refine j_iconst 237 rfl dX5_lives_236 ?_
            refine step3 sh mm _ (by omega) ?_
            first | exact Or.inl ⟨rfl, by omega⟩ | exact Or.inr ⟨rfl, by omega⟩
          · refine j_iconst 230 rfl dX5_lives_229 ?_
            refine j_iload 232 rfl rfl dX5_lives_230 ?_
            refine k_ishl 233 rfl dX5_lives_232 ?_
            refine j_goto 237 (by decide) dX5_lives_233 ?_
            refine step3 sh mm _ (by omega) ?_
            first | exact Or.inl ⟨rfl, by omega⟩ | exact Or.inr ⟨rfl, by omega⟩
      refine j_iload 178 rfl rfl dX5_lives_176 ?_
      refine j_if_eq 209 181 (by decide) rfl dX5_lives_178 (by intro hR; first | omega | exact hR _ _ | exact jb_r _ | exact hR0 _ _ | assumption) (fun h2 => ?_) (fun h2 => ?_)
      · refine j_iconst 210 rfl dX5_lives_209 ?_
        exact mayk 0 (Or.inr ⟨rfl, by omega⟩)
      · refine j_aload_n 182 rfl rfl dX5_lives_181 ?_
        refine g_geti 185 rfl 21 21 rfl fl_X5_154 dX5_lives_182 (by decide) ( rfl) ( rfl) ?_
        rw [e5]
        refine j_iload 187 rfl rfl dX5_lives_185 ?_
        refine jS2i 190 rfl dX5_lives_187 lk_X5_157 rfl rfl (m_isInI (by omega)) (fun r187 H1 ⟨eh_, hr187⟩ => ?_)
        obtain rfl := eh_.symm
        refine j_if_ne 209 193 (by decide) rfl dX5_lives_190 (by intro hR; first | omega | exact hR _ _ | exact jb_r _ | exact hR0 _ _ | assumption) (fun h190 => ?_) (fun h190 => ?_)
        · refine j_iconst 210 rfl dX5_lives_209 ?_
          exact mayk _ (by omega)
        · refine j_aload_n 194 rfl rfl dX5_lives_193 ?_
          refine j_iload_n 195 rfl rfl dX5_lives_194 ?_
          refine j_iconst 196 rfl dX5_lives_195 ?_
          refine j_isub 197 rfl dX5_lives_196 ?_
          refine j_iload 199 rfl rfl dX5_lives_197 ?_
          refine jV2i 202 rfl dX5_lives_199 lk_X5_170 rfl rfl (by decide) ( rfl) ( rfl) (m_springAt ht (by omega)) (fun r199 H1 ⟨eh_, hr199⟩ => ?_)
          obtain rfl := eh_.symm
          rw [spr3] at hr199
          refine j_if_le 209 205 (by decide) rfl dX5_lives_202 (by intro hR; first | omega | exact hR _ _ | exact jb_r _ | exact hR0 _ _ | assumption) (fun h202 => ?_) (fun h202 => ?_)
          · refine j_iconst 210 rfl dX5_lives_209 ?_
            exact mayk _ (by omega)
          · refine j_iconst 206 rfl dX5_lives_205 ?_
            refine j_goto 210 (by decide) dX5_lives_206 ?_
            exact mayk _ (by omega)
    have step1 : ∀ sh, sh = 1 - bI (bt (pS K t.toNat).1 b) → ∀ H2, H2 = jU Hi 72 b (pTu K t (pS K t.toNat) b) → jWP E mX5_lives Q 133 [some (jRF E 56), some (.int (jI l)), some (.int (jI t)), some (.int (jI (pS K t.toNat).1)), some (.int (jI (mkI (pOp K t (pS K t.toNat)) b))), some (.int (jI b)), some (.int (jI sh)), x7] [] H2 := by
      intro sh hsh H2 hH2
      have d73 : H2 73 b = (pS K t.toNat).2.2.2.2 b := by rw [hH2, jU_k (by decide)]; exact c73
      have d65 : H2 65 = H 65 := by rw [hH2, jU_o (by decide)]; exact g1 65 (by decide) (by decide)
      have put : ∀ y, y = pAl K t (pS K t.toNat) b → jWP E mX5_lives Q 175 [some (jRF E 56), some (.int (jI l)), some (.int (jI t)), some (.int (jI (pS K t.toNat).1)), some (.int (jI (mkI (pOp K t (pS K t.toNat)) b))), some (.int (jI b)), some (.int (jI sh)), x7] [.int (jI y), .int (jI b), jRF E 73] H2 := by
        intro y hy
        subst hy
        refine j_iast 176 rfl dX5_lives_175 (by decide) rfl (by decide) rfl (by omega) (by intro hR; first | omega | exact hR _ _ | exact jb_r _ | exact hR0 _ _ | assumption) ?_
        rw [hH2, ← hH3]
        exact step2 sh hsh
      refine j_aload_n 134 rfl rfl dX5_lives_133 ?_
      refine j_getr 137 rfl 23 fl_X5_58 dX5_lives_134 (by decide) ( rfl) ( rfl) ?_
      refine j_iload 139 rfl rfl dX5_lives_137 ?_
      refine j_iload 141 rfl rfl dX5_lives_139 ?_
      refine j_if_eq 174 144 (by decide) rfl dX5_lives_141 (by intro hR; first | omega | exact hR _ _ | exact jb_r _ | exact hR0 _ _ | assumption) (fun h2 => ?_) (fun h2 => ?_)
      · refine j_iconst 175 rfl dX5_lives_174 ?_
        exact put 0 (by omega)
      · refine j_aload_n 145 rfl rfl dX5_lives_144 ?_
        refine j_getr 148 rfl 14 fl_X5_34 dX5_lives_145 (by decide) ( rfl) ( rfl) ?_
        refine j_iconst 149 rfl dX5_lives_148 ?_
        refine j_iload_n 150 rfl rfl dX5_lives_149 ?_
        refine j_imul 151 rfl dX5_lives_150 ?_
        refine j_iconst 152 rfl dX5_lives_151 ?_
        refine j_iadd 153 rfl dX5_lives_152 ?_
        refine j_iald 154 rfl dX5_lives_153 (by decide) rfl (by decide) rfl (by omega) ?_
        rw [d65, e7]
        refine j_iload 156 rfl rfl dX5_lives_154 ?_
        refine jS2i 159 rfl dX5_lives_156 lk_X5_157 rfl rfl (m_isInI (by omega)) (fun r1 H9 ⟨eh_, hr1⟩ => ?_)
        obtain rfl := eh_.symm
        refine j_if_ne 174 162 (by decide) rfl dX5_lives_159 (by intro hR; first | omega | exact hR _ _ | exact jb_r _ | exact hR0 _ _ | assumption) (fun h3 => ?_) (fun h3 => ?_)
        · refine j_iconst 175 rfl dX5_lives_174 ?_
          exact put 0 (by omega)
        · refine j_aload_n 163 rfl rfl dX5_lives_162 ?_
          refine j_getr 166 rfl 23 fl_X5_58 dX5_lives_163 (by decide) ( rfl) ( rfl) ?_
          refine j_iload 168 rfl rfl dX5_lives_166 ?_
          refine j_iald 169 rfl dX5_lives_168 (by decide) rfl (by decide) rfl (by omega) ?_
          rw [d73]
          refine j_iconst 170 rfl dX5_lives_169 ?_
          refine j_iadd 171 rfl dX5_lives_170 ?_
          refine j_goto 175 (by decide) dX5_lives_171 ?_
          exact put _ (by omega)
    have step0 : ∀ sh, sh = 1 - bI (bt (pS K t.toNat).1 b) → jWP E mX5_lives Q 85 [some (jRF E 56), some (.int (jI l)), some (.int (jI t)), some (.int (jI (pS K t.toNat).1)), some (.int (jI (mkI (pOp K t (pS K t.toNat)) b))), some (.int (jI b)), some (.int (jI sh)), x7] [] Hi := by
      intro sh hsh
      have put : ∀ y, (pS K t.toNat).2.2.2.1 b + y = pTu K t (pS K t.toNat) b → jWP E mX5_lives Q 131 [some (jRF E 56), some (.int (jI l)), some (.int (jI t)), some (.int (jI (pS K t.toNat).1)), some (.int (jI (mkI (pOp K t (pS K t.toNat)) b))), some (.int (jI b)), some (.int (jI sh)), x7] [.int (jI y), .int (jI ((pS K t.toNat).2.2.2.1 b)), .int (jI b), jRF E 72] Hi := by
        intro y hy
        refine j_iadd 132 rfl dX5_lives_131 ?_
        rw [hy]
        refine j_iast 133 rfl dX5_lives_132 (by decide) rfl (by decide) rfl (by omega) (by intro hR; first | omega | exact hR _ _ | exact jb_r _ | exact hR0 _ _ | assumption) ?_
        exact step1 sh hsh _ rfl
      refine j_aload_n 86 rfl rfl dX5_lives_85 ?_
      refine j_getr 89 rfl 22 fl_X5_55 dX5_lives_86 (by decide) ( rfl) ( rfl) ?_
      refine j_iload 91 rfl rfl dX5_lives_89 ?_
      refine j_dup2 92 rfl rfl rfl dX5_lives_91 ?_
      refine j_iald 93 rfl dX5_lives_92 (by decide) rfl (by decide) rfl (by omega) ?_
      rw [c72]
      refine j_iload 95 rfl rfl dX5_lives_93 ?_
      refine j_if_eq 130 98 (by decide) rfl dX5_lives_95 (by intro hR; first | omega | exact hR _ _ | exact jb_r _ | exact hR0 _ _ | assumption) (fun h2 => ?_) (fun h2 => ?_)
      · refine j_iconst 131 rfl dX5_lives_130 ?_
        exact put 0 (by omega)
      · refine j_aload_n 99 rfl rfl dX5_lives_98 ?_
        refine j_getr 102 rfl 14 fl_X5_34 dX5_lives_99 (by decide) ( rfl) ( rfl) ?_
        refine j_iconst 103 rfl dX5_lives_102 ?_
        refine j_iload_n 104 rfl rfl dX5_lives_103 ?_
        refine j_imul 105 rfl dX5_lives_104 ?_
        refine j_iald 106 rfl dX5_lives_105 (by decide) rfl (by decide) rfl (by omega) ?_
        rw [g1 65 (by decide) (by decide), e6]
        refine j_iload 108 rfl rfl dX5_lives_106 ?_
        refine jS2i 111 rfl dX5_lives_108 lk_X5_157 rfl rfl (m_isInI (by omega)) (fun r1 H9 ⟨eh_, hr1⟩ => ?_)
        obtain rfl := eh_.symm
        refine j_if_eq 130 114 (by decide) rfl dX5_lives_111 (by intro hR; first | omega | exact hR _ _ | exact jb_r _ | exact hR0 _ _ | assumption) (fun h3 => ?_) (fun h3 => ?_)
        · refine j_iconst 131 rfl dX5_lives_130 ?_
          exact put 0 (by omega)
        · refine j_aload_n 115 rfl rfl dX5_lives_114 ?_
          refine g_geti 118 rfl 21 21 rfl fl_X5_154 dX5_lives_115 (by decide) ( rfl) ( rfl) ?_
          rw [g1 56 (by decide) (by decide), m2]
          refine j_iload 120 rfl rfl dX5_lives_118 ?_
          refine jS2i 123 rfl dX5_lives_120 lk_X5_157 rfl rfl (m_isInI (by omega)) (fun r2 H9 ⟨eh_, hr2⟩ => ?_)
          obtain rfl := eh_.symm
          refine j_if_ne 130 126 (by decide) rfl dX5_lives_123 (by intro hR; first | omega | exact hR _ _ | exact jb_r _ | exact hR0 _ _ | assumption) (fun h4 => ?_) (fun h4 => ?_)
          · refine j_iconst 131 rfl dX5_lives_130 ?_
            exact put 0 (by omega)
          · refine j_iconst 127 rfl dX5_lives_126 ?_
            refine j_goto 131 (by decide) dX5_lives_127 ?_
            exact put 1 (by omega)
    refine j_iload 62 rfl rfl dX5_lives_60 ?_
    refine j_aload_n 63 rfl rfl dX5_lives_62 ?_
    refine g_geti 66 rfl 8 8 rfl fl_X5_109 dX5_lives_63 (by decide) ( rfl) ( rfl) ?_
    rw [g1 56 (by decide) (by decide), m1]
    refine j_icmp_ge 246 69 (by decide) rfl dX5_lives_66 (by intro hR; first | omega | exact hR _ _ | exact jb_r _ | exact hR0 _ _ | assumption) (by intro hR; first | omega | exact hR _ _ | exact jb_r _ | exact hR0 _ _ | assumption) (fun h1 => ?_) (fun h1 => ?_)
    · exfalso; omega
    · refine j_iload_n 70 rfl rfl dX5_lives_69 ?_
      refine j_iload 72 rfl rfl dX5_lives_70 ?_
      refine jS2i 75 rfl dX5_lives_72 lk_X5_157 rfl rfl (m_isInI (by omega)) (fun r1 H9 ⟨eh_, hr1⟩ => ?_)
      obtain rfl := eh_.symm
      refine j_if_ne 82 78 (by decide) rfl dX5_lives_75 (by intro hR; first | omega | exact hR _ _ | exact jb_r _ | exact hR0 _ _ | assumption) (fun h2 => ?_) (fun h2 => ?_)
      · refine j_iconst 83 rfl dX5_lives_82 ?_
        refine j_istore 85 rfl st_8_6 (by decide) rfl dX5_lives_83 ?_
        exact step0 0 (by omega)
      · refine j_iconst 79 rfl dX5_lives_78 ?_
        refine j_goto 83 (by decide) dX5_lives_79 ?_
        refine j_istore 85 rfl st_8_6 (by decide) rfl dX5_lives_83 ?_
        exact step0 1 (by omega)
end S34
