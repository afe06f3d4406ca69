/-! ===== the reference: looks, night ===== -/
theorem p2b_all : ∀ t : Fin 10, bShl 2 ((t : Nat) : Int) = 2 ^ (((t : Nat) : Int) + 1).toNat := by decide +kernel
theorem p2b {t : Int} (h : 0 ≤ t ∧ t < 10) : bShl 2 t = 2 ^ (t + 1).toNat := by
  have := p2b_all ⟨t.toNat, by omega⟩
  simp only [Int.toNat_of_nonneg h.1] at this
  exact this
theorem lk1_if {m b w i : Int} (hb : 0 ≤ b ∧ b < 9) (hi : 0 ≤ i ∧ i < 32) : lk1 m b w i = bOr (bAnd m (bXor (bShl 1 b) (-1))) (if bt w i then bShl 1 b else 0) := by
  unfold lk1
  rw [bt_shr1 hi]
  have h0 : bShl 0 b = 0 := by
    have key : ∀ q : Fin 9, bShl 0 ((q : Nat) : Int) = 0 := by decide +kernel
    have := key ⟨b.toNat, by omega⟩
    simp only [Int.toNat_of_nonneg hb.1] at this
    exact this
  cases bt w i with
  | true => simp
  | false => simp [h0]
theorem holdM_lok {H K : jH} {g : Int → Int} (h : holdM H (kLok K g)) {t : Int} (ht : 0 ≤ t ∧ t < 60) (v : Int) : holdM (jU H 65 (3 * t + 1) v) (kLok K (fun s => if s = t then v else g s)) := by
  obtain ⟨h1, h2, h3, h4⟩ := h
  unfold holdM
  rw [kLok_o (k := 0) (by decide), kLok_o (k := 1) (by decide), kLok_o (k := 2) (by decide), kLok_o (k := 3) (by decide), kLok_o (k := 4) (by decide), kLok_o (k := 6) (by decide), kLok_o (k := 8) (by decide)]
  rw [kLok_o (k := 0) (by decide)] at h1 h2 h3
  rw [kLok_o (k := 1) (by decide), kLok_o (k := 2) (by decide), kLok_o (k := 3) (by decide), kLok_o (k := 4) (by decide)] at h3
  rw [kLok_o (k := 6) (by decide), kLok_o (k := 8) (by decide)] at h4
  refine ⟨by rw [jU_k (by decide)]; exact h1, by rw [jU_k (by decide)]; exact h2, fun b b0 b1 => ?_, fun s s0 s1 => ?_⟩
  · rw [jU_k (by decide), jU_k (by decide), jU_k (by decide), jU_k (by decide)]; exact h3 b b0 b1
  · obtain ⟨a1, a2, a3⟩ := h4 s s0 s1
    rw [kLok_7] at a2 ⊢
    rw [jU_i (b := 3 * s) (by omega), jU_i (b := 3 * s + 2) (by omega)]
    refine ⟨a1, ?_, a3⟩
    by_cases e : s = t
    · subst e; rw [if_pos rfl, jU_s]
    · rw [if_neg e, jU_i (by omega)]; exact a2
theorem holdM_lok_cong {H K : jH} {g g2 : Int → Int} (h : holdM H (kLok K g)) (e : ∀ s, 0 ≤ s → s < 60 → g s = g2 s) : holdM H (kLok K g2) := by
  obtain ⟨h1, h2, h3, h4⟩ := h
  refine ⟨h1, h2, h3, fun s s0 s1 => ?_⟩
  obtain ⟨a1, a2, a3⟩ := h4 s s0 s1
  rw [kLok_7] at a2 ⊢
  exact ⟨a1, by rw [← e s s0 s1]; exact a2, a3⟩
theorem holdM_trn {H K : jH} {g : Int → Int} (h : holdM H (kTrn K g)) {t : Int} (ht : 0 ≤ t ∧ t < 60) (v : Int) : holdM (jU H 65 (3 * t) v) (kTrn K (fun s => if s = t then v else g s)) := by
  obtain ⟨h1, h2, h3, h4⟩ := h
  unfold holdM
  rw [kTrn_o (k := 0) (by decide), kTrn_o (k := 1) (by decide), kTrn_o (k := 2) (by decide), kTrn_o (k := 3) (by decide), kTrn_o (k := 4) (by decide), kTrn_o (k := 7) (by decide), kTrn_o (k := 8) (by decide)]
  rw [kTrn_o (k := 0) (by decide)] at h1 h2 h3
  rw [kTrn_o (k := 1) (by decide), kTrn_o (k := 2) (by decide), kTrn_o (k := 3) (by decide), kTrn_o (k := 4) (by decide)] at h3
  rw [kTrn_o (k := 7) (by decide), kTrn_o (k := 8) (by decide)] at h4
  refine ⟨by rw [jU_k (by decide)]; exact h1, by rw [jU_k (by decide)]; exact h2, fun b b0 b1 => ?_, fun s s0 s1 => ?_⟩
  · rw [jU_k (by decide), jU_k (by decide), jU_k (by decide), jU_k (by decide)]; exact h3 b b0 b1
  · obtain ⟨a1, a2, a3⟩ := h4 s s0 s1
    rw [kTrn_6] at a1 ⊢
    rw [jU_i (b := 3 * s + 1) (by omega), jU_i (b := 3 * s + 2) (by omega)]
    refine ⟨?_, a2, a3⟩
    by_cases e : s = t
    · subst e; rw [if_pos rfl, jU_s]
    · rw [if_neg e, jU_i (by omega)]; exact a1
theorem holdM_trn_cong {H K : jH} {g g2 : Int → Int} (h : holdM H (kTrn K g)) (e : ∀ s, 0 ≤ s → s < 60 → g s = g2 s) : holdM H (kTrn K g2) := by
  obtain ⟨h1, h2, h3, h4⟩ := h
  refine ⟨h1, h2, h3, fun s s0 s1 => ?_⟩
  obtain ⟨a1, a2, a3⟩ := h4 s s0 s1
  rw [kTrn_6] at a1 ⊢
  exact ⟨by rw [← e s s0 s1]; exact a1, a2, a3⟩
theorem kTrn_self (K : jH) : kTrn K (K 6) = K := by
  funext k i
  unfold kTrn
  by_cases h : k = 6
  · rw [if_pos h, h]
  · rw [if_neg h]
theorem kLok_self (K : jH) : kLok K (K 7) = K := by
  funext k i
  unfold kLok
  by_cases h : k = 7
  · rw [if_pos h, h]
  · rw [if_neg h]
theorem p16_s {t : Int} (h : 0 ≤ t) : p16 (t + 1) = p16 t * 16 := by
  unfold p16
  rw [show (t + 1).toNat = t.toNat + 1 by omega, Int.pow_succ]
section S43
variable {E : jE} {H K Hi : jH}
-- X5_looksOf
set_option maxHeartbeats 2000000 in
theorem m_looksOf {c b t w : Int} (hc : 0 ≤ c ∧ c ≤ 16) (hb : 0 ≤ b ∧ b < H 1 3) (ht : 0 ≤ t ∧ t < 10) (hw : w = 0 ∨ w = 1) (h : FD H) : jOk E mX5_looksOf [jRF E 56, .int (jI c), .int (jI b), .int (jI t), .int (jI w)] H (jQl fun r H' => MZ H H' ∧ FD H' ∧ r = lkR (cfg H) c b t w) := by
  have hn := h.n
  have ok := h.1.ok
  have h2t := p2_t ht
  have e2t := p2b ht
  have h16 := p16_r (n := t + 1) (by omega)
  have hu := upW_r (K := cfg H) (c := c) (b := b) (t := t) hc ht
  refine jOk.rng (fun hR0 => ?_)
  refine jOk.ofe rfl (Nat.le_of_ble_eq_true rfl) (en_aiiii_14 (E := E)) ?_
  have main := jUp 0 (2 ^ (t + 1).toNat) (fun x => ∀ Hi x10 x12 x13, jCk [none, none, none, none, none, none, none, none, none, none, x10, none, x12, x13] 10 = true → jCk [none, none, none, none, none, none, none, none, none, none, x10, none, x12, x13] 12 = true → jCk [none, none, none, none, none, none, none, none, none, none, x10, none, x12, x13] 13 = true → wk H Hi → (∃ g, holdM Hi (kLok (cfg H) g) ∧ ∀ s, 0 ≤ s → s < 60 → (s ≤ t → g s = cfg H 7 s ∨ ∃ w0, g s = lk1 (cfg H 7 s) b w0 s) ∧ (t < s → g s = cfg H 7 s)) → jWP E mX5_looksOf (jQl fun r H' => MZ H H' ∧ FD H' ∧ r = lkR (cfg H) c b t w) 32 [some (jRF E 56), some (.int (jI c)), some (.int (jI b)), some (.int (jI t)), some (.int (jI w)), some (.long (jL (sumI (upW1 (cfg H) c b t) x))), none, some (.long (jL (p16 (t + 1)))), none, some (.int (jI x)), x10, none, x12, x13] [] Hi) ?_ ?_ 0 (by omega) (by omega)
  · have l0 := jUp 0 (t + 1) (fun s => jWP E mX5_looksOf (jQl fun r H' => MZ H H' ∧ FD H' ∧ r = lkR (cfg H) c b t w) 9 [some (jRF E 56), some (.int (jI c)), some (.int (jI b)), some (.int (jI t)), some (.int (jI w)), some (.long (jL 0)), none, some (.long (jL (p16 s))), none, some (.int (jI s)), none, none, none, none] [] H) ?_ ?_ 0 (by omega) (by omega)
    · refine j_lconst 1 rfl (x := 0) rfl dX5_looksOf_0 ?_
      refine j_lstore 3 rfl su_14_5 (by decide) (Nat.le_of_ble_eq_true rfl) rfl dX5_looksOf_1 ?_
      refine j_lconst 4 rfl (x := 1) rfl dX5_looksOf_3 ?_
      refine j_lstore 6 rfl su_14_7 (by decide) (Nat.le_of_ble_eq_true rfl) rfl dX5_looksOf_4 ?_
      refine j_iconst 7 rfl dX5_looksOf_6 ?_
      refine j_istore 9 rfl st_14_9 (by decide) rfl dX5_looksOf_7 ?_
      exact l0
    · refine j_iload 11 rfl rfl dX5_looksOf_9 ?_
      refine j_iload_n 12 rfl rfl dX5_looksOf_11 ?_
      refine j_icmp_gt 29 15 (by decide) rfl dX5_looksOf_12 (by intro hR; first | omega | exact hR _ _ | exact jb_r _ | exact hR0 _ _ | assumption) (by intro hR; first | omega | exact hR _ _ | exact jb_r _ | exact hR0 _ _ | assumption) (fun h1 => ?_) (fun h1 => ?_)
      · refine j_iconst 30 rfl dX5_looksOf_29 ?_
        refine j_istore 32 rfl st_14_9 (by decide) rfl dX5_looksOf_30 ?_
        exact main H none none none rfl rfl rfl (wk.refl H) ⟨cfg H 7, by rw [kLok_self]; exact h.2.1, fun s _ _ => ⟨fun _ => Or.inl rfl, fun _ => rfl⟩⟩
      · exfalso; omega
    · intro s s0 s1 ih
      rw [p16_s s0] at ih
      refine j_iload 11 rfl rfl dX5_looksOf_9 ?_
      refine j_iload_n 12 rfl rfl dX5_looksOf_11 ?_
      refine j_icmp_gt 29 15 (by decide) rfl dX5_looksOf_12 (by intro hR; first | omega | exact hR _ _ | exact jb_r _ | exact hR0 _ _ | assumption) (by intro hR; first | omega | exact hR _ _ | exact jb_r _ | exact hR0 _ _ | assumption) (fun h1 => ?_) (fun h1 => ?_)
      · exfalso; omega
      · refine j_lload 17 rfl rfl dX5_looksOf_15 ?_
        refine j_ldc2 20 rfl kc_X5_262 dX5_looksOf_17 ?_
        refine j_lmul 21 rfl dX5_looksOf_20 ?_
        refine j_lstore 23 rfl su_14_7 (by decide) (Nat.le_of_ble_eq_true rfl) rfl dX5_looksOf_21 ?_
        refine j_iinc 26 rfl rfl st_14_9 (by decide) rfl dX5_looksOf_23 ?_
        refine j_goto 9 (by decide) dX5_looksOf_26 ?_
        exact ih
  · intro Hi x10 x12 x13 _ _ _ wi _
    refine j_iload 34 rfl rfl dX5_looksOf_32 ?_
    refine j_iconst 35 rfl dX5_looksOf_34 ?_
    refine j_iload_n 36 rfl rfl dX5_looksOf_35 ?_
    refine k_ishl 37 rfl dX5_looksOf_36 ?_
    rw [e2t]
    refine j_icmp_ge 163 40 (by decide) rfl dX5_looksOf_37 (by intro hR; first | omega | exact hR _ _ | exact jb_r _ | exact hR0 _ _ | assumption) (by intro hR; first | omega | exact hR _ _ | exact jb_r _ | exact hR0 _ _ | assumption) (fun h1 => ?_) (fun h1 => ?_)
    · refine j_aload_n 164 rfl rfl dX5_looksOf_163 ?_
      refine jV0v 167 rfl dX5_looksOf_164 lk_X5_183 rfl rfl (by decide) ( rfl) ( rfl) (m_find (wi.1.ri h.1)) (fun H2 ⟨mq2, fd2⟩ => ?_)
      refine j_lload 169 rfl rfl dX5_looksOf_167 ?_
      refine j_lload 171 rfl rfl dX5_looksOf_169 ?_
      refine j_iload 173 rfl rfl dX5_looksOf_171 ?_
      have eu : sumI (upW1 (cfg H) c b t) (2 ^ (t + 1).toNat) = upW (cfg H) c b t := rfl
      rw [eu]
      refine jS3l 176 rfl dX5_looksOf_173 lk_X5_264 rfl rfl (m_part hu (by omega) hw) (fun r1 H9 ⟨eh_, hr1⟩ => ?_)
      obtain rfl := eh_.symm
      refine j_lretl dX5_looksOf_176 rfl ?_
      exact ⟨wi.1.trans mq2, fd2, hr1⟩
    · exfalso; omega
  · rintro x x0 x1 ih Hi x10 x12 x13 k10 k12 k13 wi ⟨g, hg, hgs⟩
    rw [sumI_s _ x0] at ih
    have okl := cOk_look ok (b := b) (by omega) x ht.2
    -- behind the steps
    have tail : ∀ Hi x12 x13, jCk [none, none, none, none, none, none, none, none, none, none, none, none, x12, x13] 13 = true → wk H Hi → holdM Hi (kLook (cfg H) b x t) → jWP E mX5_looksOf (jQl fun r H' => MZ H H' ∧ FD H' ∧ r = lkR (cfg H) c b t w) 128 [some (jRF E 56), some (.int (jI c)), some (.int (jI b)), some (.int (jI t)), some (.int (jI w)), some (.long (jL (sumI (upW1 (cfg H) c b t) x))), none, some (.long (jL (p16 (t + 1)))), none, some (.int (jI x)), some (.long (jL (wt c x (t + 1)))), none, x12, x13] [] Hi := by
      intro Hi x12 x13 k13 wi hk
      refine j_aload_n 129 rfl rfl dX5_looksOf_128 ?_
      refine j_iload_n 130 rfl rfl dX5_looksOf_129 ?_
      refine jV1v 133 rfl dX5_looksOf_130 lk_X5_179 rfl rfl (by decide) ( rfl) ( rfl) (m_run (by omega) wi hk okl) (fun H3 ⟨w3, h3, a3, _⟩ => ?_)
      refine j_lload 135 rfl rfl dX5_looksOf_133 ?_
      refine j_aload_n 136 rfl rfl dX5_looksOf_135 ?_
      refine j_getr 139 rfl 16 fl_X5_40 dX5_looksOf_136 (by decide) ( rfl) ( rfl) ?_
      refine j_iload_n 140 rfl rfl dX5_looksOf_139 ?_
      refine j_iald 141 rfl dX5_looksOf_140 (by decide) rfl (by decide) rfl (by omega) ?_
      rw [(a3 t (by omega) (by omega)).2.1]
      refine j_iload_n 142 rfl rfl dX5_looksOf_141 ?_
      refine jS2i 145 rfl dX5_looksOf_142 lk_X5_157 rfl rfl (m_isIn (by omega)) (fun r1 H9 ⟨eh_, hr1⟩ => ?_)
      obtain rfl := eh_.symm
      have nxt : ∀ y, y = upW1 (cfg H) c b t x → jWP E mX5_looksOf (jQl fun r H' => MZ H H' ∧ FD H' ∧ r = lkR (cfg H) c b t w) 154 [some (jRF E 56), some (.int (jI c)), some (.int (jI b)), some (.int (jI t)), some (.int (jI w)), some (.long (jL (sumI (upW1 (cfg H) c b t) x))), none, some (.long (jL (p16 (t + 1)))), none, some (.int (jI x)), some (.long (jL (wt c x (t + 1)))), none, x12, x13] [.long (jL y), .long (jL (sumI (upW1 (cfg H) c b t) x))] H3 := by
        intro y hy
        subst hy
        refine j_ladd 155 rfl dX5_looksOf_154 ?_
        refine j_lstore 157 rfl su_14_5 (by decide) (Nat.le_of_ble_eq_true rfl) rfl dX5_looksOf_155 ?_
        refine j_iinc 160 rfl rfl st_14_9 (by decide) rfl dX5_looksOf_157 ?_
        refine j_goto 32 (by decide) dX5_looksOf_160 ?_
        refine ih H3 _ _ _ rfl rfl k13 w3 ⟨_, h3, fun s s0 s1 => ⟨fun a => Or.inr ⟨x, by rw [if_pos ⟨s0, by omega⟩]⟩, fun a => by rw [if_neg (by omega)]⟩⟩
      unfold upW1 at nxt
      refine j_if_eq 153 148 (by decide) rfl dX5_looksOf_145 (by intro hR; first | omega | exact hR _ _ | exact jb_r _ | exact hR0 _ _ | assumption) (fun h2 => ?_) (fun h2 => ?_)
      · rcases hr1 with ⟨z, _⟩ | ⟨_, z⟩
        · omega
        · rw [z] at nxt
          refine j_lconst 154 rfl (x := 0) rfl dX5_looksOf_153 ?_
          exact nxt 0 (by simp)
      · rcases hr1 with ⟨_, z⟩ | ⟨z, _⟩
        · rw [z] at nxt
          refine j_lload 150 rfl rfl dX5_looksOf_148 ?_
          refine j_goto 154 (by decide) dX5_looksOf_150 ?_
          exact nxt _ (by simp)
        · omega
    have steps := jUp 0 (t + 1) (fun s => ∀ Hi g x13, wk H Hi → holdM Hi (kLok (cfg H) g) → (∀ q, 0 ≤ q → q < 60 → (q < s → g q = lk1 (cfg H 7 q) b x q) ∧ (s ≤ q → q ≤ t → g q = cfg H 7 q ∨ ∃ w0, g q = lk1 (cfg H 7 q) b w0 q) ∧ (t < q → g q = cfg H 7 q)) → jWP E mX5_looksOf (jQl fun r H' => MZ H H' ∧ FD H' ∧ r = lkR (cfg H) c b t w) 46 [some (jRF E 56), some (.int (jI c)), some (.int (jI b)), some (.int (jI t)), some (.int (jI w)), some (.long (jL (sumI (upW1 (cfg H) c b t) x))), none, some (.long (jL (p16 (t + 1)))), none, some (.int (jI x)), some (.long (jL (wt c x s))), none, some (.int (jI s)), x13] [] Hi) ?_ ?_ 0 (by omega) (by omega)
    · refine j_iload 34 rfl rfl dX5_looksOf_32 ?_
      refine j_iconst 35 rfl dX5_looksOf_34 ?_
      refine j_iload_n 36 rfl rfl dX5_looksOf_35 ?_
      refine k_ishl 37 rfl dX5_looksOf_36 ?_
      rw [e2t]
      refine j_icmp_ge 163 40 (by decide) rfl dX5_looksOf_37 (by intro _; omega) (by intro _; omega) (fun h1 => by omega) (fun h1 => ?_)
      refine j_lconst 41 rfl (x := 1) rfl dX5_looksOf_40 ?_
      refine j_lstore 43 rfl su_14_10 (by decide) (Nat.le_of_ble_eq_true rfl) rfl dX5_looksOf_41 ?_
      refine j_iconst 44 rfl dX5_looksOf_43 ?_
      refine j_istore 46 rfl st_14_12 (by decide) rfl dX5_looksOf_44 ?_
      exact steps Hi g x13 wi hg (fun q q0 q1 => ⟨fun a => by omega, fun _ a => (hgs q q0 q1).1 a, (hgs q q0 q1).2⟩)
    · intro Hi g x13 wi hg hgs
      refine j_iload 48 rfl rfl dX5_looksOf_46 ?_
      refine j_iload_n 49 rfl rfl dX5_looksOf_48 ?_
      refine j_icmp_gt 128 52 (by decide) rfl dX5_looksOf_49 (by intro hR; first | omega | exact hR _ _ | exact jb_r _ | exact hR0 _ _ | assumption) (by intro hR; first | omega | exact hR _ _ | exact jb_r _ | exact hR0 _ _ | assumption) (fun h1 => ?_) (fun h1 => ?_)
      · refine tail Hi _ _ rfl wi ?_
        unfold kLook
        refine holdM_lok_cong hg (fun s s0 s1 => ?_)
        by_cases e : 0 ≤ s ∧ s < t + 1
        · rw [if_pos e]; exact (hgs s s0 s1).1 e.2
        · rw [if_neg e]; exact (hgs s s0 s1).2.2 (by omega)
      · exfalso; omega
    · intro s s0 s1 ih2 Hi g x13 wi hg hgs
      have h7 := (ok.2.2.2.2 s s0 (by omega)).2.1
      have d65 : Hi 65 (3 * s + 1) = g s := by
        have := (hg.2.2.2 s s0 (by omega)).2.1
        rw [kLok_7] at this
        exact this
      have ev : lk1 (g s) b x s = lk1 (cfg H 7 s) b x s := by
        rcases (hgs s s0 (by omega)).2.1 (Int.le_refl _) (by omega) with e | ⟨w0, e⟩
        · rw [e]
        · rw [e, lk1_twice h7 (by omega) (by omega)]
      rw [wt_s c x s0] at ih2
      -- behind the weight
      have put : ∀ q z, q = bI (bt x s) → z = (if bt x s then bShl 1 b else 0) → jWP E mX5_looksOf (jQl fun r H' => MZ H H' ∧ FD H' ∧ r = lkR (cfg H) c b t w) 120 [some (jRF E 56), some (.int (jI c)), some (.int (jI b)), some (.int (jI t)), some (.int (jI w)), some (.long (jL (sumI (upW1 (cfg H) c b t) x))), none, some (.long (jL (p16 (t + 1)))), none, some (.int (jI x)), some (.long (jL (wt c x s * (if bt x s then c else 16 - c)))), none, some (.int (jI s)), some (.int (jI q))] [.int (jI z), .int (jI (bAnd (g s) (bXor (bShl 1 b) (-1)))), .int (jI (3 * s + 1)), jRF E 65] Hi := by
        intro q z hq hz
        refine k_ior 121 rfl dX5_looksOf_120 ?_
        have ez : bOr (bAnd (g s) (bXor (bShl 1 b) (-1))) z = lk1 (cfg H 7 s) b x s := by rw [hz, ← lk1_if (by omega) (by omega)]; exact ev
        rw [ez]
        have hlr := lk1_512 (m := cfg H 7 s) (b := b) (w := x) (i := s) h7 (by omega) (by omega)
        refine j_iast 122 rfl dX5_looksOf_121 (by decide) rfl (by decide) rfl (by omega) (by intro _; omega) ?_
        refine j_iinc 125 rfl rfl st_14_12 (by decide) rfl dX5_looksOf_122 ?_
        refine j_goto 46 (by decide) dX5_looksOf_125 ?_
        refine ih2 _ _ _ (wi.trans (wk.u _ _ (by omega))) (holdM_lok hg ⟨s0, by omega⟩ _) (fun p p0 p1 => ?_)
        obtain ⟨b1, b2, b3⟩ := hgs p p0 p1
        by_cases e : p = s
        · subst e
          refine ⟨fun _ => by rw [if_pos rfl], fun a => by omega, fun a => by omega⟩
        · refine ⟨fun a => by rw [if_neg e]; exact b1 (by omega), fun a d => by rw [if_neg e]; exact b2 (by omega) d, fun a => by rw [if_neg e]; exact b3 a⟩
      have mid : ∀ q, q = bI (bt x s) → jWP E mX5_looksOf (jQl fun r H' => MZ H H' ∧ FD H' ∧ r = lkR (cfg H) c b t w) 81 [some (jRF E 56), some (.int (jI c)), some (.int (jI b)), some (.int (jI t)), some (.int (jI w)), some (.long (jL (sumI (upW1 (cfg H) c b t) x))), none, some (.long (jL (p16 (t + 1)))), none, some (.int (jI x)), some (.long (jL (wt c x s * (if bt x s then c else 16 - c)))), none, some (.int (jI s)), some (.int (jI q))] [] Hi := by
        intro q hq
        have uq := bI_r (bt x s)
        refine j_aload_n 82 rfl rfl dX5_looksOf_81 ?_
        refine j_getr 85 rfl 14 fl_X5_34 dX5_looksOf_82 (by decide) ( rfl) ( rfl) ?_
        refine j_iconst 86 rfl dX5_looksOf_85 ?_
        refine j_iload 88 rfl rfl dX5_looksOf_86 ?_
        refine j_imul 89 rfl dX5_looksOf_88 ?_
        refine j_iconst 90 rfl dX5_looksOf_89 ?_
        refine j_iadd 91 rfl dX5_looksOf_90 ?_
        refine j_aload_n 92 rfl rfl dX5_looksOf_91 ?_
        refine j_getr 95 rfl 14 fl_X5_34 dX5_looksOf_92 (by decide) ( rfl) ( rfl) ?_
        refine j_iconst 96 rfl dX5_looksOf_95 ?_
        refine j_iload 98 rfl rfl dX5_looksOf_96 ?_
        refine j_imul 99 rfl dX5_looksOf_98 ?_
        refine j_iconst 100 rfl dX5_looksOf_99 ?_
        refine j_iadd 101 rfl dX5_looksOf_100 ?_
        refine j_iald 102 rfl dX5_looksOf_101 (by decide) rfl (by decide) rfl (by omega) ?_
        rw [d65]
        refine j_iconst 103 rfl dX5_looksOf_102 ?_
        refine j_iload_n 104 rfl rfl dX5_looksOf_103 ?_
        refine k_ishl 105 rfl dX5_looksOf_104 ?_
        refine j_iconst 106 rfl dX5_looksOf_105 ?_
        refine k_ixor 107 rfl dX5_looksOf_106 ?_
        refine k_iand 108 rfl dX5_looksOf_107 ?_
        refine j_iload 110 rfl rfl dX5_looksOf_108 ?_
        refine j_if_eq 119 113 (by decide) rfl dX5_looksOf_110 (by intro hR; first | omega | exact hR _ _ | exact jb_r _ | exact hR0 _ _ | assumption) (fun h3 => ?_) (fun h3 => ?_)
        · refine j_iconst 120 rfl dX5_looksOf_119 ?_
          refine put q 0 hq ?_
          rw [bI_0.mp (show bI (bt x s) = 0 by omega)]
          simp
        · refine j_iconst 114 rfl dX5_looksOf_113 ?_
          refine j_iload_n 115 rfl rfl dX5_looksOf_114 ?_
          refine k_ishl 116 rfl dX5_looksOf_115 ?_
          refine j_goto 120 (by decide) dX5_looksOf_116 ?_
          refine put q _ hq ?_
          rw [bI_1.mp (show bI (bt x s) = 1 by omega)]
          simp
      refine j_iload 48 rfl rfl dX5_looksOf_46 ?_
      refine j_iload_n 49 rfl rfl dX5_looksOf_48 ?_
      refine j_icmp_gt 128 52 (by decide) rfl dX5_looksOf_49 (by intro hR; first | omega | exact hR _ _ | exact jb_r _ | exact hR0 _ _ | assumption) (by intro hR; first | omega | exact hR _ _ | exact jb_r _ | exact hR0 _ _ | assumption) (fun h1 => ?_) (fun h1 => ?_)
      · exfalso; omega
      · refine j_iload 54 rfl rfl dX5_looksOf_52 ?_
        refine j_iload 56 rfl rfl dX5_looksOf_54 ?_
        refine jS2i 59 rfl dX5_looksOf_56 lk_X5_157 rfl rfl (m_isInI (by omega)) (fun r1 H9 ⟨eh_, hr1⟩ => ?_)
        obtain rfl := eh_.symm
        have uq := bI_r (bt x s)
        refine j_istore 61 rfl st_14_13 (by decide) rfl dX5_looksOf_59 ?_
        refine j_lload 63 rfl rfl dX5_looksOf_61 ?_
        refine j_iload 65 rfl rfl dX5_looksOf_63 ?_
        refine j_if_eq 73 68 (by decide) rfl dX5_looksOf_65 (by intro hR; first | omega | exact hR _ _ | exact jb_r _ | exact hR0 _ _ | assumption) (fun h3 => ?_) (fun h3 => ?_)
        · have z : bt x s = false := bI_0.mp (by omega)
          have mid := mid r1 hr1
          rw [z] at mid
          simp only [Bool.false_eq_true, if_false] at mid
          refine j_bipush 75 rfl rfl dX5_looksOf_73 ?_
          refine j_iload_n 76 rfl rfl dX5_looksOf_75 ?_
          refine j_isub 77 rfl dX5_looksOf_76 ?_
          refine j_i2l 78 rfl (by intro hR; first | omega | exact hR _ _ | exact jb_r _ | exact hR0 _ _ | assumption) dX5_looksOf_77 ?_
          refine j_lmul 79 rfl dX5_looksOf_78 ?_
          refine j_lstore 81 rfl su_14_10 (by decide) (Nat.le_of_ble_eq_true rfl) rfl dX5_looksOf_79 ?_
          exact mid
        · have z : bt x s = true := bI_1.mp (by omega)
          have mid := mid r1 hr1
          rw [z] at mid
          simp only [if_true] at mid
          refine j_iload_n 69 rfl rfl dX5_looksOf_68 ?_
          refine j_i2l 70 rfl (by intro hR; first | omega | exact hR _ _ | exact jb_r _ | exact hR0 _ _ | assumption) dX5_looksOf_69 ?_
          refine j_goto 78 (by decide) dX5_looksOf_70 ?_
          refine j_lmul 79 rfl dX5_looksOf_78 ?_
          refine j_lstore 81 rfl su_14_10 (by decide) (Nat.le_of_ble_eq_true rfl) rfl dX5_looksOf_79 ?_
          exact mid
-- X5_looks
theorem m_looks {c b t w : Int} (hc : -2147483648 ≤ c ∧ c ≤ 2147483647) (hb : -2147483648 ≤ b ∧ b ≤ 2147483647) (ht : -2147483648 ≤ t ∧ t ≤ 2147483647) (hw : -2147483648 ≤ w ∧ w ≤ 2147483647) (h : RI H) : jOk E mX5_looks [jRF E 56, .int (jI c), .int (jI b), .int (jI t), .int (jI w)] H (jQl fun r H' => MZ H H' ∧ FD H' ∧ anLooks H c b t w r) := by
  refine jOk.rng (fun hR0 => ?_)
  refine jOk.ofe rfl (Nat.le_of_ble_eq_true rfl) (en_aiiii_5 (E := E)) ?_
  refine j_aload_n 1 rfl rfl dX5_looks_0 ?_
  refine jV0v 4 rfl dX5_looks_1 lk_X5_183 rfl rfl (by decide) ( rfl) ( rfl) (m_find h) (fun H1 ⟨mq, fd⟩ => ?_)
  rw [← mq.same.looks]
  have hn := fd.n
  by_cases hok : (0 ≤ c ∧ c ≤ 16 ∧ 0 ≤ b ∧ b < H1 1 3 ∧ 0 ≤ t ∧ t < 10 ∧ (w = 0 ∨ w = 1))
  rotate_left
  · refine j_iload_n 5 rfl rfl dX5_looks_4 ?_
    refine j_i2l 6 rfl (by intro hR; first | omega | exact hR _ _ | exact jb_r _ | exact hR0 _ _ | assumption) dX5_looks_5 ?_
    refine j_lconst 7 rfl (x := 0) rfl dX5_looks_6 ?_
    refine j_ldc2 10 rfl kc_X5_262 dX5_looks_7 ?_
    refine jS3i 13 rfl dX5_looks_10 lk_X5_75 rfl rfl (m_in (by omega) (by omega) (by omega)) (fun r10 H1 ⟨eh_, hr10⟩ => ?_)
    obtain rfl := eh_.symm
    refine j_if_eq 56 16 (by decide) rfl dX5_looks_13 (by intro hR; first | omega | exact hR _ _ | exact jb_r _ | exact hR0 _ _ | assumption) (fun h13 => ?_) (fun h13 => ?_)
    · refine j_bipush 58 rfl rfl dX5_looks_56 ?_
      refine jS1l 61 rfl dX5_looks_58 lk_X5_272 rfl rfl (m_no (by omega)) (fun r58 H1 ⟨eh_, hr58⟩ => ?_)
      obtain rfl := eh_.symm
      refine j_lretl dX5_looks_61 rfl ?_
      exact ⟨mq, fd, Or.inl ⟨hok, by omega⟩⟩
    · refine j_aload_n 17 rfl rfl dX5_looks_16 ?_
      refine j_iload_n 18 rfl rfl dX5_looks_17 ?_
      refine jV1i 21 rfl dX5_looks_18 lk_X5_134 rfl rfl (by decide) ( rfl) ( rfl) (m_isBox (by omega) (by omega)) (fun r18 H1 ⟨eh_, hr18⟩ => ?_)
      obtain rfl := eh_.symm
      refine j_if_eq 56 24 (by decide) rfl dX5_looks_21 (by intro hR; first | omega | exact hR _ _ | exact jb_r _ | exact hR0 _ _ | assumption) (fun h21 => ?_) (fun h21 => ?_)
      · refine j_bipush 58 rfl rfl dX5_looks_56 ?_
        refine jS1l 61 rfl dX5_looks_58 lk_X5_272 rfl rfl (m_no (by omega)) (fun r58 H1 ⟨eh_, hr58⟩ => ?_)
        obtain rfl := eh_.symm
        refine j_lretl dX5_looks_61 rfl ?_
        exact ⟨mq, fd, Or.inl ⟨hok, by omega⟩⟩
      · refine j_iload_n 25 rfl rfl dX5_looks_24 ?_
        refine j_i2l 26 rfl (by intro hR; first | omega | exact hR _ _ | exact jb_r _ | exact hR0 _ _ | assumption) dX5_looks_25 ?_
        refine j_lconst 27 rfl (x := 0) rfl dX5_looks_26 ?_
        refine j_ldc2 30 rfl kc_X5_234 dX5_looks_27 ?_
        refine jS3i 33 rfl dX5_looks_30 lk_X5_75 rfl rfl (m_in (by omega) (by omega) (by omega)) (fun r30 H1 ⟨eh_, hr30⟩ => ?_)
        obtain rfl := eh_.symm
        refine j_if_eq 56 36 (by decide) rfl dX5_looks_33 (by intro hR; first | omega | exact hR _ _ | exact jb_r _ | exact hR0 _ _ | assumption) (fun h33 => ?_) (fun h33 => ?_)
        · refine j_bipush 58 rfl rfl dX5_looks_56 ?_
          refine jS1l 61 rfl dX5_looks_58 lk_X5_272 rfl rfl (m_no (by omega)) (fun r58 H1 ⟨eh_, hr58⟩ => ?_)
          obtain rfl := eh_.symm
          refine j_lretl dX5_looks_61 rfl ?_
          exact ⟨mq, fd, Or.inl ⟨hok, by omega⟩⟩
        · refine j_iload 38 rfl rfl dX5_looks_36 ?_
          refine jS1i 41 rfl dX5_looks_38 lk_X5_186 rfl rfl (m_isTwo (by omega)) (fun r38 H1 ⟨eh_, hr38⟩ => ?_)
          obtain rfl := eh_.symm
          refine j_if_eq 56 44 (by decide) rfl dX5_looks_41 (by intro hR; first | omega | exact hR _ _ | exact jb_r _ | exact hR0 _ _ | assumption) (fun h41 => ?_) (fun h41 => ?_)
          · refine j_bipush 58 rfl rfl dX5_looks_56 ?_
            refine jS1l 61 rfl dX5_looks_58 lk_X5_272 rfl rfl (m_no (by omega)) (fun r58 H1 ⟨eh_, hr58⟩ => ?_)
            obtain rfl := eh_.symm
            refine j_lretl dX5_looks_61 rfl ?_
            exact ⟨mq, fd, Or.inl ⟨hok, by omega⟩⟩
          · exfalso; omega
  refine j_iload_n 5 rfl rfl dX5_looks_4 ?_
  refine j_i2l 6 rfl (by intro hR; first | omega | exact hR _ _ | exact jb_r _ | exact hR0 _ _ | assumption) dX5_looks_5 ?_
  refine j_lconst 7 rfl (x := 0) rfl dX5_looks_6 ?_
  refine j_ldc2 10 rfl kc_X5_262 dX5_looks_7 ?_
  refine jS3i 13 rfl dX5_looks_10 lk_X5_75 rfl rfl (m_in (by omega) (by omega) (by omega)) (fun r10 H1 ⟨eh_, hr10⟩ => ?_)
  obtain rfl := eh_.symm
  refine j_if_eq 56 16 (by decide) rfl dX5_looks_13 (by intro hR; first | omega | exact hR _ _ | exact jb_r _ | exact hR0 _ _ | assumption) (fun h13 => ?_) (fun h13 => ?_)
  · exfalso; omega
  refine j_aload_n 17 rfl rfl dX5_looks_16 ?_
  refine j_iload_n 18 rfl rfl dX5_looks_17 ?_
  refine jV1i 21 rfl dX5_looks_18 lk_X5_134 rfl rfl (by decide) ( rfl) ( rfl) (m_isBox (by omega) (by omega)) (fun r18 H1 ⟨eh_, hr18⟩ => ?_)
  obtain rfl := eh_.symm
  refine j_if_eq 56 24 (by decide) rfl dX5_looks_21 (by intro hR; first | omega | exact hR _ _ | exact jb_r _ | exact hR0 _ _ | assumption) (fun h21 => ?_) (fun h21 => ?_)
  · exfalso; omega
  refine j_iload_n 25 rfl rfl dX5_looks_24 ?_
  refine j_i2l 26 rfl (by intro hR; first | omega | exact hR _ _ | exact jb_r _ | exact hR0 _ _ | assumption) dX5_looks_25 ?_
  refine j_lconst 27 rfl (x := 0) rfl dX5_looks_26 ?_
  refine j_ldc2 30 rfl kc_X5_234 dX5_looks_27 ?_
  refine jS3i 33 rfl dX5_looks_30 lk_X5_75 rfl rfl (m_in (by omega) (by omega) (by omega)) (fun r30 H1 ⟨eh_, hr30⟩ => ?_)
  obtain rfl := eh_.symm
  refine j_if_eq 56 36 (by decide) rfl dX5_looks_33 (by intro hR; first | omega | exact hR _ _ | exact jb_r _ | exact hR0 _ _ | assumption) (fun h33 => ?_) (fun h33 => ?_)
  · exfalso; omega
  refine j_iload 38 rfl rfl dX5_looks_36 ?_
  refine jS1i 41 rfl dX5_looks_38 lk_X5_186 rfl rfl (m_isTwo (by omega)) (fun r38 H1 ⟨eh_, hr38⟩ => ?_)
  obtain rfl := eh_.symm
  refine j_if_eq 56 44 (by decide) rfl dX5_looks_41 (by intro hR; first | omega | exact hR _ _ | exact jb_r _ | exact hR0 _ _ | assumption) (fun h41 => ?_) (fun h41 => ?_)
  · exfalso; omega
  refine j_aload_n 45 rfl rfl dX5_looks_44 ?_
  refine j_iload_n 46 rfl rfl dX5_looks_45 ?_
  refine j_iload_n 47 rfl rfl dX5_looks_46 ?_
  refine j_iload_n 48 rfl rfl dX5_looks_47 ?_
  refine j_iload 50 rfl rfl dX5_looks_48 ?_
  refine jV4l 53 rfl dX5_looks_50 lk_X5_268 rfl rfl (by decide) ( rfl) ( rfl) (m_looksOf (by omega) (by omega) (by omega) (by omega) fd) (fun r1 H2 ⟨mq2, fd2, hr1⟩ => ?_)
  refine j_goto 61 (by decide) dX5_looks_53 ?_
  refine j_lretl dX5_looks_61 rfl ?_
  exact ⟨mq.trans mq2, fd2, Or.inr ⟨hok, hr1⟩⟩
-- X5_nightOf
set_option maxHeartbeats 1000000 in
theorem m_nightOf {x t w : Int} (ht : 0 ≤ t ∧ t < 60) (hw : w = 0 ∨ w = 1) (h : FD H) : jOk E mX5_nightOf [jRF E 56, .int (jI x), .int (jI t), .int (jI w)] H (jQi fun r H' => MZ H H' ∧ FD H' ∧ anNight H x t w r) := by
  have hn := h.n
  have ok := h.1.ok
  have okn := cOk_ngt ok x t
  have e00 : cfg H 0 0 = H 1 3 := rfl
  refine jOk.rng (fun hR0 => ?_)
  refine jOk.ofe rfl (Nat.le_of_ble_eq_true rfl) (en_aiii_6 (E := E)) ?_
  have fin : ∀ Hi x4 x5, jCk [none, none, none, none, x4, x5] 5 = true → wk H Hi → holdM Hi (kNgt (cfg H) x t) → jWP E mX5_nightOf (jQi fun r H' => MZ H H' ∧ FD H' ∧ anNight H x t w r) 61 [some (jRF E 56), some (.int (jI x)), some (.int (jI t)), some (.int (jI w)), x4, x5] [] Hi := by
    intro Hi x4 x5 k4 wi hk
    refine j_aload_n 62 rfl rfl dX5_nightOf_61 ?_
    refine j_iload_n 63 rfl rfl dX5_nightOf_62 ?_
    refine jV1v 66 rfl dX5_nightOf_63 lk_X5_179 rfl rfl (by decide) ( rfl) ( rfl) (m_run (by omega) wi hk okn) (fun H3 ⟨w3, h3, a3, _⟩ => ?_)
    have end_ : ∀ r, anNight H x t w r → jWP E mX5_nightOf (jQi fun r H' => MZ H H' ∧ FD H' ∧ anNight H x t w r) 84 [some (jRF E 56), some (.int (jI x)), some (.int (jI t)), some (.int (jI w)), x4, x5] [.int (jI r)] H3 := by
      intro r hr
      refine j_istore 86 rfl st_6_5 (by decide) k4 dX5_nightOf_84 ?_
      refine j_aload_n 87 rfl rfl dX5_nightOf_86 ?_
      refine jV0v 90 rfl dX5_nightOf_87 lk_X5_183 rfl rfl (by decide) ( rfl) ( rfl) (m_find (w3.1.ri h.1)) (fun H4 ⟨mq4, fd4⟩ => ?_)
      refine j_iload 92 rfl rfl dX5_nightOf_90 ?_
      refine j_ireti dX5_nightOf_92 rfl ?_
      exact ⟨w3.1.trans mq4, fd4, hr⟩
    refine j_iload_n 67 rfl rfl dX5_nightOf_66 ?_
    refine j_if_ne 78 70 (by decide) rfl dX5_nightOf_67 (by intro hR; first | omega | exact hR _ _ | exact jb_r _ | exact hR0 _ _ | assumption) (fun h1 => ?_) (fun h1 => ?_)
    · refine j_aload_n 79 rfl rfl dX5_nightOf_78 ?_
      refine j_getr 82 rfl 16 fl_X5_40 dX5_nightOf_79 (by decide) ( rfl) ( rfl) ?_
      refine j_iload_n 83 rfl rfl dX5_nightOf_82 ?_
      refine j_iald 84 rfl dX5_nightOf_83 (by decide) rfl (by decide) rfl (by omega) ?_
      rw [(a3 t ht.1 (Int.le_refl _)).2.1]
      exact end_ _ (Or.inr (Or.inr ⟨ht, by omega, rfl⟩))
    · refine j_aload_n 71 rfl rfl dX5_nightOf_70 ?_
      refine j_iload_n 72 rfl rfl dX5_nightOf_71 ?_
      refine jV1i 75 rfl dX5_nightOf_72 lk_X5_220 rfl rfl (by decide) ( rfl) ( rfl) (m_opened (K := kNgt (cfg H) x t) (by omega) okn.1 (fun s s0 s1 => (a3 s s0 s1).1)) (fun r6 H6 ⟨eh_, hr6⟩ => ?_)
      obtain rfl := eh_.symm
      refine j_goto 84 (by decide) dX5_nightOf_75 ?_
      exact end_ _ (Or.inr (Or.inl ⟨ht, by omega, hr6⟩))
  refine j_iload_n 1 rfl rfl dX5_nightOf_0 ?_
  refine j_istore 3 rfl st_6_4 (by decide) rfl dX5_nightOf_1 ?_
  refine j_iconst 4 rfl dX5_nightOf_3 ?_
  refine j_istore 6 rfl st_6_5 (by decide) rfl dX5_nightOf_4 ?_
  by_cases hz : 0 < H 1 3
  rotate_left
  · refine j_iload 8 rfl rfl dX5_nightOf_6 ?_
    refine j_iload_n 9 rfl rfl dX5_nightOf_8 ?_
    refine j_icmp_gt 61 12 (by decide) rfl dX5_nightOf_9 (by intro hR; first | omega | exact hR _ _ | exact jb_r _ | exact hR0 _ _ | assumption) (by intro hR; first | omega | exact hR _ _ | exact jb_r _ | exact hR0 _ _ | assumption) (fun h1 => ?_) (fun h1 => ?_)
    · exfalso; omega
    · refine j_aload_n 13 rfl rfl dX5_nightOf_12 ?_
      refine g_geti 16 rfl 8 8 rfl fl_X5_109 dX5_nightOf_13 (by decide) ( rfl) ( rfl) ?_
      rw [hn.2.1]
      refine j_if_le 61 19 (by decide) rfl dX5_nightOf_16 (by intro hR; first | omega | exact hR _ _ | exact jb_r _ | exact hR0 _ _ | assumption) (fun h2 => ?_) (fun h2 => ?_)
      · refine fin H _ _ rfl (wk.refl H) ?_
        have e : kNgt (cfg H) x t = cfg H := by
          unfold kNgt
          have : (fun s => if 0 ≤ s ∧ s < t + 1 ∧ 0 < cfg H 0 0 then ngt (cfg H) x s else cfg H 6 s) = cfg H 6 := by
            funext s
            rw [if_neg (fun z => hz z.2.2)]
          rw [this, kTrn_self]
        rw [e]
        exact h.2.1
      · exfalso; omega
  have loop := jUp 0 (t + 1) (fun i => ∀ Hi, wk H Hi → holdM Hi (kTrn (cfg H) (fun s => if 0 ≤ s ∧ s < i then ngt (cfg H) x s else cfg H 6 s)) → jWP E mX5_nightOf (jQi fun r H' => MZ H H' ∧ FD H' ∧ anNight H x t w r) 6 [some (jRF E 56), some (.int (jI x)), some (.int (jI t)), some (.int (jI w)), some (.int (jI (lotI x i))), some (.int (jI i))] [] Hi) ?_ ?_ 0 (by omega) (by omega)
  · refine loop H (wk.refl H) ?_
    have : (fun s => if 0 ≤ s ∧ s < (0 : Int) then ngt (cfg H) x s else cfg H 6 s) = cfg H 6 := by
      funext s
      rw [if_neg (by omega)]
    rw [this, kTrn_self]
    exact h.2.1
  · intro Hi wi hk
    refine j_iload 8 rfl rfl dX5_nightOf_6 ?_
    refine j_iload_n 9 rfl rfl dX5_nightOf_8 ?_
    refine j_icmp_gt 61 12 (by decide) rfl dX5_nightOf_9 (by intro hR; first | omega | exact hR _ _ | exact jb_r _ | exact hR0 _ _ | assumption) (by intro hR; first | omega | exact hR _ _ | exact jb_r _ | exact hR0 _ _ | assumption) (fun h1 => ?_) (fun h1 => ?_)
    · refine fin Hi _ _ rfl wi ?_
      unfold kNgt
      refine holdM_trn_cong hk (fun s s0 s1 => ?_)
      by_cases e : s < t + 1
      · rw [if_pos ⟨s0, e⟩, if_pos ⟨s0, e, hz⟩]
      · rw [if_neg (by omega), if_neg (by omega)]
    · exfalso; omega
  · intro i i0 i1 ih Hi wi hk
    have h6 := (ok.2.2.2.2 i i0 (by omega)).1
    have d65 : Hi 65 (3 * i) = cfg H 6 i := by
      have := (hk.2.2.2 i i0 (by omega)).1
      rw [kTrn_6, if_neg (by omega)] at this
      exact this
    have e8 : Hi 56 8 = H 1 3 := wi.2.2.trans hn.2.1
    rw [lotI_s x i0] at ih
    have hu := ushr16 (1103515245 * lotI x i + 12345)
    have r1 := Int.emod_nonneg (bUshr (1103515245 * lotI x i + 12345) 16) (show H 1 3 ≠ 0 by omega)
    have r2 := Int.emod_lt_of_pos (bUshr (1103515245 * lotI x i + 12345) 16) hz
    have en : ngt (cfg H) x i = bOr (cfg H 6 i) (bShl 1 (bUshr (1103515245 * lotI x i + 12345) 16 % H 1 3)) := by
      unfold ngt
      rw [lotI_s x i0]
      rfl
    have hor := or1_512 h6 (b := bUshr (1103515245 * lotI x i + 12345) 16 % H 1 3) (by omega)
    refine j_iload 8 rfl rfl dX5_nightOf_6 ?_
    refine j_iload_n 9 rfl rfl dX5_nightOf_8 ?_
    refine j_icmp_gt 61 12 (by decide) rfl dX5_nightOf_9 (by intro hR; first | omega | exact hR _ _ | exact jb_r _ | exact hR0 _ _ | assumption) (by intro hR; first | omega | exact hR _ _ | exact jb_r _ | exact hR0 _ _ | assumption) (fun h1 => ?_) (fun h1 => ?_)
    · exfalso; omega
    · refine j_aload_n 13 rfl rfl dX5_nightOf_12 ?_
      refine g_geti 16 rfl 8 8 rfl fl_X5_109 dX5_nightOf_13 (by decide) ( rfl) ( rfl) ?_
      rw [e8]
      refine j_if_le 61 19 (by decide) rfl dX5_nightOf_16 (by intro hR; first | omega | exact hR _ _ | exact jb_r _ | exact hR0 _ _ | assumption) (fun h2 => ?_) (fun h2 => ?_)
      · exfalso; omega
      · refine j_ldcw 22 rfl kc_X5_276 dX5_nightOf_19 ?_
        refine j_iload 24 rfl rfl dX5_nightOf_22 ?_
        refine j_imul 25 rfl dX5_nightOf_24 ?_
        refine j_sipush 28 rfl rfl dX5_nightOf_25 ?_
        refine j_iadd 29 rfl dX5_nightOf_28 ?_
        refine j_istore 31 rfl st_6_4 (by decide) rfl dX5_nightOf_29 ?_
        refine j_aload_n 32 rfl rfl dX5_nightOf_31 ?_
        refine j_getr 35 rfl 14 fl_X5_34 dX5_nightOf_32 (by decide) ( rfl) ( rfl) ?_
        refine j_iconst 36 rfl dX5_nightOf_35 ?_
        refine j_iload 38 rfl rfl dX5_nightOf_36 ?_
        refine j_imul 39 rfl dX5_nightOf_38 ?_
        refine j_dup2 40 rfl rfl rfl dX5_nightOf_39 ?_
        refine j_iald 41 rfl dX5_nightOf_40 (by decide) rfl (by decide) rfl (by omega) ?_
        rw [d65]
        refine j_iconst 42 rfl dX5_nightOf_41 ?_
        refine j_iload 44 rfl rfl dX5_nightOf_42 ?_
        refine j_bipush 46 rfl rfl dX5_nightOf_44 ?_
        refine k_iushr 47 rfl dX5_nightOf_46 ?_
        refine j_aload_n 48 rfl rfl dX5_nightOf_47 ?_
        refine g_geti 51 rfl 8 8 rfl fl_X5_109 dX5_nightOf_48 (by decide) ( rfl) ( rfl) ?_
        rw [e8]
        refine k_irem 52 rfl (by omega) (by intro hR; first | omega | exact hR _ _ | exact jb_r _ | exact hR0 _ _ | assumption) dX5_nightOf_51 ?_
        rw [iRem_n (by omega) (by omega)]
        refine k_ishl 53 rfl dX5_nightOf_52 ?_
        refine k_ior 54 rfl dX5_nightOf_53 ?_
        refine j_iast 55 rfl dX5_nightOf_54 (by decide) rfl (by decide) rfl (by omega) (by intro _; omega) ?_
        rw [← en]
        refine j_iinc 58 rfl rfl st_6_5 (by decide) rfl dX5_nightOf_55 ?_
        refine j_goto 6 (by decide) dX5_nightOf_58 ?_
        refine ih _ (wi.trans (wk.u _ _ (by omega))) (holdM_trn_cong (holdM_trn hk ⟨i0, by omega⟩ _) (fun s s0 s1 => ?_))
        by_cases e : s = i
        · subst e; rw [if_pos rfl, if_pos (by omega)]
        · rw [if_neg e]
          by_cases e2 : 0 ≤ s ∧ s < i
          · rw [if_pos e2, if_pos (by omega)]
          · rw [if_neg e2, if_neg (by omega)]
-- X5_night
theorem m_night {x t w : Int} (ht : -2147483648 ≤ t ∧ t ≤ 2147483647) (hw : -2147483648 ≤ w ∧ w ≤ 2147483647) (h : RI H) : jOk E mX5_night [jRF E 56, .int (jI x), .int (jI t), .int (jI w)] H (jQi fun r H' => MZ H H' ∧ FD H' ∧ anNight H x t w r) := by
  refine jOk.rng (fun hR0 => ?_)
  refine jOk.ofe rfl (Nat.le_of_ble_eq_true rfl) (en_aiii_4 (E := E)) ?_
  refine j_aload_n 1 rfl rfl dX5_night_0 ?_
  refine jV0v 4 rfl dX5_night_1 lk_X5_183 rfl rfl (by decide) ( rfl) ( rfl) (m_find h) (fun H1 ⟨mq, fd⟩ => ?_)
  rw [← mq.same.night]
  by_cases hok : (0 ≤ t ∧ t < 60 ∧ (w = 0 ∨ w = 1))
  rotate_left
  · refine j_iload_n 5 rfl rfl dX5_night_4 ?_
    refine jS1i 8 rfl dX5_night_5 lk_X5_145 rfl rfl (m_isStep (by omega)) (fun r5 H1 ⟨eh_, hr5⟩ => ?_)
    obtain rfl := eh_.symm
    refine j_if_eq 28 11 (by decide) rfl dX5_night_8 (by intro hR; first | omega | exact hR _ _ | exact jb_r _ | exact hR0 _ _ | assumption) (fun h8 => ?_) (fun h8 => ?_)
    · refine j_bipush 30 rfl rfl dX5_night_28 ?_
      refine j_ireti dX5_night_30 rfl ?_
      exact ⟨mq, fd, Or.inl ⟨hok, rfl⟩⟩
    · refine j_iload_n 12 rfl rfl dX5_night_11 ?_
      refine jS1i 15 rfl dX5_night_12 lk_X5_186 rfl rfl (m_isTwo (by omega)) (fun r12 H1 ⟨eh_, hr12⟩ => ?_)
      obtain rfl := eh_.symm
      refine j_if_eq 28 18 (by decide) rfl dX5_night_15 (by intro hR; first | omega | exact hR _ _ | exact jb_r _ | exact hR0 _ _ | assumption) (fun h15 => ?_) (fun h15 => ?_)
      · refine j_bipush 30 rfl rfl dX5_night_28 ?_
        refine j_ireti dX5_night_30 rfl ?_
        exact ⟨mq, fd, Or.inl ⟨hok, rfl⟩⟩
      · exfalso; omega
  refine j_iload_n 5 rfl rfl dX5_night_4 ?_
  refine jS1i 8 rfl dX5_night_5 lk_X5_145 rfl rfl (m_isStep (by omega)) (fun r5 H1 ⟨eh_, hr5⟩ => ?_)
  obtain rfl := eh_.symm
  refine j_if_eq 28 11 (by decide) rfl dX5_night_8 (by intro hR; first | omega | exact hR _ _ | exact jb_r _ | exact hR0 _ _ | assumption) (fun h8 => ?_) (fun h8 => ?_)
  · exfalso; omega
  refine j_iload_n 12 rfl rfl dX5_night_11 ?_
  refine jS1i 15 rfl dX5_night_12 lk_X5_186 rfl rfl (m_isTwo (by omega)) (fun r12 H1 ⟨eh_, hr12⟩ => ?_)
  obtain rfl := eh_.symm
  refine j_if_eq 28 18 (by decide) rfl dX5_night_15 (by intro hR; first | omega | exact hR _ _ | exact jb_r _ | exact hR0 _ _ | assumption) (fun h15 => ?_) (fun h15 => ?_)
  · exfalso; omega
  refine j_aload_n 19 rfl rfl dX5_night_18 ?_
  refine j_iload_n 20 rfl rfl dX5_night_19 ?_
  refine j_iload_n 21 rfl rfl dX5_night_20 ?_
  refine j_iload_n 22 rfl rfl dX5_night_21 ?_
  refine jV3i 25 rfl dX5_night_22 lk_X5_277 rfl rfl (by decide) ( rfl) ( rfl) (m_nightOf (by omega) (by omega) fd) (fun r1 H2 ⟨mq2, fd2, hr1⟩ => ?_)
  refine j_goto 30 (by decide) dX5_night_25 ?_
  refine j_ireti dX5_night_30 rfl ?_
  exact ⟨mq.trans mq2, fd2, hr1⟩
end S43
