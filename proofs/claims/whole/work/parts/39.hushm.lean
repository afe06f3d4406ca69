/-! ===== the reference: hush ===== -/
def wk (H H' : jH) : Prop := MZ H H' ∧ H' 62 = H 62 ∧ H' 56 8 = H 56 8
theorem wk.refl (H : jH) : wk H H := ⟨MZ.refl H, rfl, rfl⟩
theorem wk.mb {H H' : jH} (h : wk H H') (b : mB H) : mB H' := by
  unfold mB
  rw [h.2.1, h.2.2, h.1.1 1 (by omega), h.1.1 3 (by omega), h.1.1 4 (by omega), h.1.1 5 (by omega)]
  exact b
theorem wk.trans {H H1 H2 : jH} (h : wk H H1) (g : wk H1 H2) : wk H H2 := ⟨h.1.trans g.1, g.2.1.trans h.2.1, g.2.2.trans h.2.2⟩
theorem wk.lv {H H' : jH} (f : ∀ k, k ≠ 66 → k ≠ 67 → k ≠ 68 → k ≠ 72 → k ≠ 73 → H' k = H k) : wk H H' := ⟨⟨fun k a => f k (by omega) (by omega) (by omega) (by omega) (by omega), fun j _ => by rw [f 56 (by decide) (by decide) (by decide) (by decide) (by decide)]⟩, f 62 (by decide) (by decide) (by decide) (by decide) (by decide), by rw [f 56 (by decide) (by decide) (by decide) (by decide) (by decide)]⟩
theorem wk.u {H : jH} {k : Nat} (i v : Int) (hk : k = 60 ∨ k = 65 ∨ (66 ≤ k ∧ k ≤ 75) ∨ k = 77) : wk H (jU H k i v) := ⟨⟨fun q a => jU_o (by omega), fun j _ => jU_k (by omega)⟩, jU_o (by omega), jU_k (by omega)⟩
theorem wk.lid (H : jH) (v : Int) : wk H (jU H 56 21 v) := ⟨⟨fun q a => jU_o (by omega), fun j _ => jU_i (by omega)⟩, jU_o (by decide), jU_i (by decide)⟩
theorem FD.back {H H' : jH} (h : FD H) (w : wk H H') (hm : holdM H' (cfg H)) (ar : arr H' (cfg H)) : FD H' := by
  refine ⟨w.1.ri h.1, ?_, w.mb h.2.2.1, ?_⟩
  · rw [w.1.same.cfg]; exact hm
  · rw [w.1.same.cfg]; exact ar
theorem holdM_lid {H K : jH} {L0 : Int} (h : holdM H (kLid K L0)) (L : Int) : holdM (jU H 56 21 L) (kLid K L) := by
  obtain ⟨h1, h2, h3, h4⟩ := h
  refine ⟨by rw [jU_i (by decide)]; exact h1, jU_s, fun b b0 b1 => ?_, fun t t0 t1 => ?_⟩
  · rw [jU_k (by decide), jU_k (by decide), jU_k (by decide), jU_k (by decide)]; exact h3 b b0 b1
  · rw [jU_k (by decide), jU_k (by decide), jU_k (by decide)]; exact h4 t t0 t1
theorem kLid_self {H : jH} : kLid (cfg H) (H 0 2) = cfg H := by
  funext k i
  unfold kLid
  by_cases q : k = 0 ∧ i = 5
  · rw [if_pos q, q.1, q.2]; rfl
  · rw [if_neg q]
theorem low_all : ∀ n : Fin 10, ∀ x : Fin 512, (((x : Nat) : Int) < bShl 1 ((n : Nat) : Int)) ↔ (∀ b : Fin 9, bt ((x : Nat) : Int) ((b : Nat) : Int) = true → b.val < n.val) := by decide +kernel
theorem pow_all : ∀ n : Fin 10, 1 ≤ bShl 1 ((n : Nat) : Int) ∧ bShl 1 ((n : Nat) : Int) ≤ 512 := by decide +kernel
theorem cand_iff {n lid m : Int} (hn : 0 ≤ n ∧ n ≤ 9) (hm : 0 ≤ m ∧ m < 512) : (m < bShl 1 n ∧ bAnd m lid = 0) ↔ candP n lid m := by
  have h := low_all ⟨n.toNat, by omega⟩ ⟨m.toNat, by omega⟩
  simp only [Int.toNat_of_nonneg hn.1, Int.toNat_of_nonneg hm.1] at h
  constructor
  · rintro ⟨a, b⟩
    refine ⟨hm, fun q q0 q1 hq => ⟨?_, ?_⟩⟩
    · have := h.mp a ⟨q.toNat, by omega⟩
      simp only [Int.toNat_of_nonneg q0] at this
      have := this hq
      omega
    · cases hl : bt lid q with
      | false => rfl
      | true => exact absurd b (bAnd_ne.mpr ⟨q, q0, by omega, hq, hl⟩)
  · rintro ⟨a, b⟩
    refine ⟨h.mpr (fun q hq => ?_), ?_⟩
    · have := (b (q.val : Int) (by omega) (by omega) hq).1
      omega
    · apply Classical.byContradiction
      intro z
      obtain ⟨q, q0, q1, hq, hl⟩ := bAnd_ne.mp z
      by_cases e : q < 9
      · rw [(b q q0 e hq).2] at hl; cases hl
      · rw [bt_of512 hm (by omega)] at hq; cases hq
section S39
variable {E : jE} {H K Hi : jH}
theorem m_run {l : Int} (hl : -1 ≤ l ∧ l < 60) (w : wk H Hi) (hm : holdM Hi K) (ok : cOk K) : jOk E mX5_lives [jRF E 56, .int (jI l)] Hi (jQv fun H' => wk H H' ∧ holdM H' K ∧ (∀ t, 0 ≤ t → t ≤ l → H' 66 t = pO K t ∧ H' 67 t = pU K t ∧ ∀ b, 0 ≤ b → b < K 0 0 → H' 68 (9 * t + b) = pL K t b) ∧ (∀ k, k ≠ 66 → k ≠ 67 → k ≠ 68 → k ≠ 72 → k ≠ 73 → H' k = Hi k)) := (m_lives hl hm ok).monv (fun H' q => ⟨w.trans (wk.lv q.1), hm.cong (fun k a => q.1 k (by omega) (by omega) (by omega) (by omega) (by omega)), q.2, q.1⟩)
-- X5_hushOf
def hsP (K : jH) (lid t m best : Int) : Prop := (best = -1 ∧ ∀ q, q < m → candP (K 0 0) lid q → ¬ hushP K lid t q) ∨ (candP (K 0 0) lid best ∧ hushP K lid t best ∧ best < m ∧ ∀ q, q < m → candP (K 0 0) lid q → hushP K lid t q → oc best < oc q ∨ (oc best = oc q ∧ best ≤ q))
theorem hsP_r {K : jH} {lid t m best : Int} (h : hsP K lid t m best) : -1 ≤ best ∧ best < 512 ∧ (best ≠ -1 → 0 ≤ best) := by
  rcases h with ⟨a, _⟩ | ⟨⟨a, _⟩, _⟩ <;> omega
set_option maxHeartbeats 1000000 in
theorem m_hushOf {t : Int} (ht : 0 ≤ t ∧ t < 60) (h : FD H) : jOk E mX5_hushOf [jRF E 56, .int (jI t)] H (jQi fun r H' => MZ H H' ∧ FD H' ∧ isHush (cfg H) (H 0 2) t 1 r) := by
  have hn := h.n
  have ok := h.1.ok
  have hlid := h.1.1.1.2.2.2.1
  have c3 := h.1.2.2.2.1
  have hp := pow_all ⟨(H 1 3).toNat, by omega⟩
  simp only [Int.toNat_of_nonneg hn.2.2.1] at hp
  have ok2 : ∀ L, 0 ≤ L ∧ L < 512 → cOk (kLid (cfg H) L) := fun L hL => cOk_lid ok hL
  refine jOk.rng (fun hR0 => ?_)
  refine jOk.ofe rfl (Nat.le_of_ble_eq_true rfl) (en_ai_4 (E := E)) ?_
  have fin : ∀ Hi best x3, wk H Hi → (∃ L, holdM Hi (kLid (cfg H) L)) → isHush (cfg H) (H 0 2) t 1 best → (-1 ≤ best ∧ best < 512) → jWP E mX5_hushOf (jQi fun r H' => MZ H H' ∧ FD H' ∧ isHush (cfg H) (H 0 2) t 1 r) 75 [some (jRF E 56), some (.int (jI t)), some (.int (jI best)), x3] [] Hi := by
    rintro Hi best x3 w ⟨L, hL⟩ hr hb
    have e11 : Hi 56 11 = H 0 2 := by rw [w.1.2 11 (by omega)]; exact c3
    refine j_aload_n 76 rfl rfl dX5_hushOf_75 ?_
    refine j_aload_n 77 rfl rfl dX5_hushOf_76 ?_
    refine g_geti 80 rfl 11 11 rfl fl_X5_142 dX5_hushOf_77 (by decide) ( rfl) ( rfl) ?_
    rw [e11]
    refine g_puti 83 rfl 21 21 rfl fl_X5_154 ft_5_21 dX5_hushOf_80 (by decide) ( rfl) ( rfl) (by intro hR; first | omega | exact hR _ _ | exact jb_r _ | exact hR0 _ _ | assumption) ?_
    refine j_aload_n 84 rfl rfl dX5_hushOf_83 ?_
    refine j_bipush 86 rfl rfl dX5_hushOf_84 ?_
    have hl2 := holdM_lid hL (H 0 2)
    rw [kLid_self] at hl2
    refine jV1v 89 rfl dX5_hushOf_86 lk_X5_179 rfl rfl (by decide) ( rfl) ( rfl) (m_run (by omega) (w.trans (wk.lid Hi (H 0 2))) hl2 ok) (fun H2 ⟨w2, h2, a2, _⟩ => ?_)
    refine j_iload_n 90 rfl rfl dX5_hushOf_89 ?_
    refine j_ireti dX5_hushOf_90 rfl ?_
    exact ⟨w2.1, h.back w2 h2 (fun s s0 s1 => a2 s s0 (by omega)), hr⟩
  refine j_iconst 1 rfl dX5_hushOf_0 ?_
  refine j_istore_n 2 rfl st_4_2 (by decide) rfl dX5_hushOf_1 ?_
  refine j_iconst 3 rfl dX5_hushOf_2 ?_
  refine j_istore_n 4 rfl st_4_3 (by decide) rfl dX5_hushOf_3 ?_
  have loop := jUp 0 (bShl 1 (H 1 3)) (fun m => ∀ Hi best, wk H Hi → (∃ L, holdM Hi (kLid (cfg H) L)) → hsP (cfg H) (H 0 2) t m best → jWP E mX5_hushOf (jQi fun r H' => MZ H H' ∧ FD H' ∧ isHush (cfg H) (H 0 2) t 1 r) 4 [some (jRF E 56), some (.int (jI t)), some (.int (jI best)), some (.int (jI m))] [] Hi) ?_ ?_ 0 (by omega) (by omega)
  · exact loop H (-1) (wk.refl H) ⟨H 0 2, by rw [kLid_self]; exact h.2.1⟩ (Or.inl ⟨rfl, fun q q0 c => by have := c.1.1; omega⟩)
  · intro Hi best w hL hs
    have hbr := hsP_r hs
    have e8 : Hi 56 8 = H 1 3 := w.2.2.trans hn.2.1
    refine j_iload_n 5 rfl rfl dX5_hushOf_4 ?_
    refine j_iconst 6 rfl dX5_hushOf_5 ?_
    refine j_aload_n 7 rfl rfl dX5_hushOf_6 ?_
    refine g_geti 10 rfl 8 8 rfl fl_X5_109 dX5_hushOf_7 (by decide) ( rfl) ( rfl) ?_
    rw [e8]
    refine k_ishl 11 rfl dX5_hushOf_10 ?_
    refine j_icmp_ge 75 14 (by decide) rfl dX5_hushOf_11 (by intro hR; first | omega | exact hR _ _ | exact jb_r _ | exact hR0 _ _ | assumption) (by intro hR; first | omega | exact hR _ _ | exact jb_r _ | exact hR0 _ _ | assumption) (fun h1 => ?_) (fun h1 => ?_)
    · refine fin Hi best _ w hL ?_ (by omega)
      have big : ∀ q, candP (H 1 3) (H 0 2) q → q < bShl 1 (H 1 3) := fun q c => ((cand_iff (by omega) c.1).mpr c).1
      rcases hs with ⟨a, b⟩ | ⟨a, b, c, d⟩
      · exact Or.inr ⟨fun q c => b q (big q c) c, a⟩
      · exact Or.inl ⟨best, a, b, fun q q1 q2 => d q (big q q1) q1 q2, by rw [if_neg (by decide)]⟩
    · exfalso; omega
  · intro m m0 m1 ih Hi best w hL hs
    have hbr := hsP_r hs
    have e8 : Hi 56 8 = H 1 3 := w.2.2.trans hn.2.1
    have e11 : Hi 56 11 = H 0 2 := by rw [w.1.2 11 (by omega)]; exact c3
    have hci := cand_iff (n := H 1 3) (lid := H 0 2) (m := m) (by omega) (by omega)
    have om := oc_r m
    have ob := oc_r best
    have skip : ∀ Hi, wk H Hi → (∃ L, holdM Hi (kLid (cfg H) L)) → (candP (H 1 3) (H 0 2) m → hushP (cfg H) (H 0 2) t m → best ≠ -1 ∧ oc best ≤ oc m) → jWP E mX5_hushOf (jQi fun r H' => MZ H H' ∧ FD H' ∧ isHush (cfg H) (H 0 2) t 1 r) 69 [some (jRF E 56), some (.int (jI t)), some (.int (jI best)), some (.int (jI m))] [] Hi := by
      intro Hi w hL hno
      refine j_iinc 72 rfl rfl st_4_3 (by decide) rfl dX5_hushOf_69 ?_
      refine j_goto 4 (by decide) dX5_hushOf_72 ?_
      refine ih Hi best w hL ?_
      rcases hs with ⟨a, b⟩ | ⟨a, b, c, d⟩
      · refine Or.inl ⟨a, fun q q1 c z => ?_⟩
        by_cases e : q = m
        · subst e; exact absurd a (hno c z).1
        · exact b q (by omega) c z
      · refine Or.inr ⟨a, b, by omega, fun q q1 cc z => ?_⟩
        by_cases e : q = m
        · subst e; have := (hno cc z).2; omega
        · exact d q (by omega) cc z
    have try_ : candP (H 1 3) (H 0 2) m → (best = -1 ∨ oc m < oc best) → jWP E mX5_hushOf (jQi fun r H' => MZ H H' ∧ FD H' ∧ isHush (cfg H) (H 0 2) t 1 r) 39 [some (jRF E 56), some (.int (jI t)), some (.int (jI best)), some (.int (jI m))] [] Hi := by
      intro hc hb
      obtain ⟨L, hL⟩ := hL
      have hor : 0 ≤ bOr (H 0 2) m ∧ bOr (H 0 2) m < 512 := by
        apply bt_512 (jb_r _)
        intro q q0 q1
        show bt (bOr (H 0 2) m) q = false
        rw [bt_or, bt_of512 hlid q0, bt_of512 hc.1 q0]; rfl
      refine j_aload_n 40 rfl rfl dX5_hushOf_39 ?_
      refine j_aload_n 41 rfl rfl dX5_hushOf_40 ?_
      refine g_geti 44 rfl 11 11 rfl fl_X5_142 dX5_hushOf_41 (by decide) ( rfl) ( rfl) ?_
      rw [e11]
      refine j_iload_n 45 rfl rfl dX5_hushOf_44 ?_
      refine k_ior 46 rfl dX5_hushOf_45 ?_
      refine g_puti 49 rfl 21 21 rfl fl_X5_154 ft_5_21 dX5_hushOf_46 (by decide) rfl rfl (by intro _; omega) ?_
      refine j_aload_n 50 rfl rfl dX5_hushOf_49 ?_
      refine j_iload_n 51 rfl rfl dX5_hushOf_50 ?_
      refine jV1v 54 rfl dX5_hushOf_51 lk_X5_179 rfl rfl (by decide) ( rfl) ( rfl) (m_run (by omega) (w.trans (wk.lid Hi (bOr (H 0 2) m))) (holdM_lid hL (bOr (H 0 2) m)) (ok2 _ hor)) (fun H2 ⟨w2, h2, a2, _⟩ => ?_)
      have eu := (a2 t (by omega) (by omega)).2.1
      have hur := pU_r (ok2 _ hor).1 t
      refine j_aload_n 55 rfl rfl dX5_hushOf_54 ?_
      refine j_getr 58 rfl 16 fl_X5_40 dX5_hushOf_55 (by decide) ( rfl) ( rfl) ?_
      refine j_iload_n 59 rfl rfl dX5_hushOf_58 ?_
      refine j_iald 60 rfl dX5_hushOf_59 (by decide) rfl (by decide) rfl (by omega) ?_
      rw [eu]
      refine j_if_ne 67 63 (by decide) rfl dX5_hushOf_60 (by intro hR; first | omega | exact hR _ _ | exact jb_r _ | exact hR0 _ _ | assumption) (fun h3 => ?_) (fun h3 => ?_)
      · refine j_iload_n 68 rfl rfl dX5_hushOf_67 ?_
        refine j_istore_n 69 rfl st_4_2 (by decide) rfl dX5_hushOf_68 ?_
        exact skip H2 w2 ⟨_, h2⟩ (fun _ z => absurd z h3)
      · refine j_iload_n 64 rfl rfl dX5_hushOf_63 ?_
        refine j_goto 68 (by decide) dX5_hushOf_64 ?_
        refine j_istore_n 69 rfl st_4_2 (by decide) rfl dX5_hushOf_68 ?_
        refine j_iinc 72 rfl rfl st_4_3 (by decide) rfl dX5_hushOf_69 ?_
        refine j_goto 4 (by decide) dX5_hushOf_72 ?_
        refine ih H2 m w2 ⟨_, h2⟩ (Or.inr ⟨hc, by unfold hushP; omega, by omega, fun q q1 c z => ?_⟩)
        by_cases e : q = m
        · subst e; exact Or.inr ⟨rfl, Int.le_refl _⟩
        · rcases hs with ⟨a, b⟩ | ⟨a, b, _, d⟩
          · exact absurd z (b q (by omega) c)
          · have := d q (by omega) c z
            have := a.1
            omega
    refine j_iload_n 5 rfl rfl dX5_hushOf_4 ?_
    refine j_iconst 6 rfl dX5_hushOf_5 ?_
    refine j_aload_n 7 rfl rfl dX5_hushOf_6 ?_
    refine g_geti 10 rfl 8 8 rfl fl_X5_109 dX5_hushOf_7 (by decide) ( rfl) ( rfl) ?_
    rw [e8]
    refine k_ishl 11 rfl dX5_hushOf_10 ?_
    refine j_icmp_ge 75 14 (by decide) rfl dX5_hushOf_11 (by intro hR; first | omega | exact hR _ _ | exact jb_r _ | exact hR0 _ _ | assumption) (by intro hR; first | omega | exact hR _ _ | exact jb_r _ | exact hR0 _ _ | assumption) (fun h1 => ?_) (fun h1 => ?_)
    · exfalso; omega
    · refine j_iload_n 15 rfl rfl dX5_hushOf_14 ?_
      refine j_aload_n 16 rfl rfl dX5_hushOf_15 ?_
      refine g_geti 19 rfl 11 11 rfl fl_X5_142 dX5_hushOf_16 (by decide) ( rfl) ( rfl) ?_
      rw [e11]
      refine k_iand 20 rfl dX5_hushOf_19 ?_
      refine j_if_ne 69 23 (by decide) rfl dX5_hushOf_20 (by intro hR; first | omega | exact hR _ _ | exact jb_r _ | exact hR0 _ _ | assumption) (fun h2 => ?_) (fun h2 => ?_)
      · exact skip Hi w hL (fun c _ => absurd (hci.mpr c).2 h2)
      · have hc := hci.mp ⟨m1, by omega⟩
        refine j_iload_n 24 rfl rfl dX5_hushOf_23 ?_
        refine j_iconst 25 rfl dX5_hushOf_24 ?_
        refine j_icmp_eq 39 28 (by decide) rfl dX5_hushOf_25 (by intro hR; first | omega | exact hR _ _ | exact jb_r _ | exact hR0 _ _ | assumption) (by intro hR; first | omega | exact hR _ _ | exact jb_r _ | exact hR0 _ _ | assumption) (fun h3 => ?_) (fun h3 => ?_)
        · exact try_ hc (Or.inl h3)
        · refine j_iload_n 29 rfl rfl dX5_hushOf_28 ?_
          refine jS1i 32 rfl dX5_hushOf_29 lk_X5_167 rfl rfl (m_ones (by omega)) (fun r1 H9 ⟨eh_, hr1⟩ => ?_)
          obtain rfl := eh_.symm
          refine j_iload_n 33 rfl rfl dX5_hushOf_32 ?_
          refine jS1i 36 rfl dX5_hushOf_33 lk_X5_167 rfl rfl (m_ones (by omega)) (fun r2 H9 ⟨eh_, hr2⟩ => ?_)
          obtain rfl := eh_.symm
          refine j_icmp_ge 69 39 (by decide) rfl dX5_hushOf_36 (by intro hR; first | omega | exact hR _ _ | exact jb_r _ | exact hR0 _ _ | assumption) (by intro hR; first | omega | exact hR _ _ | exact jb_r _ | exact hR0 _ _ | assumption) (fun h4 => ?_) (fun h4 => ?_)
          · exact skip Hi w hL (fun _ _ => ⟨h3, by omega⟩)
          · exact try_ hc (Or.inr (by omega))
-- X5_hush
theorem m_hush {t w : Int} (ht : -2147483648 ≤ t ∧ t ≤ 2147483647) (hw : -2147483648 ≤ w ∧ w ≤ 2147483647) (h : RI H) : jOk E mX5_hush [jRF E 56, .int (jI t), .int (jI w)] H (jQi fun r H' => MZ H H' ∧ FD H' ∧ anHush H t w r) := by
  refine jOk.rng (fun hR0 => ?_)
  refine jOk.ofe rfl (Nat.le_of_ble_eq_true rfl) (en_aii_3 (E := E)) ?_
  refine j_aload_n 1 rfl rfl dX5_hush_0 ?_
  refine jV0v 4 rfl dX5_hush_1 lk_X5_183 rfl rfl (by decide) ( rfl) ( rfl) (m_find h) (fun H1 ⟨mq, fd⟩ => ?_)
  rw [← mq.same.hush]
  by_cases hok : (0 ≤ t ∧ t < 60 ∧ (w = 0 ∨ w = 1))
  rotate_left
  · refine j_iload_n 5 rfl rfl dX5_hush_4 ?_
    refine jS1i 8 rfl dX5_hush_5 lk_X5_145 rfl rfl (m_isStep (by omega)) (fun r5 H1 ⟨eh_, hr5⟩ => ?_)
    obtain rfl := eh_.symm
    refine j_if_eq 30 11 (by decide) rfl dX5_hush_8 (by intro hR; first | omega | exact hR _ _ | exact jb_r _ | exact hR0 _ _ | assumption) (fun h8 => ?_) (fun h8 => ?_)
    · refine j_bipush 32 rfl rfl dX5_hush_30 ?_
      refine j_ireti dX5_hush_32 rfl ?_
      exact ⟨mq, fd, Or.inl ⟨hok, rfl⟩⟩
    · refine j_iload_n 12 rfl rfl dX5_hush_11 ?_
      refine jS1i 15 rfl dX5_hush_12 lk_X5_186 rfl rfl (m_isTwo (by omega)) (fun r12 H1 ⟨eh_, hr12⟩ => ?_)
      obtain rfl := eh_.symm
      refine j_if_eq 30 18 (by decide) rfl dX5_hush_15 (by intro hR; first | omega | exact hR _ _ | exact jb_r _ | exact hR0 _ _ | assumption) (fun h15 => ?_) (fun h15 => ?_)
      · refine j_bipush 32 rfl rfl dX5_hush_30 ?_
        refine j_ireti dX5_hush_32 rfl ?_
        exact ⟨mq, fd, Or.inl ⟨hok, rfl⟩⟩
      · exfalso; omega
  refine j_iload_n 5 rfl rfl dX5_hush_4 ?_
  refine jS1i 8 rfl dX5_hush_5 lk_X5_145 rfl rfl (m_isStep (by omega)) (fun r5 H1 ⟨eh_, hr5⟩ => ?_)
  obtain rfl := eh_.symm
  refine j_if_eq 30 11 (by decide) rfl dX5_hush_8 (by intro hR; first | omega | exact hR _ _ | exact jb_r _ | exact hR0 _ _ | assumption) (fun h8 => ?_) (fun h8 => ?_)
  · exfalso; omega
  refine j_iload_n 12 rfl rfl dX5_hush_11 ?_
  refine jS1i 15 rfl dX5_hush_12 lk_X5_186 rfl rfl (m_isTwo (by omega)) (fun r12 H1 ⟨eh_, hr12⟩ => ?_)
  obtain rfl := eh_.symm
  refine j_if_eq 30 18 (by decide) rfl dX5_hush_15 (by intro hR; first | omega | exact hR _ _ | exact jb_r _ | exact hR0 _ _ | assumption) (fun h15 => ?_) (fun h15 => ?_)
  · exfalso; omega
  refine j_aload_n 19 rfl rfl dX5_hush_18 ?_
  refine j_iload_n 20 rfl rfl dX5_hush_19 ?_
  refine jV1i 23 rfl dX5_hush_20 lk_X5_210 rfl rfl (by decide) ( rfl) ( rfl) (m_hushOf (by omega) fd) (fun r1 H2 ⟨mq2, fd2, hr1⟩ => ?_)
  have hb : -1 ≤ r1 ∧ r1 < 512 := by
    rcases hr1 with ⟨m, a, _, _, e⟩ | ⟨_, e⟩
    · rw [if_neg (by decide)] at e; have := a.1; omega
    · omega
  refine j_iload_n 24 rfl rfl dX5_hush_23 ?_
  refine jS2i 27 rfl dX5_hush_24 lk_X5_213 rfl rfl (m_tells hb (by omega)) (fun r2 H9 ⟨eh_, hr2⟩ => ?_)
  obtain rfl := eh_.symm
  refine j_goto 32 (by decide) dX5_hush_27 ?_
  have hor := oc_r r1
  refine j_ireti dX5_hush_32 rfl ?_
  refine ⟨mq.trans mq2, fd2, Or.inr ⟨hok, ?_⟩⟩
  rcases hr1 with ⟨m, a, b, c, e⟩ | ⟨a, e⟩
  · rw [if_neg (by decide)] at e
    refine Or.inl ⟨m, a, b, c, ?_⟩
    subst e
    have := a.1
    by_cases ew : w = 0
    · rw [if_pos ew]; omega
    · rw [if_neg ew]; omega
  · exact Or.inr ⟨a, by omega⟩
end S39
