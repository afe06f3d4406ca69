/-! ===== the reference: lives, second half ===== -/
section S35
variable {E : jE} {H K : jH} {Q : Option Value → jH → Prop}
-- X5_lives
set_option maxHeartbeats 1000000 in
theorem m_lv2 {l t : Int} {H0 : jH} (hm : holdM H K) (ok : cOk K) (ht : 0 ≤ t ∧ t < 60) (hl : l < 60) (rel : mRel H0 K t) (fr : ∀ k, k ≠ 72 → k ≠ 73 → H k = H0 k) (h72 : ∀ b, 0 ≤ b → b < K 0 0 → H 72 b = pTu K t (pS K t.toNat) b ∧ H 73 b = pAl K t (pS K t.toNat) b)
    (cont : ∀ Hi x3 x4 x5 x6 x7, jCk [none, none, none, none, none, none, x6, x7] 7 = true → (∀ k, k ≠ 66 → k ≠ 67 → k ≠ 68 → k ≠ 72 → k ≠ 73 → Hi k = H0 k) → mRel Hi K (t + 1) → (∀ q, q ≠ t → Hi 66 q = H0 66 q ∧ Hi 67 q = H0 67 q) → (∀ q, q < 9 * t → Hi 68 q = H0 68 q) → jWP E mX5_lives Q 32 [some (jRF E 56), some (.int (jI l)), some (.int (jI (t + 1))), some (.int (jI x3)), some (.int (jI x4)), some (.int (jI x5)), x6, x7] [] Hi)
    (x5 : Int) (x6 x7 : Option Value) (h6 : jCk [none, none, none, none, none, none, x6, x7] 7 = true) :
    jWP E mX5_lives Q 246 [some (jRF E 56), some (.int (jI l)), some (.int (jI t)), some (.int (jI (pS K t.toNat).1)), some (.int (jI (mkI (pOp K t (pS K t.toNat)) (K 0 0)))), some (.int (jI x5)), x6, x7] [] H := by
  have hn := ok.1
  have hm0 := hm
  obtain ⟨m1, m2, m3, m4⟩ := hm
  obtain ⟨e6, e7, e8⟩ := m4 t ht.1 ht.2
  obtain ⟨rel1, rel2⟩ := rel
  have hU := pS_U hn t.toNat
  have hmk := mkI_lt (pOp K t (pS K t.toNat)) hn
  have eS : pS K (t + 1).toNat = pStep K t (pS K t.toNat) := by
    rw [show (t + 1).toNat = t.toNat + 1 by omega, pS, Int.toNat_of_nonneg ht.1]
  have spr : ∀ b, 0 ≤ b → b < K 0 0 → sprM H t b = (pS K t.toNat).2.2.1 b := fun b b0 b1 => by
    rw [← (rel1 b b0 b1).2.2]
    unfold sprM
    rw [fr 62 (by decide) (by decide), fr 68 (by decide) (by decide)]
  have loop := jUp 0 (K 0 0) (fun b => ∀ Hi x6 x7, jCk [none, none, none, none, none, none, x6, x7] 7 = true → (∀ k, k ≠ 68 → k ≠ 72 → k ≠ 73 → Hi k = H k) → (∀ q, (q < 9 * t ∨ 9 * t + b ≤ q) → Hi 68 q = H 68 q) → (∀ c, 0 ≤ c → c < b → Hi 68 (9 * t + c) = (pStep K t (pS K t.toNat)).2.2.1 c ∧ Hi 72 c = (pStep K t (pS K t.toNat)).2.2.2.1 c ∧ Hi 73 c = (pStep K t (pS K t.toNat)).2.2.2.2 c) → (∀ c, b ≤ c → Hi 72 c = H 72 c ∧ Hi 73 c = H 73 c) → jWP E mX5_lives Q 249 ([some (jRF E 56), some (.int (jI l)), some (.int (jI t)), some (.int (jI (pS K t.toNat).1)), some (.int (jI (mkI (pOp K t (pS K t.toNat)) (K 0 0)))), some (.int (jI b)), x6, x7]) [] Hi) ?_ ?_ 0 (by omega) (by omega)
  · refine j_iconst 247 rfl dX5_lives_246 ?_
    refine j_istore 249 rfl st_8_5 (by decide) rfl dX5_lives_247 ?_
    exact loop H x6 x7 h6 (fun _ _ _ _ => rfl) (fun _ _ => rfl) (fun c c0 c1 => by omega) (fun _ _ => ⟨rfl, rfl⟩)
  · intro Hi x6 x7 hck g1 g2 g3 g4
    refine j_iload 251 rfl rfl dX5_lives_249 ?_
    refine j_aload_n 252 rfl rfl dX5_lives_251 ?_
    refine g_geti 255 rfl 8 8 rfl fl_X5_109 dX5_lives_252 (by decide) ( rfl) ( rfl) ?_
    rw [g1 56 (by decide) (by decide) (by decide), m1]
    refine j_icmp_ge 351 258 (by decide) rfl dX5_lives_255 (by intro hR; first | omega | exact hR _ _ | exact jb_r _ | exact hR0 _ _ | assumption) (by intro hR; first | omega | exact hR _ _ | exact jb_r _ | exact hR0 _ _ | assumption) (fun h1 => ?_) (fun h1 => ?_)
    · refine j_aload_n 352 rfl rfl dX5_lives_351 ?_
      refine j_getr 355 rfl 15 fl_X5_37 dX5_lives_352 (by decide) ( rfl) ( rfl) ?_
      refine j_iload_n 356 rfl rfl dX5_lives_355 ?_
      refine j_iload 358 rfl rfl dX5_lives_356 ?_
      refine j_iast 359 rfl dX5_lives_358 (by decide) rfl (by decide) rfl (by omega) (by intro _; omega) ?_
      refine j_aload_n 360 rfl rfl dX5_lives_359 ?_
      refine j_getr 363 rfl 16 fl_X5_40 dX5_lives_360 (by decide) ( rfl) ( rfl) ?_
      refine j_iload_n 364 rfl rfl dX5_lives_363 ?_
      refine j_iload_n 365 rfl rfl dX5_lives_364 ?_
      refine j_iload 367 rfl rfl dX5_lives_365 ?_
      refine k_ior 368 rfl dX5_lives_367 ?_
      refine j_aload_n 369 rfl rfl dX5_lives_368 ?_
      refine j_getr 372 rfl 14 fl_X5_34 dX5_lives_369 (by decide) ( rfl) ( rfl) ?_
      refine j_iconst 373 rfl dX5_lives_372 ?_
      refine j_iload_n 374 rfl rfl dX5_lives_373 ?_
      refine j_imul 375 rfl dX5_lives_374 ?_
      refine j_iconst 376 rfl dX5_lives_375 ?_
      refine j_iadd 377 rfl dX5_lives_376 ?_
      refine j_iald 378 rfl dX5_lives_377 (by decide) rfl (by decide) rfl (by omega) ?_
      try simp (disch := omega) only [jU_k]
      rw [g1 65 (by decide) (by decide) (by decide), e8]
      refine j_iconst 379 rfl dX5_lives_378 ?_
      refine k_ixor 380 rfl dX5_lives_379 ?_
      refine k_iand 381 rfl dX5_lives_380 ?_
      refine j_iast 382 rfl dX5_lives_381 (by decide) rfl (by decide) rfl (by omega) (by intro _; exact jb_r _) ?_
      refine j_iinc 385 rfl rfl st_8_2 (by decide) rfl dX5_lives_382 ?_
      refine j_goto 32 (by decide) dX5_lives_385 ?_
      refine cont _ _ _ _ _ _ hck (fun k a1 a2 a3 a4 a5 => by rw [jU_o a2, jU_o a1, g1 k a3 a4 a5, fr k a4 a5]) ⟨fun b b0 b1 => ?_, fun _ => ?_⟩ (fun q hq => ?_) (fun q hq => ?_)
      · obtain ⟨w1, w2, w3⟩ := g3 b b0 b1
        rw [eS]
        refine ⟨by rw [jU_k (by decide), jU_k (by decide)]; exact w2, by rw [jU_k (by decide), jU_k (by decide)]; exact w3, ?_⟩
        unfold sprM
        rw [if_neg (by omega), jU_k (by decide), jU_k (by decide), show t + 1 - 1 = t by omega]
        exact w1
      · rw [eS, show t + 1 - 1 = t by omega]
        refine ⟨by rw [jU_k (by decide), jU_s]; rfl, by rw [jU_s]; rfl⟩
      · refine ⟨by rw [jU_k (by decide), jU_i hq, g1 66 (by decide) (by decide) (by decide), fr 66 (by decide) (by decide)], by rw [jU_i hq, jU_k (by decide), g1 67 (by decide) (by decide) (by decide), fr 67 (by decide) (by decide)]⟩
      · rw [jU_k (by decide), jU_k (by decide), g2 q (Or.inl hq), fr 68 (by decide) (by decide)]
    · exfalso; omega
  · intro b b0 b1 ih Hi x6 x7 hck g1 g2 g3 g4
    have hbt : bt (mkI (pOp K t (pS K t.toNat)) (K 0 0)) b = pOp K t (pS K t.toNat) b := by
      rw [bt_mk _ (by omega) b0]
      simp [b1]
    have u5 := bI_r (pOp K t (pS K t.toNat) b)
    obtain ⟨a72, a73⟩ := h72 b b0 b1
    obtain ⟨c72, c73⟩ := g4 b (Int.le_refl _)
    rw [a72] at c72
    rw [a73] at c73
    have htr := pS_tr (K := K) (b := b) t.toNat
    have hT := pTu_i K t (pS K t.toNat) b
    have hA := pAl_i K t (pS K t.toNat) b
    have hlr := pS_lr (ok.2.2.1 b b0 b1).2.2.2.1 t.toNat
    have sprH : sprM Hi t b = (pS K t.toNat).2.2.1 b := by
      rw [← spr b b0 b1]
      unfold sprM
      by_cases e : t = 0
      · rw [if_pos e, if_pos e, g1 62 (by decide) (by decide) (by decide)]
      · rw [if_neg e, if_neg e, g2 _ (Or.inl (by omega))]
    have eL : (pStep K t (pS K t.toNat)).2.2.1 b = (pS K t.toNat).2.2.1 b - bI (pOp K t (pS K t.toNat) b) := by
      show (if pOp K t (pS K t.toNat) b then _ else _) = _
      cases pOp K t (pS K t.toNat) b <;> simp [bI]
    have eT : (pStep K t (pS K t.toNat)).2.2.2.1 b = if bI (pOp K t (pS K t.toNat) b) = 1 then 0 else pTu K t (pS K t.toNat) b := by
      show (if pOp K t (pS K t.toNat) b then _ else _) = _
      cases pOp K t (pS K t.toNat) b <;> simp [bI]
    have eA : (pStep K t (pS K t.toNat)).2.2.2.2 b = if bI (pOp K t (pS K t.toNat) b) = 1 then 0 else pAl K t (pS K t.toNat) b := by
      show (if pOp K t (pS K t.toNat) b then _ else _) = _
      cases pOp K t (pS K t.toNat) b <;> simp [bI]
    have fin : ∀ op, jWP E mX5_lives Q 345 [some (jRF E 56), some (.int (jI l)), some (.int (jI t)), some (.int (jI (pS K t.toNat).1)), some (.int (jI (mkI (pOp K t (pS K t.toNat)) (K 0 0)))), some (.int (jI b)), some (.int (jI op)), x7] [] (jU (jU (jU Hi 68 (9 * t + b) ((pStep K t (pS K t.toNat)).2.2.1 b)) 72 b ((pStep K t (pS K t.toNat)).2.2.2.1 b)) 73 b ((pStep K t (pS K t.toNat)).2.2.2.2 b)) := by
      intro op
      refine j_iinc 348 rfl rfl st_8_5 (by decide) rfl dX5_lives_345 ?_
      refine j_goto 249 (by decide) dX5_lives_348 ?_
      refine ih _ _ _ rfl (fun k a1 a2 a3 => by rw [jU_o a3, jU_o a2, jU_o a1]; exact g1 k a1 a2 a3) (fun q hq => ?_) (fun c c0 c1 => ?_) (fun c hc => ?_)
      · rw [jU_k (by decide), jU_k (by decide), jU_i (by omega)]
        exact g2 q (by omega)
      · by_cases e : c = b
        · subst e
          refine ⟨by rw [jU_k (by decide), jU_k (by decide), jU_s], by rw [jU_k (by decide), jU_s], jU_s⟩
        · obtain ⟨w1, w2, w3⟩ := g3 c c0 (by omega)
          refine ⟨by rw [jU_k (by decide), jU_k (by decide), jU_i (by omega)]; exact w1, by rw [jU_k (by decide), jU_i e, jU_k (by decide)]; exact w2, by rw [jU_i e, jU_k (by decide), jU_k (by decide)]; exact w3⟩
      · rw [jU_k (by decide), jU_i (by omega), jU_k (by decide), jU_i (by omega), jU_k (by decide), jU_k (by decide)]
        exact g4 c (by omega)
    have st3 : ∀ op, op = bI (pOp K t (pS K t.toNat) b) → jWP E mX5_lives Q 322 [some (jRF E 56), some (.int (jI l)), some (.int (jI t)), some (.int (jI (pS K t.toNat).1)), some (.int (jI (mkI (pOp K t (pS K t.toNat)) (K 0 0)))), some (.int (jI b)), some (.int (jI op)), x7] [] (jU (jU Hi 68 (9 * t + b) ((pStep K t (pS K t.toNat)).2.2.1 b)) 72 b ((pStep K t (pS K t.toNat)).2.2.2.1 b)) := by
      intro op hop
      have put : ∀ y, y = (pStep K t (pS K t.toNat)).2.2.2.2 b → (-2147483648 ≤ y ∧ y ≤ 2147483647) → jWP E mX5_lives Q 344 [some (jRF E 56), some (.int (jI l)), some (.int (jI t)), some (.int (jI (pS K t.toNat).1)), some (.int (jI (mkI (pOp K t (pS K t.toNat)) (K 0 0)))), some (.int (jI b)), some (.int (jI op)), x7] [.int (jI y), .int (jI b), jRF E 73] (jU (jU Hi 68 (9 * t + b) ((pStep K t (pS K t.toNat)).2.2.1 b)) 72 b ((pStep K t (pS K t.toNat)).2.2.2.1 b)) := by
        intro y hy hr
        subst hy
        refine j_iast 345 rfl dX5_lives_344 (by decide) rfl (by decide) rfl (by omega) (by intro hR; first | omega | exact hR _ _ | exact jb_r _ | exact hR0 _ _ | assumption) ?_
        exact fin op
      refine j_aload_n 323 rfl rfl dX5_lives_322 ?_
      refine j_getr 326 rfl 23 fl_X5_58 dX5_lives_323 (by decide) ( rfl) ( rfl) ?_
      refine j_iload 328 rfl rfl dX5_lives_326 ?_
      refine j_iload 330 rfl rfl dX5_lives_328 ?_
      refine j_if_eq 337 333 (by decide) rfl dX5_lives_330 (by intro hR; first | omega | exact hR _ _ | exact jb_r _ | exact hR0 _ _ | assumption) (fun h2 => ?_) (fun h2 => ?_)
      · refine j_aload_n 338 rfl rfl dX5_lives_337 ?_
        refine j_getr 341 rfl 23 fl_X5_58 dX5_lives_338 (by decide) ( rfl) ( rfl) ?_
        refine j_iload 343 rfl rfl dX5_lives_341 ?_
        refine j_iald 344 rfl dX5_lives_343 (by decide) rfl (by decide) rfl (by omega) ?_
        rw [jU_k (by decide), jU_k (by decide), c73]
        exact put _ (by rw [eA, if_neg (by omega)]) (by omega)
      · refine j_iconst 334 rfl dX5_lives_333 ?_
        refine j_goto 344 (by decide) dX5_lives_334 ?_
        exact put 0 (by rw [eA, if_pos (by omega)]) (by omega)
    have st2 : ∀ op, op = bI (pOp K t (pS K t.toNat) b) → jWP E mX5_lives Q 299 [some (jRF E 56), some (.int (jI l)), some (.int (jI t)), some (.int (jI (pS K t.toNat).1)), some (.int (jI (mkI (pOp K t (pS K t.toNat)) (K 0 0)))), some (.int (jI b)), some (.int (jI op)), x7] [] (jU Hi 68 (9 * t + b) ((pStep K t (pS K t.toNat)).2.2.1 b)) := by
      intro op hop
      have put : ∀ y, y = (pStep K t (pS K t.toNat)).2.2.2.1 b → (-2147483648 ≤ y ∧ y ≤ 2147483647) → jWP E mX5_lives Q 321 [some (jRF E 56), some (.int (jI l)), some (.int (jI t)), some (.int (jI (pS K t.toNat).1)), some (.int (jI (mkI (pOp K t (pS K t.toNat)) (K 0 0)))), some (.int (jI b)), some (.int (jI op)), x7] [.int (jI y), .int (jI b), jRF E 72] (jU Hi 68 (9 * t + b) ((pStep K t (pS K t.toNat)).2.2.1 b)) := by
        intro y hy hr
        subst hy
        refine j_iast 322 rfl dX5_lives_321 (by decide) rfl (by decide) rfl (by omega) (by intro hR; first | omega | exact hR _ _ | exact jb_r _ | exact hR0 _ _ | assumption) ?_
        exact st3 op hop
      refine j_aload_n 300 rfl rfl dX5_lives_299 ?_
      refine j_getr 303 rfl 22 fl_X5_55 dX5_lives_300 (by decide) ( rfl) ( rfl) ?_
      refine j_iload 305 rfl rfl dX5_lives_303 ?_
      refine j_iload 307 rfl rfl dX5_lives_305 ?_
      refine j_if_eq 314 310 (by decide) rfl dX5_lives_307 (by intro hR; first | omega | exact hR _ _ | exact jb_r _ | exact hR0 _ _ | assumption) (fun h2 => ?_) (fun h2 => ?_)
      · refine j_aload_n 315 rfl rfl dX5_lives_314 ?_
        refine j_getr 318 rfl 22 fl_X5_55 dX5_lives_315 (by decide) ( rfl) ( rfl) ?_
        refine j_iload 320 rfl rfl dX5_lives_318 ?_
        refine j_iald 321 rfl dX5_lives_320 (by decide) rfl (by decide) rfl (by omega) ?_
        rw [jU_k (by decide), c72]
        exact put _ (by rw [eT, if_neg (by omega)]) (by omega)
      · refine j_iconst 311 rfl dX5_lives_310 ?_
        refine j_goto 321 (by decide) dX5_lives_311 ?_
        exact put 0 (by rw [eT, if_pos (by omega)]) (by omega)
    refine j_iload 251 rfl rfl dX5_lives_249 ?_
    refine j_aload_n 252 rfl rfl dX5_lives_251 ?_
    refine g_geti 255 rfl 8 8 rfl fl_X5_109 dX5_lives_252 (by decide) ( rfl) ( rfl) ?_
    rw [g1 56 (by decide) (by decide) (by decide), m1]
    refine j_icmp_ge 351 258 (by decide) rfl dX5_lives_255 (by intro hR; first | omega | exact hR _ _ | exact jb_r _ | exact hR0 _ _ | assumption) (by intro hR; first | omega | exact hR _ _ | exact jb_r _ | exact hR0 _ _ | assumption) (fun h1 => ?_) (fun h1 => ?_)
    · exfalso; omega
    · refine j_iload 260 rfl rfl dX5_lives_258 ?_
      refine j_iload 262 rfl rfl dX5_lives_260 ?_
      refine jS2i 265 rfl dX5_lives_262 lk_X5_157 rfl rfl (m_isInI (by omega)) (fun r1 H9 ⟨eh_, hr1⟩ => ?_)
      obtain rfl := eh_.symm
      rw [hbt] at hr1
      refine j_istore 267 rfl st_8_6 (by decide) rfl dX5_lives_265 ?_
      refine j_aload_n 268 rfl rfl dX5_lives_267 ?_
      refine j_getr 271 rfl 17 fl_X5_43 dX5_lives_268 (by decide) ( rfl) ( rfl) ?_
      refine j_bipush 273 rfl rfl dX5_lives_271 ?_
      refine j_iload_n 274 rfl rfl dX5_lives_273 ?_
      refine j_imul 275 rfl dX5_lives_274 ?_
      refine j_iload 277 rfl rfl dX5_lives_275 ?_
      refine j_iadd 278 rfl dX5_lives_277 ?_
      refine j_aload_n 279 rfl rfl dX5_lives_278 ?_
      refine j_iload_n 280 rfl rfl dX5_lives_279 ?_
      refine j_iconst 281 rfl dX5_lives_280 ?_
      refine j_isub 282 rfl dX5_lives_281 ?_
      refine j_iload 284 rfl rfl dX5_lives_282 ?_
      refine jV2i 287 rfl dX5_lives_284 lk_X5_170 rfl rfl (by decide) ( rfl) ( rfl) (m_springAt ht (by omega)) (fun r2 H9 ⟨eh_, hr2⟩ => ?_)
      obtain rfl := eh_.symm
      rw [sprH] at hr2
      have put : ∀ y, r2 - y = (pStep K t (pS K t.toNat)).2.2.1 b → jWP E mX5_lives Q 297 [some (jRF E 56), some (.int (jI l)), some (.int (jI t)), some (.int (jI (pS K t.toNat).1)), some (.int (jI (mkI (pOp K t (pS K t.toNat)) (K 0 0)))), some (.int (jI b)), some (.int (jI r1)), x7] [.int (jI y), .int (jI r2), .int (jI (9 * t + b)), jRF E 68] Hi := by
        intro y hy
        refine j_isub 298 rfl dX5_lives_297 ?_
        rw [hy]
        refine j_iast 299 rfl dX5_lives_298 (by decide) rfl (by decide) rfl (by omega) (by intro _; omega) ?_
        exact st2 r1 hr1
      refine j_iload 289 rfl rfl dX5_lives_287 ?_
      refine j_if_eq 296 292 (by decide) rfl dX5_lives_289 (by intro hR; first | omega | exact hR _ _ | exact jb_r _ | exact hR0 _ _ | assumption) (fun h2 => ?_) (fun h2 => ?_)
      · refine j_iconst 297 rfl dX5_lives_296 ?_
        exact put 0 (by omega)
      · refine j_iconst 293 rfl dX5_lives_292 ?_
        refine j_goto 297 (by decide) dX5_lives_293 ?_
        exact put 1 (by omega)
set_option maxHeartbeats 1000000 in
theorem m_lives {l : Int} (hl : -1 ≤ l ∧ l < 60) (hm : holdM H K) (ok : cOk K) : jOk E mX5_lives [jRF E 56, .int (jI l)] H (jQv fun H' => (∀ k, k ≠ 66 → k ≠ 67 → k ≠ 68 → k ≠ 72 → k ≠ 73 → H' k = H k) ∧ ∀ t, 0 ≤ t → t ≤ l → H' 66 t = pO K t ∧ H' 67 t = pU K t ∧ ∀ b, 0 ≤ b → b < K 0 0 → H' 68 (9 * t + b) = pL K t b) := by
  have hn := ok.1
  have hm0 := hm
  obtain ⟨m1, m2, m3, m4⟩ := hm
  refine jOk.rng (fun hR0 => ?_)
  refine jOk.ofe rfl (Nat.le_of_ble_eq_true rfl) (en_ai_8 (E := E)) ?_
  have loop2 := jUp 0 (l + 1) (fun t => ∀ Hi x3 x4 x5 x6 x7, jCk [none, none, none, x3, x4, x5, x6, x7] 4 = true → jCk [none, none, none, x3, x4, x5, x6, x7] 5 = true → jCk [none, none, none, x3, x4, x5, x6, x7] 6 = true → jCk [none, none, none, x3, x4, x5, x6, x7] 7 = true → (∀ k, k ≠ 66 → k ≠ 67 → k ≠ 68 → k ≠ 72 → k ≠ 73 → Hi k = H k) → mRel Hi K t → (∀ q, 0 ≤ q → q < t → Hi 66 q = pO K q ∧ Hi 67 q = pU K q ∧ ∀ b, 0 ≤ b → b < K 0 0 → Hi 68 (9 * q + b) = pL K q b) → jWP E mX5_lives (jQv fun H' => (∀ k, k ≠ 66 → k ≠ 67 → k ≠ 68 → k ≠ 72 → k ≠ 73 → H' k = H k) ∧ ∀ t, 0 ≤ t → t ≤ l → H' 66 t = pO K t ∧ H' 67 t = pU K t ∧ ∀ b, 0 ≤ b → b < K 0 0 → H' 68 (9 * t + b) = pL K t b) 32 [some (jRF E 56), some (.int (jI l)), some (.int (jI t)), x3, x4, x5, x6, x7] [] Hi) ?_ ?_ 0 (by omega) (by omega)
  · have loop := jUp 0 (K 0 0) (fun b => jWP E mX5_lives (jQv fun H' => (∀ k, k ≠ 66 → k ≠ 67 → k ≠ 68 → k ≠ 72 → k ≠ 73 → H' k = H k) ∧ ∀ t, 0 ≤ t → t ≤ l → H' 66 t = pO K t ∧ H' 67 t = pU K t ∧ ∀ b, 0 ≤ b → b < K 0 0 → H' 68 (9 * t + b) = pL K t b) 2 [some (jRF E 56), some (.int (jI l)), some (.int (jI b)), none, none, none, none, none] [] (jMp (jMp H 72 b (fun _ => 0)) 73 b (fun _ => 0))) ?_ ?_ 0 (by omega) (by omega)
    · rw [jMp_0, jMp_0] at loop
      refine j_iconst 1 rfl dX5_lives_0 ?_
      refine j_istore_n 2 rfl st_8_2 (by decide) rfl dX5_lives_1 ?_
      exact loop
    · refine j_iload_n 3 rfl rfl dX5_lives_2 ?_
      refine j_aload_n 4 rfl rfl dX5_lives_3 ?_
      refine g_geti 7 rfl 8 8 rfl fl_X5_109 dX5_lives_4 (by decide) ( rfl) ( rfl) ?_
      rw [jMp_k (by decide), jMp_k (by decide), m1]
      refine j_icmp_ge 30 10 (by decide) rfl dX5_lives_7 (by intro hR; first | omega | exact hR _ _ | exact jb_r _ | exact hR0 _ _ | assumption) (by intro hR; first | omega | exact hR _ _ | exact jb_r _ | exact hR0 _ _ | assumption) (fun h1 => ?_) (fun h1 => ?_)
      · refine j_iconst 31 rfl dX5_lives_30 ?_
        refine j_istore_n 32 rfl st_8_2 (by decide) rfl dX5_lives_31 ?_
        refine loop2 _ none none none none none rfl rfl rfl rfl (fun k a1 a2 a3 a4 a5 => by rw [jMp_o a5, jMp_o a4]) ⟨fun b b0 b1 => ⟨by rw [jMp_k (by decide), jMp_i b0 b1]; rfl, by rw [jMp_i b0 b1]; rfl, ?_⟩, fun h => by omega⟩ (fun q q0 q1 => by omega)
        unfold sprM
        rw [if_pos rfl, jMp_k (by decide), jMp_k (by decide)]
        exact (m3 b b0 b1).2.2.1
      · exfalso; omega
    · intro b b0 b1 ih
      have e : jMp (jMp H 72 (b + 1) (fun _ => 0)) 73 (b + 1) (fun _ => 0) = jU (jU (jMp (jMp H 72 b (fun _ => 0)) 73 b (fun _ => 0)) 72 b 0) 73 b 0 := by
        funext k i
        unfold jMp jU
        dsimp only
        by_cases q3 : k = 73
        · subst q3
          by_cases q : i = b
          · subst q; rw [if_pos ⟨rfl, b0, by omega⟩, if_pos ⟨rfl, rfl⟩]
          · rw [if_neg (c := 73 = 73 ∧ i = b) (fun z => q z.2), if_neg (c := (73 : Nat) = 72 ∧ i = b) (fun z => by omega)]
            by_cases q4 : 0 ≤ i ∧ i < b
            · rw [if_pos ⟨rfl, q4.1, by omega⟩, if_pos ⟨rfl, q4.1, q4.2⟩]
            · rw [if_neg (fun z => q4 (by omega)), if_neg (fun z => by omega), if_neg (fun z => q4 (by omega)), if_neg (fun z => by omega)]
        · rw [if_neg (fun z => q3 z.1), if_neg (c := k = 73 ∧ i = b) (fun z => q3 z.1), if_neg (c := k = 73 ∧ 0 ≤ i ∧ i < b) (fun z => q3 z.1)]
          by_cases q2 : k = 72
          · subst q2
            by_cases q : i = b
            · subst q; rw [if_pos ⟨rfl, b0, by omega⟩, if_pos ⟨rfl, rfl⟩]
            · rw [if_neg (c := 72 = 72 ∧ i = b) (fun z => q z.2)]
              by_cases q4 : 0 ≤ i ∧ i < b
              · rw [if_pos ⟨rfl, q4.1, by omega⟩, if_pos ⟨rfl, q4.1, q4.2⟩]
              · rw [if_neg (fun z => q4 (by omega)), if_neg (fun z => q4 (by omega))]
          · rw [if_neg (fun z => q2 z.1), if_neg (c := k = 72 ∧ i = b) (fun z => q2 z.1), if_neg (fun z => q2 z.1)]
      rw [e] at ih
      refine j_iload_n 3 rfl rfl dX5_lives_2 ?_
      refine j_aload_n 4 rfl rfl dX5_lives_3 ?_
      refine g_geti 7 rfl 8 8 rfl fl_X5_109 dX5_lives_4 (by decide) ( rfl) ( rfl) ?_
      rw [jMp_k (by decide), jMp_k (by decide), m1]
      refine j_icmp_ge 30 10 (by decide) rfl dX5_lives_7 (by intro hR; first | omega | exact hR _ _ | exact jb_r _ | exact hR0 _ _ | assumption) (by intro hR; first | omega | exact hR _ _ | exact jb_r _ | exact hR0 _ _ | assumption) (fun h1 => ?_) (fun h1 => ?_)
      · exfalso; omega
      · refine j_aload_n 11 rfl rfl dX5_lives_10 ?_
        refine j_getr 14 rfl 22 fl_X5_55 dX5_lives_11 (by decide) ( rfl) ( rfl) ?_
        refine j_iload_n 15 rfl rfl dX5_lives_14 ?_
        refine j_iconst 16 rfl dX5_lives_15 ?_
        refine j_iast 17 rfl dX5_lives_16 (by decide) rfl (by decide) rfl (by omega) (by intro hR; first | omega | exact hR _ _ | exact jb_r _ | exact hR0 _ _ | assumption) ?_
        refine j_aload_n 18 rfl rfl dX5_lives_17 ?_
        refine j_getr 21 rfl 23 fl_X5_58 dX5_lives_18 (by decide) ( rfl) ( rfl) ?_
        refine j_iload_n 22 rfl rfl dX5_lives_21 ?_
        refine j_iconst 23 rfl dX5_lives_22 ?_
        refine j_iast 24 rfl dX5_lives_23 (by decide) rfl (by decide) rfl (by omega) (by intro hR; first | omega | exact hR _ _ | exact jb_r _ | exact hR0 _ _ | assumption) ?_
        refine j_iinc 27 rfl rfl st_8_2 (by decide) rfl dX5_lives_24 ?_
        refine j_goto 2 (by decide) dX5_lives_27 ?_
        exact ih
  · intro Hi x3 x4 x5 x6 x7 _ _ _ _ g1 g2 g3
    refine j_iload_n 33 rfl rfl dX5_lives_32 ?_
    refine j_iload_n 34 rfl rfl dX5_lives_33 ?_
    refine j_icmp_gt 388 37 (by decide) rfl dX5_lives_34 (by intro hR; first | omega | exact hR _ _ | exact jb_r _ | exact hR0 _ _ | assumption) (by intro hR; first | omega | exact hR _ _ | exact jb_r _ | exact hR0 _ _ | assumption) (fun h1 => ?_) (fun h1 => ?_)
    · refine j_vretv dX5_lives_388 rfl ?_
      exact ⟨g1, fun t t0 t1 => g3 t t0 (by omega)⟩
    · exfalso; omega
  · intro t t0 t1 ih Hi x3 x4 x5 x6 x7 k3 k4 k5 k6 g1 g2 g3
    have hmi : holdM Hi K := hm0.cong (fun k a => g1 k (by omega) (by omega) (by omega) (by omega) (by omega))
    have hU := pS_U hn t.toNat
    have body : jWP E mX5_lives (jQv fun H' => (∀ k, k ≠ 66 → k ≠ 67 → k ≠ 68 → k ≠ 72 → k ≠ 73 → H' k = H k) ∧ ∀ t, 0 ≤ t → t ≤ l → H' 66 t = pO K t ∧ H' 67 t = pU K t ∧ ∀ b, 0 ≤ b → b < K 0 0 → H' 68 (9 * t + b) = pL K t b) 60 [some (jRF E 56), some (.int (jI l)), some (.int (jI t)), some (.int (jI (pS K t.toNat).1)), some (.int (jI 0)), some (.int (jI 0)), x6, x7] [] Hi := by
      refine m_lv1 hmi ok (by omega) g2 (fun H2 y6 y7 k2 f2 q2 => ?_) x6 x7 k6
      refine m_lv2 (H0 := Hi) (hmi.cong (fun k a => f2 k (by omega) (by omega))) ok (by omega) hl.2 g2 f2 q2 (fun H3 y3 y4 y5 y6 y7 k3 f3 r3 e3 l3 => ?_) _ y6 y7 k2
      refine ih H3 _ _ _ y6 y7 rfl rfl rfl k3 (fun k a1 a2 a3 a4 a5 => by rw [f3 k a1 a2 a3 a4 a5]; exact g1 k a1 a2 a3 a4 a5) r3 (fun q q0 q1 => ?_)
      by_cases e : q = t
      · subst e
        obtain ⟨r31, r32⟩ := r3
        have := r32 (by omega)
        rw [show q + 1 - 1 = q by omega] at this
        refine ⟨?_, ?_, fun b b0 b1 => ?_⟩
        · rw [this.1]; unfold pO; rw [show (q + 1).toNat = q.toNat + 1 by omega]
        · rw [this.2]; unfold pU; rw [show (q + 1).toNat = q.toNat + 1 by omega]
        · have := (r31 b b0 b1).2.2
          unfold sprM at this
          rw [if_neg (by omega), show q + 1 - 1 = q by omega] at this
          rw [this]; unfold pL; rw [show (q + 1).toNat = q.toNat + 1 by omega]
      · obtain ⟨a1, a2, a3⟩ := g3 q q0 (by omega)
        refine ⟨by rw [(e3 q e).1]; exact a1, by rw [(e3 q e).2]; exact a2, fun b b0 b1 => by rw [l3 _ (by omega)]; exact a3 b b0 b1⟩
    refine j_iload_n 33 rfl rfl dX5_lives_32 ?_
    refine j_iload_n 34 rfl rfl dX5_lives_33 ?_
    refine j_icmp_gt 388 37 (by decide) rfl dX5_lives_34 (by intro hR; first | omega | exact hR _ _ | exact jb_r _ | exact hR0 _ _ | assumption) (by intro hR; first | omega | exact hR _ _ | exact jb_r _ | exact hR0 _ _ | assumption) (fun h1 => ?_) (fun h1 => ?_)
    · exfalso; omega
    · refine j_iload_n 38 rfl rfl dX5_lives_37 ?_
      refine j_if_ne 45 41 (by decide) rfl dX5_lives_38 (by intro hR; first | omega | exact hR _ _ | exact jb_r _ | exact hR0 _ _ | assumption) (fun h2 => ?_) (fun h2 => ?_)
      · refine j_aload_n 46 rfl rfl dX5_lives_45 ?_
        refine j_getr 49 rfl 16 fl_X5_40 dX5_lives_46 (by decide) ( rfl) ( rfl) ?_
        refine j_iload_n 50 rfl rfl dX5_lives_49 ?_
        refine j_iconst 51 rfl dX5_lives_50 ?_
        refine j_isub 52 rfl dX5_lives_51 ?_
        refine j_iald 53 rfl dX5_lives_52 (by decide) rfl (by decide) rfl (by omega) ?_
        rw [(g2.2 (by omega)).2]
        refine j_istore_n 54 rfl st_8_3 (by decide) rfl dX5_lives_53 ?_
        refine j_iconst 55 rfl dX5_lives_54 ?_
        refine j_istore 57 rfl st_8_4 (by decide) rfl dX5_lives_55 ?_
        refine j_iconst 58 rfl dX5_lives_57 ?_
        refine j_istore 60 rfl st_8_5 (by decide) rfl dX5_lives_58 ?_
        exact body
      · have ez : (0 : Int) = (pS K t.toNat).1 := by rw [show t = 0 by omega]; rfl
        refine j_iconst 42 rfl dX5_lives_41 ?_
        refine j_goto 53 (by decide) dX5_lives_42 ?_
        refine j_istore_n 54 rfl st_8_3 (by decide) rfl dX5_lives_53 ?_
        refine j_iconst 55 rfl dX5_lives_54 ?_
        refine j_istore 57 rfl st_8_4 (by decide) rfl dX5_lives_55 ?_
        refine j_iconst 58 rfl dX5_lives_57 ?_
        refine j_istore 60 rfl st_8_5 (by decide) rfl dX5_lives_58 ?_
        rw [← ez] at body
        exact body
end S35
