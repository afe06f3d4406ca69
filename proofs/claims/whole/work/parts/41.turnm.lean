/-! ===== the reference: turn ===== -/
theorem holdM_t1 {H K : jH} (h : holdM H K) {s : Int} (hs : 0 ≤ s ∧ s < 60) (v : Int) : holdM (jU H 65 (3 * s) v) (kT1 K s v) := by
  obtain ⟨h1, h2, h3, h4⟩ := h
  unfold holdM
  rw [kT1_o (k := 0) (by decide), kT1_o (k := 1) (by decide), kT1_o (k := 2) (by decide), kT1_o (k := 3) (by decide), kT1_o (k := 4) (by decide), kT1_o (k := 7) (by decide), kT1_o (k := 8) (by decide)]
  refine ⟨by rw [jU_k (by decide)]; exact h1, by rw [jU_k (by decide)]; exact h2, fun q q0 q1 => ?_, fun t t0 t1 => ?_⟩
  · rw [jU_k (by decide), jU_k (by decide), jU_k (by decide), jU_k (by decide)]; exact h3 q q0 q1
  · obtain ⟨a1, a2, a3⟩ := h4 t t0 t1
    rw [kT1_6, jU_i (b := 3 * t + 1) (by omega), jU_i (b := 3 * t + 2) (by omega)]
    refine ⟨?_, a2, a3⟩
    by_cases e : t = s
    · subst e; rw [if_pos rfl, jU_s]
    · rw [if_neg e, jU_i (by omega)]; exact a1
def tnP (g : Int → Int) (u best least : Int) : Prop := (-1 ≤ best ∧ best < 9) ∧ (0 ≤ least ∧ least ≤ 37) ∧ ((u = 0 ∧ best = -1) ∨ (0 < u ∧ isArg g u best ∧ least = g best))
theorem gaN (f : Int → Bool) (o : Int → Int) : ∃ g, isGa f o 37 g := by
  have key : ∀ m : Nat, m ≤ 10 → ∃ g : Int, 0 ≤ g ∧ (∀ q : Int, 0 ≤ q → q < (m : Int) → cntI (fun c => f c && decide (o c = q)) 37 ≤ g) ∧ (g = 0 ∨ ∃ q, 0 ≤ q ∧ q ≤ 9 ∧ cntI (fun c => f c && decide (o c = q)) 37 = g) := by
    intro m
    induction m with
    | zero => intro _; exact ⟨0, by omega, fun q q0 q1 => by omega, Or.inl rfl⟩
    | succ m ih =>
      intro hm
      obtain ⟨g, g0, g1, g2⟩ := ih (by omega)
      by_cases e : cntI (fun c => f c && decide (o c = (m : Int))) 37 ≤ g
      · refine ⟨g, g0, fun q q0 q1 => ?_, g2⟩
        by_cases z : q = m
        · rw [z]; exact e
        · exact g1 q q0 (by omega)
      · refine ⟨_, by omega, fun q q0 q1 => ?_, Or.inr ⟨m, by omega, by omega, rfl⟩⟩
        by_cases z : q = m
        · rw [z]; exact Int.le_refl _
        · have := g1 q q0 (by omega); omega
  obtain ⟨g, g0, g1, g2⟩ := key 10 (by omega)
  exact ⟨g, g0, fun q q0 q1 => g1 q q0 (by omega), g2⟩
section S41
variable {E : jE} {H K Hi : jH}
-- X5_turnOf
set_option maxHeartbeats 2000000 in
theorem m_turnOf {b s : Int} (hb : 0 ≤ b ∧ b < H 1 3) (hs : 0 ≤ s ∧ s < 60) (h : FD H) : jOk E mX5_turnOf [jRF E 56, .int (jI b), .int (jI s)] H (jQi fun r H' => MZ H H' ∧ FD H' ∧ anTurn H b s r) := by
  have hn := h.n
  have ok := h.1.ok
  have h6 := (ok.2.2.2.2 s hs.1 hs.2).1
  have hg0 : ∀ c, c % 10 = 0 → c ≠ 40 → gdB H b c = false := gd_0 H b
  obtain ⟨gG, hgG⟩ : ∃ gG : Int → Int, gG = fun u => Classical.epsilon (isGa (gdB H b) (oT (cfg H) b s u) 41) := ⟨_, rfl⟩
  -- counts by the reference's laws
  obtain ⟨co, hco⟩ : ∃ co : Int → Int → Int → Int, co = fun u q k => cntI (fun k => gdB H b (nm k) && decide (oT (cfg H) b s u (nm k) = q)) k := ⟨_, rfl⟩
  have h41 : ∀ u q, cntI (fun c => gdB H b c && decide (oT (cfg H) b s u c = q)) 41 = co u q 37 := fun u q => by
    rw [hco]
    exact cnt_41 (f := fun c => gdB H b c && decide (oT (cfg H) b s u c = q)) (fun c c1 c2 => by simp [hg0 c c1 c2])
  have hcor : ∀ u q k, 0 ≤ k → 0 ≤ co u q k ∧ co u q k ≤ k := fun u q k k0 => by rw [hco]; exact cntI_r _ k0
  have ga : ∀ u most, 0 ≤ most → (∀ q, 0 ≤ q → q ≤ 9 → co u q 37 ≤ most) → (most = 0 ∨ ∃ q, 0 ≤ q ∧ q ≤ 9 ∧ co u q 37 = most) → most = gG u := by
    intro u most m0 m1 m2
    rw [hgG]
    refine eps_eq (fun x y => isGa_one (fun _ _ _ => rfl)) ⟨m0, fun q q0 q1 => by rw [h41]; exact m1 q q0 q1, ?_⟩
    rcases m2 with m2 | ⟨q, q0, q1, q2⟩
    · exact Or.inl m2
    · exact Or.inr ⟨q, q0, q1, by rw [h41]; exact q2⟩
  have gas : ∀ u, isGa (gdB H b) (oT (cfg H) b s u) 41 (gG u) := by
    intro u
    rw [hgG]
    refine Classical.epsilon_spec (p := isGa (gdB H b) (oT (cfg H) b s u) 41) ?_
    obtain ⟨g, a1, a2, a3⟩ := gaN (fun k => gdB H b (nm k)) (fun k => oT (cfg H) b s u (nm k))
    have e41 : ∀ q, cntI (fun c => gdB H b c && decide (oT (cfg H) b s u c = q)) 41 = cntI (fun k => gdB H b (nm k) && decide (oT (cfg H) b s u (nm k) = q)) 37 := fun q => by rw [h41, hco]
    refine ⟨g, a1, fun q q0 q1 => by rw [e41]; exact a2 q q0 q1, ?_⟩
    rcases a3 with a3 | ⟨q, q0, q1, q2⟩
    · exact Or.inl a3
    · exact Or.inr ⟨q, q0, q1, by rw [e41]; exact q2⟩
  have egk : ∀ k, 0 ≤ k → k < 37 → gdB H b (nm k) = asB (H 11) (H 12) (H 0 6) (kTk (cfg H) b k) := fun k k0 k1 => gd_nm h.1 b k0 k1
  refine jOk.rng (fun hR0 => ?_)
  refine jOk.ofe rfl (Nat.le_of_ble_eq_true rfl) (en_aii_10 (E := E)) ?_
  have loop := jUp 0 (H 1 3) (fun u => ∀ Hi best least x6 x7 x8 x9, jCk [none, none, none, none, none, none, x6, x7, x8, x9] 7 = true → jCk [none, none, none, none, none, none, x6, x7, x8, x9] 8 = true → jCk [none, none, none, none, none, none, x6, x7, x8, x9] 9 = true → wk H Hi → (∃ l m, holdM Hi (kLaw (cfg H) b l m)) → tnP gG u best least → jWP E mX5_turnOf (jQi fun r H' => MZ H H' ∧ FD H' ∧ anTurn H b s r) 8 [some (jRF E 56), some (.int (jI b)), some (.int (jI s)), some (.int (jI best)), some (.int (jI least)), some (.int (jI u)), x6, x7, x8, x9] [] Hi) ?_ ?_ 0 (by omega) (by omega)
  · refine j_iconst 1 rfl dX5_turnOf_0 ?_
    refine j_istore_n 2 rfl st_10_3 (by decide) rfl dX5_turnOf_1 ?_
    refine j_iconst 3 rfl dX5_turnOf_2 ?_
    refine j_istore 5 rfl st_10_4 (by decide) rfl dX5_turnOf_3 ?_
    refine j_iconst 6 rfl dX5_turnOf_5 ?_
    refine j_istore 8 rfl st_10_5 (by decide) rfl dX5_turnOf_6 ?_
    exact loop H (-1) 0 none none none none rfl rfl rfl (wk.refl H) ⟨_, _, holdM_self h b⟩ ⟨by omega, by omega, Or.inl ⟨rfl, rfl⟩⟩
  · rintro Hi best least x6 x7 x8 x9 _ _ _ w ⟨l, m, hm⟩ ht
    have e8 : Hi 56 8 = H 1 3 := w.2.2.trans hn.2.1
    obtain ⟨t1, t2, t3⟩ := ht
    refine j_iload 10 rfl rfl dX5_turnOf_8 ?_
    refine j_aload_n 11 rfl rfl dX5_turnOf_10 ?_
    refine g_geti 14 rfl 8 8 rfl fl_X5_109 dX5_turnOf_11 (by decide) ( rfl) ( rfl) ?_
    rw [e8]
    refine j_icmp_ge 219 17 (by decide) rfl dX5_turnOf_14 (by intro hR; first | omega | exact hR _ _ | exact jb_r _ | exact hR0 _ _ | assumption) (by intro hR; first | omega | exact hR _ _ | exact jb_r _ | exact hR0 _ _ | assumption) (fun h1 => ?_) (fun h1 => ?_)
    · refine j_aload_n 220 rfl rfl dX5_turnOf_219 ?_
      refine j_iload_n 221 rfl rfl dX5_turnOf_220 ?_
      refine jV1v 224 rfl dX5_turnOf_221 lk_X5_248 rfl rfl (by decide) ( rfl) ( rfl) (m_gives hb h w hm) (fun H2 ⟨w2, fd2, _⟩ => ?_)
      refine j_iload_n 225 rfl rfl dX5_turnOf_224 ?_
      refine j_ireti dX5_turnOf_225 rfl ?_
      refine ⟨w2.1, fd2, Or.inr ⟨by omega, gG, fun u _ _ => gas u, ?_⟩⟩
      rcases t3 with ⟨a, _⟩ | ⟨_, a, _⟩
      · omega
      · exact a
    · exfalso; omega
  · rintro u u0 u1 ih Hi best least x6 x7 x8 x9 k6 k7 k8 w hm ht
    have e8 : Hi 56 8 = H 1 3 := w.2.2.trans hn.2.1
    have ht0 := ht
    obtain ⟨t1, t2, t3⟩ := ht
    obtain ⟨v, hv⟩ : ∃ v, v = bOr (cfg H 6 s) (bShl 1 u) := ⟨_, rfl⟩
    have hvr : 0 ≤ v ∧ v < 512 := by rw [hv]; exact or1_512 h6 (by omega)
    have ok1 : cOk (kT1 (cfg H) s v) := cOk_t1 ok hvr
    -- behind the laws
    have tail : ∀ Hi most x7 x8 x9, wk H Hi → (∃ l m, holdM Hi (kLaw (cfg H) b l m)) → most = gG u → (0 ≤ most ∧ most ≤ 37) → jCk [none, none, none, none, none, none, none, x7, x8, x9] 8 = true → jCk [none, none, none, none, none, none, none, x7, x8, x9] 9 = true → jWP E mX5_turnOf (jQi fun r H' => MZ H H' ∧ FD H' ∧ anTurn H b s r) 168 [some (jRF E 56), some (.int (jI b)), some (.int (jI s)), some (.int (jI best)), some (.int (jI least)), some (.int (jI u)), some (.int (jI most)), some (.int (jI 37)), x8, x9] [] Hi := by
      intro Hi most x7 x8 x9 w hm hmo hmr k7 k8
      have yes : (best = -1 ∨ most < least) → jWP E mX5_turnOf (jQi fun r H' => MZ H H' ∧ FD H' ∧ anTurn H b s r) 180 [some (jRF E 56), some (.int (jI b)), some (.int (jI s)), some (.int (jI best)), some (.int (jI least)), some (.int (jI u)), some (.int (jI most)), some (.int (jI 37)), x8, x9] [] Hi := by
        intro hy
        refine j_iconst 181 rfl dX5_turnOf_180 ?_
        refine j_goto 185 (by decide) dX5_turnOf_181 ?_
        refine j_istore 187 rfl st_10_7 (by decide) rfl dX5_turnOf_185 ?_
        refine j_iload 189 rfl rfl dX5_turnOf_187 ?_
        refine j_if_eq 197 192 (by decide) rfl dX5_turnOf_189 (by intro _; omega) (fun h2 => by omega) (fun h2 => ?_)
        refine j_iload 194 rfl rfl dX5_turnOf_192 ?_
        refine j_goto 198 (by decide) dX5_turnOf_194 ?_
        refine j_istore_n 199 rfl st_10_3 (by decide) rfl dX5_turnOf_198 ?_
        refine j_iload 201 rfl rfl dX5_turnOf_199 ?_
        refine j_if_eq 209 204 (by decide) rfl dX5_turnOf_201 (by intro _; omega) (fun h2 => by omega) (fun h2 => ?_)
        refine j_iload 206 rfl rfl dX5_turnOf_204 ?_
        refine j_goto 211 (by decide) dX5_turnOf_206 ?_
        refine j_istore 213 rfl st_10_4 (by decide) rfl dX5_turnOf_211 ?_
        refine j_iinc 216 rfl rfl st_10_5 (by decide) rfl dX5_turnOf_213 ?_
        refine j_goto 8 (by decide) dX5_turnOf_216 ?_
        refine ih Hi u most _ _ x8 x9 rfl rfl k8 w hm ⟨by omega, hmr, Or.inr ⟨by omega, ?_, hmo⟩⟩
        rcases t3 with ⟨a, c⟩ | ⟨a, c, d⟩
        · rw [a]; exact isArg_1 _
        · rcases hy with hy | hy
          · have := c.1.1; omega
          · exact isArg_new u0 c (by omega)
      have no : ¬ (best = -1 ∨ most < least) → jWP E mX5_turnOf (jQi fun r H' => MZ H H' ∧ FD H' ∧ anTurn H b s r) 184 [some (jRF E 56), some (.int (jI b)), some (.int (jI s)), some (.int (jI best)), some (.int (jI least)), some (.int (jI u)), some (.int (jI most)), some (.int (jI 37)), x8, x9] [] Hi := by
        intro hy
        refine j_iconst 185 rfl dX5_turnOf_184 ?_
        refine j_istore 187 rfl st_10_7 (by decide) rfl dX5_turnOf_185 ?_
        refine j_iload 189 rfl rfl dX5_turnOf_187 ?_
        refine j_if_eq 197 192 (by decide) rfl dX5_turnOf_189 (by intro _; omega) (fun h2 => ?_) (fun h2 => absurd rfl h2)
        refine j_iload_n 198 rfl rfl dX5_turnOf_197 ?_
        refine j_istore_n 199 rfl st_10_3 (by decide) rfl dX5_turnOf_198 ?_
        refine j_iload 201 rfl rfl dX5_turnOf_199 ?_
        refine j_if_eq 209 204 (by decide) rfl dX5_turnOf_201 (by intro _; omega) (fun h2 => ?_) (fun h2 => absurd rfl h2)
        refine j_iload 211 rfl rfl dX5_turnOf_209 ?_
        refine j_istore 213 rfl st_10_4 (by decide) rfl dX5_turnOf_211 ?_
        refine j_iinc 216 rfl rfl st_10_5 (by decide) rfl dX5_turnOf_213 ?_
        refine j_goto 8 (by decide) dX5_turnOf_216 ?_
        refine ih Hi best least _ _ x8 x9 rfl rfl k8 w hm ⟨by omega, t2, Or.inr ⟨by omega, ?_⟩⟩
        rcases t3 with ⟨a, c⟩ | ⟨a, c, d⟩
        · exact absurd (Or.inl c) hy
        · exact ⟨isArg_old c (by omega), d⟩
      refine j_iload_n 169 rfl rfl dX5_turnOf_168 ?_
      refine j_iconst 170 rfl dX5_turnOf_169 ?_
      refine j_icmp_eq 180 173 (by decide) rfl dX5_turnOf_170 (by intro hR; first | omega | exact hR _ _ | exact jb_r _ | exact hR0 _ _ | assumption) (by intro hR; first | omega | exact hR _ _ | exact jb_r _ | exact hR0 _ _ | assumption) (fun h2 => ?_) (fun h2 => ?_)
      · exact yes (Or.inl h2)
      · refine j_iload 175 rfl rfl dX5_turnOf_173 ?_
        refine j_iload 177 rfl rfl dX5_turnOf_175 ?_
        refine j_icmp_ge 184 180 (by decide) rfl dX5_turnOf_177 (by intro hR; first | omega | exact hR _ _ | exact jb_r _ | exact hR0 _ _ | assumption) (by intro hR; first | omega | exact hR _ _ | exact jb_r _ | exact hR0 _ _ | assumption) (fun h3 => ?_) (fun h3 => ?_)
        · exact no (by omega)
        · exact yes (Or.inr (by omega))
    -- the laws
    have laws := jUp 0 37 (fun k => ∀ Hi most x8 x9, jCk [none, none, none, none, none, none, none, none, x8, x9] 9 = true → wk H Hi → (∃ l m, holdM Hi (kLaw (cfg H) b l m)) → (∀ q, 0 ≤ q → q ≤ 9 → Hi 77 q = co u q k) → (0 ≤ most ∧ most ≤ k) → (∀ q, 0 ≤ q → q ≤ 9 → co u q k ≤ most) → (most = 0 ∨ ∃ q, 0 ≤ q ∧ q ≤ 9 ∧ co u q k = most) → jWP E mX5_turnOf (jQi fun r H' => MZ H H' ∧ FD H' ∧ anTurn H b s r) 47 [some (jRF E 56), some (.int (jI b)), some (.int (jI s)), some (.int (jI best)), some (.int (jI least)), some (.int (jI u)), some (.int (jI most)), some (.int (jI k)), x8, x9] [] Hi) ?_ ?_ 0 (by omega) (by omega)
    · -- the row of the like is empty
      have zero := jUp 0 10 (fun k => ∀ Hi, wk H Hi → (∃ l m, holdM Hi (kLaw (cfg H) b l m)) → (∀ q, 0 ≤ q → q < k → Hi 77 q = 0) → jWP E mX5_turnOf (jQi fun r H' => MZ H H' ∧ FD H' ∧ anTurn H b s r) 20 [some (jRF E 56), some (.int (jI b)), some (.int (jI s)), some (.int (jI best)), some (.int (jI least)), some (.int (jI u)), some (.int (jI k)), x7, x8, x9] [] Hi) ?_ ?_ 0 (by omega) (by omega)
      · refine j_iload 10 rfl rfl dX5_turnOf_8 ?_
        refine j_aload_n 11 rfl rfl dX5_turnOf_10 ?_
        refine g_geti 14 rfl 8 8 rfl fl_X5_109 dX5_turnOf_11 (by decide) ( rfl) ( rfl) ?_
        rw [e8]
        refine j_icmp_ge 219 17 (by decide) rfl dX5_turnOf_14 (by intro _; omega) (by intro _; omega) (fun h1 => by omega) (fun h1 => ?_)
        refine j_iconst 18 rfl dX5_turnOf_17 ?_
        refine j_istore 20 rfl st_10_6 (by decide) rfl dX5_turnOf_18 ?_
        exact zero Hi w hm (fun q q0 q1 => by omega)
      · intro Hi w hm hz
        refine j_iload 22 rfl rfl dX5_turnOf_20 ?_
        refine j_bipush 24 rfl rfl dX5_turnOf_22 ?_
        refine j_icmp_ge 41 27 (by decide) rfl dX5_turnOf_24 (by intro hR; first | omega | exact hR _ _ | exact jb_r _ | exact hR0 _ _ | assumption) (by intro hR; first | omega | exact hR _ _ | exact jb_r _ | exact hR0 _ _ | assumption) (fun h1 => ?_) (fun h1 => ?_)
        · refine j_iconst 42 rfl dX5_turnOf_41 ?_
          refine j_istore 44 rfl st_10_6 (by decide) rfl dX5_turnOf_42 ?_
          refine j_iconst 45 rfl dX5_turnOf_44 ?_
          refine j_istore 47 rfl st_10_7 (by decide) rfl dX5_turnOf_45 ?_
          refine laws Hi 0 x8 x9 k8 w hm (fun q q0 q1 => ?_) (by omega) (fun q q0 q1 => by rw [hco]; exact Int.le_refl _) (Or.inl rfl)
          rw [hz q q0 (by omega), hco]
          rfl
        · exfalso; omega
      · intro k k0 k1 ih2 Hi w hm hz
        obtain ⟨l, m, hm⟩ := hm
        refine j_iload 22 rfl rfl dX5_turnOf_20 ?_
        refine j_bipush 24 rfl rfl dX5_turnOf_22 ?_
        refine j_icmp_ge 41 27 (by decide) rfl dX5_turnOf_24 (by intro hR; first | omega | exact hR _ _ | exact jb_r _ | exact hR0 _ _ | assumption) (by intro hR; first | omega | exact hR _ _ | exact jb_r _ | exact hR0 _ _ | assumption) (fun h1 => ?_) (fun h1 => ?_)
        · exfalso; omega
        · refine j_aload_n 28 rfl rfl dX5_turnOf_27 ?_
          refine j_getr 31 rfl 28 fl_X5_70 dX5_turnOf_28 (by decide) ( rfl) ( rfl) ?_
          refine j_iload 33 rfl rfl dX5_turnOf_31 ?_
          refine j_iconst 34 rfl dX5_turnOf_33 ?_
          refine j_iast 35 rfl dX5_turnOf_34 (by decide) rfl (by decide) rfl (by omega) (by intro hR; first | omega | exact hR _ _ | exact jb_r _ | exact hR0 _ _ | assumption) ?_
          refine j_iinc 38 rfl rfl st_10_6 (by decide) rfl dX5_turnOf_35 ?_
          refine j_goto 20 (by decide) dX5_turnOf_38 ?_
          refine ih2 _ (w.trans (wk.u k 0 (by omega))) ⟨l, m, hm.cong (fun q a => jU_o (by omega))⟩ (fun q q0 q1 => ?_)
          by_cases e : q = k
          · rw [e, jU_s]
          · rw [jU_i e]; exact hz q q0 (by omega)
    · intro Hi most x8 x9 k8 w hm h77 hmr hm1 hm2
      refine j_iload 49 rfl rfl dX5_turnOf_47 ?_
      refine j_bipush 51 rfl rfl dX5_turnOf_49 ?_
      refine j_icmp_ge 168 54 (by decide) rfl dX5_turnOf_51 (by intro hR; first | omega | exact hR _ _ | exact jb_r _ | exact hR0 _ _ | assumption) (by intro hR; first | omega | exact hR _ _ | exact jb_r _ | exact hR0 _ _ | assumption) (fun h1 => ?_) (fun h1 => ?_)
      · exact tail Hi most (some (.int (jI 37))) x8 x9 w hm (ga u most hmr.1 hm1 hm2) hmr rfl k8
      · exfalso; omega
    · rintro k k0 k1 ih2 Hi most x8 x9 k8 w ⟨l, m, hm⟩ h77 hmr hm1 hm2
      have okk := cOk_tk ok b k0 k1
      have ok1k := cOk_tk ok1 b k0 k1
      have hcs : ∀ q, co u q (k + 1) = co u q k + if (gdB H b (nm k) && decide (oT (cfg H) b s u (nm k) = q)) then 1 else 0 := fun q => by
        rw [hco]
        exact cntI_s _ k0
      have hck := hcor u
      refine j_iload 49 rfl rfl dX5_turnOf_47 ?_
      refine j_bipush 51 rfl rfl dX5_turnOf_49 ?_
      refine j_icmp_ge 168 54 (by decide) rfl dX5_turnOf_51 (by intro hR; first | omega | exact hR _ _ | exact jb_r _ | exact hR0 _ _ | assumption) (by intro hR; first | omega | exact hR _ _ | exact jb_r _ | exact hR0 _ _ | assumption) (fun h1 => ?_) (fun h1 => ?_)
      · exfalso; omega
      · refine j_aload_n 55 rfl rfl dX5_turnOf_54 ?_
        refine j_iload_n 56 rfl rfl dX5_turnOf_55 ?_
        refine j_iload 58 rfl rfl dX5_turnOf_56 ?_
        refine jV2v 61 rfl dX5_turnOf_58 lk_X5_239 rfl rfl (by decide) ( rfl) ( rfl) (m_takes (by omega) (by omega)) (fun H2 e2 => ?_)
        subst e2
        have hmk := m_tk (k := k) hm
        refine j_aload_n 62 rfl rfl dX5_turnOf_61 ?_
        refine j_bipush 64 rfl rfl dX5_turnOf_62 ?_
        refine jV1v 67 rfl dX5_turnOf_64 lk_X5_179 rfl rfl (by decide) ( rfl) ( rfl) (m_run (by omega) ((w.trans (wk.u b _ (by omega))).trans (wk.u b _ (by omega))) hmk okk) (fun H3 ⟨w3, h3, a3, f3⟩ => ?_)
        have e77 : H3 77 = Hi 77 := by rw [f3 77 (by decide) (by decide) (by decide) (by decide) (by decide), jU_o (by decide), jU_o (by decide)]
        refine j_aload_n 68 rfl rfl dX5_turnOf_67 ?_
        refine jV0i 71 rfl dX5_turnOf_68 lk_X5_242 rfl rfl (by decide) ( rfl) ( rfl) (m_isHeard h.1 w3 okk.1 (fun t t0 t1 => (a3 t t0 (by omega)).1)) (fun r1 H9 ⟨eh_, hr1⟩ => ?_)
        obtain rfl := eh_.symm
        rw [← egk k k0 k1] at hr1
        have ub := bI_r (gdB H b (nm k))
        refine j_if_eq 162 74 (by decide) rfl dX5_turnOf_71 (by intro hR; first | omega | exact hR _ _ | exact jb_r _ | exact hR0 _ _ | assumption) (fun h2 => ?_) (fun h2 => ?_)
        · have gk : gdB H b (nm k) = false := bI_0.mp (by omega)
          have hcs' : ∀ q, co u q (k + 1) = co u q k := fun q => by rw [hcs q, gk]; simp
          refine j_iinc 165 rfl rfl st_10_7 (by decide) rfl dX5_turnOf_162 ?_
          refine j_goto 47 (by decide) dX5_turnOf_165 ?_
          refine ih2 H3 most x8 x9 k8 w3 ⟨_, _, h3⟩ (fun q q0 q1 => by rw [e77, hcs']; exact h77 q q0 q1) (by omega) (fun q q0 q1 => by rw [hcs']; exact hm1 q q0 q1) ?_
          rcases hm2 with a | ⟨q, q0, q1, q2⟩
          · exact Or.inl a
          · exact Or.inr ⟨q, q0, q1, by rw [hcs']; exact q2⟩
        · have gk : gdB H b (nm k) = true := bI_1.mp (by omega)
          have d65 : H3 65 (3 * s) = cfg H 6 s := by
            have := (h3.2.2.2 s hs.1 hs.2).1
            rw [this]
            unfold kTk
            rw [kLaw_o (by decide) (by decide)]
          refine j_aload_n 75 rfl rfl dX5_turnOf_74 ?_
          refine j_getr 78 rfl 14 fl_X5_34 dX5_turnOf_75 (by decide) ( rfl) ( rfl) ?_
          refine j_iconst 79 rfl dX5_turnOf_78 ?_
          refine j_iload_n 80 rfl rfl dX5_turnOf_79 ?_
          refine j_imul 81 rfl dX5_turnOf_80 ?_
          refine j_iald 82 rfl dX5_turnOf_81 (by decide) rfl (by decide) rfl (by omega) ?_
          rw [d65]
          refine j_istore 84 rfl st_10_8 (by decide) rfl dX5_turnOf_82 ?_
          refine j_aload_n 85 rfl rfl dX5_turnOf_84 ?_
          refine j_getr 88 rfl 14 fl_X5_34 dX5_turnOf_85 (by decide) ( rfl) ( rfl) ?_
          refine j_iconst 89 rfl dX5_turnOf_88 ?_
          refine j_iload_n 90 rfl rfl dX5_turnOf_89 ?_
          refine j_imul 91 rfl dX5_turnOf_90 ?_
          refine j_dup2 92 rfl rfl rfl dX5_turnOf_91 ?_
          refine j_iald 93 rfl dX5_turnOf_92 (by decide) rfl (by decide) rfl (by omega) ?_
          rw [d65]
          refine j_iconst 94 rfl dX5_turnOf_93 ?_
          refine j_iload 96 rfl rfl dX5_turnOf_94 ?_
          refine k_ishl 97 rfl dX5_turnOf_96 ?_
          refine k_ior 98 rfl dX5_turnOf_97 ?_
          rw [← hv]
          refine j_iast 99 rfl dX5_turnOf_98 (by decide) rfl (by decide) rfl (by omega) (by intro _; omega) ?_
          have h4 : holdM (jU H3 65 (3 * s) v) (kTk (kT1 (cfg H) s v) b k) := by
            have := holdM_t1 h3 hs v
            unfold kTk at this ⊢
            rw [kT1_law] at this
            exact this
          refine j_aload_n 100 rfl rfl dX5_turnOf_99 ?_
          refine j_iload_n 101 rfl rfl dX5_turnOf_100 ?_
          refine jV1v 104 rfl dX5_turnOf_101 lk_X5_179 rfl rfl (by decide) ( rfl) ( rfl) (m_run (by omega) (w3.trans (wk.u _ _ (by omega))) h4 ok1k) (fun H5 ⟨w5, h5, a5, f5⟩ => ?_)
          have hOr := pO_r ok1k.1 s
          have eo : oc (pO (kTk (kT1 (cfg H) s v) b k) s) = oT (cfg H) b s u (nm k) := by
            unfold oT
            rw [← hv]
            rw [← pO_cong (kTk_code (kT1 (cfg H) s v) b k0 k1) (cOk_cd ok1 b k0 k1).1 hs.2]
          have hor := oc_r (pO (kTk (kT1 (cfg H) s v) b k) s)
          have e775 : H5 77 = Hi 77 := by rw [f5 77 (by decide) (by decide) (by decide) (by decide) (by decide), jU_o (by decide)]; exact e77
          refine j_aload_n 105 rfl rfl dX5_turnOf_104 ?_
          refine j_getr 108 rfl 15 fl_X5_37 dX5_turnOf_105 (by decide) ( rfl) ( rfl) ?_
          refine j_iload_n 109 rfl rfl dX5_turnOf_108 ?_
          refine j_iald 110 rfl dX5_turnOf_109 (by decide) rfl (by decide) rfl (by omega) ?_
          rw [(a5 s hs.1 (Int.le_refl _)).1]
          refine jS1i 113 rfl dX5_turnOf_110 lk_X5_167 rfl rfl (m_ones (by omega)) (fun r5 H9 ⟨eh_, hr5⟩ => ?_)
          obtain rfl := eh_.symm
          rw [eo] at hr5 hor
          have hr5r : 0 ≤ r5 ∧ r5 ≤ 9 := by omega
          have hcs' : ∀ q, co u q (k + 1) = co u q k + if r5 = q then 1 else 0 := fun q => by rw [hcs q, gk, hr5]; simp
          have hc5 := hck r5 k k0
          refine j_istore 115 rfl st_10_9 (by decide) rfl dX5_turnOf_113 ?_
          refine j_aload_n 116 rfl rfl dX5_turnOf_115 ?_
          refine j_getr 119 rfl 28 fl_X5_70 dX5_turnOf_116 (by decide) ( rfl) ( rfl) ?_
          refine j_iload 121 rfl rfl dX5_turnOf_119 ?_
          refine j_dup2 122 rfl rfl rfl dX5_turnOf_121 ?_
          refine j_iald 123 rfl dX5_turnOf_122 (by decide) rfl (by decide) rfl (by omega) ?_
          rw [e775, h77 r5 hr5r.1 hr5r.2]
          refine j_iconst 124 rfl dX5_turnOf_123 ?_
          refine j_iadd 125 rfl dX5_turnOf_124 ?_
          refine j_iast 126 rfl dX5_turnOf_125 (by decide) rfl (by decide) rfl (by omega) (by intro hR; first | omega | exact hR _ _ | exact jb_r _ | exact hR0 _ _ | assumption) ?_
          refine j_aload_n 127 rfl rfl dX5_turnOf_126 ?_
          refine j_getr 130 rfl 28 fl_X5_70 dX5_turnOf_127 (by decide) ( rfl) ( rfl) ?_
          refine j_iload 132 rfl rfl dX5_turnOf_130 ?_
          refine j_iald 133 rfl dX5_turnOf_132 (by decide) rfl (by decide) rfl (by omega) ?_
          rw [jU_s]
          refine j_iload 135 rfl rfl dX5_turnOf_133 ?_
          have fin : ∀ most2, (0 ≤ most2 ∧ most2 ≤ k + 1) → ((most < co u r5 k + 1 ∧ most2 = co u r5 k + 1) ∨ (co u r5 k + 1 ≤ most ∧ most2 = most)) → jWP E mX5_turnOf (jQi fun r H' => MZ H H' ∧ FD H' ∧ anTurn H b s r) 150 [some (jRF E 56), some (.int (jI b)), some (.int (jI s)), some (.int (jI best)), some (.int (jI least)), some (.int (jI u)), some (.int (jI most)), some (.int (jI k)), some (.int (jI (cfg H 6 s))), some (.int (jI r5))] [.int (jI most2)] (jU H5 77 r5 (co u r5 k + 1)) := by
            intro most2 hr2 hm2'
            refine j_istore 152 rfl st_10_6 (by decide) rfl dX5_turnOf_150 ?_
            refine j_aload_n 153 rfl rfl dX5_turnOf_152 ?_
            refine j_getr 156 rfl 14 fl_X5_34 dX5_turnOf_153 (by decide) ( rfl) ( rfl) ?_
            refine j_iconst 157 rfl dX5_turnOf_156 ?_
            refine j_iload_n 158 rfl rfl dX5_turnOf_157 ?_
            refine j_imul 159 rfl dX5_turnOf_158 ?_
            refine j_iload 161 rfl rfl dX5_turnOf_159 ?_
            refine j_iast 162 rfl dX5_turnOf_161 (by decide) rfl (by decide) rfl (by omega) (by intro _; omega) ?_
            refine j_iinc 165 rfl rfl st_10_7 (by decide) rfl dX5_turnOf_162 ?_
            refine j_goto 47 (by decide) dX5_turnOf_165 ?_
            have hb5 : holdM (jU (jU H5 77 r5 (co u r5 k + 1)) 65 (3 * s) (cfg H 6 s)) (kTk (cfg H) b k) := by
              have q := holdM_t1 (h5.cong (H' := jU H5 77 r5 (co u r5 k + 1)) (fun q a => jU_o (by omega))) hs (cfg H 6 s)
              unfold kTk at q ⊢
              rw [kT1_law, kT1_back] at q
              exact q
            refine ih2 _ most2 _ _ rfl ((w5.trans (wk.u _ _ (by omega))).trans (wk.u _ _ (by omega))) ⟨_, _, hb5⟩ (fun q q0 q1 => ?_) hr2 (fun q q0 q1 => ?_) ?_
            · rw [jU_k (by decide), hcs']
              by_cases e : q = r5
              · subst e; rw [jU_s, if_pos rfl]
              · rw [jU_i e, if_neg (fun z => e z.symm), e775, h77 q q0 q1, Int.add_zero]
            · rw [hcs']
              have := hm1 q q0 q1
              by_cases e : r5 = q
              · rw [if_pos e]; rw [e] at hm2'; omega
              · rw [if_neg e]; omega
            · rcases hm2' with ⟨c1, c2⟩ | ⟨c1, c2⟩
              · exact Or.inr ⟨r5, hr5r.1, hr5r.2, by rw [hcs', if_pos rfl]; omega⟩
              · rcases hm2 with a | ⟨q, q0, q1, q2⟩
                · omega
                · refine Or.inr ⟨q, q0, q1, ?_⟩
                  rw [hcs']
                  by_cases e : r5 = q
                  · rw [if_pos e]; rw [e] at c1; omega
                  · rw [if_neg e]; omega
          refine j_icmp_le 148 138 (by decide) rfl dX5_turnOf_135 (by intro hR; first | omega | exact hR _ _ | exact jb_r _ | exact hR0 _ _ | assumption) (by intro hR; first | omega | exact hR _ _ | exact jb_r _ | exact hR0 _ _ | assumption) (fun h6 => ?_) (fun h6 => ?_)
          · refine j_iload 150 rfl rfl dX5_turnOf_148 ?_
            exact fin most (by omega) (Or.inr ⟨by omega, rfl⟩)
          · refine j_aload_n 139 rfl rfl dX5_turnOf_138 ?_
            refine j_getr 142 rfl 28 fl_X5_70 dX5_turnOf_139 (by decide) ( rfl) ( rfl) ?_
            refine j_iload 144 rfl rfl dX5_turnOf_142 ?_
            refine j_iald 145 rfl dX5_turnOf_144 (by decide) rfl (by decide) rfl (by omega) ?_
            try simp (disch := omega) only [jU_s]
            refine j_goto 150 (by decide) dX5_turnOf_145 ?_
            exact fin _ (by omega) (Or.inl ⟨by omega, rfl⟩)
-- X5_turn
theorem m_turn {b s : Int} (hb : -2147483648 ≤ b ∧ b ≤ 2147483647) (hs : -2147483648 ≤ s ∧ s ≤ 2147483647) (h : RI H) : jOk E mX5_turn [jRF E 56, .int (jI b), .int (jI s)] H (jQi fun r H' => MZ H H' ∧ FD H' ∧ anTurn H b s r) := by
  refine jOk.rng (fun hR0 => ?_)
  refine jOk.ofe rfl (Nat.le_of_ble_eq_true rfl) (en_aii_3 (E := E)) ?_
  refine j_aload_n 1 rfl rfl dX5_turn_0 ?_
  refine jV0v 4 rfl dX5_turn_1 lk_X5_183 rfl rfl (by decide) ( rfl) ( rfl) (m_find h) (fun H1 ⟨mq, fd⟩ => ?_)
  rw [← mq.same.turn]
  have hn := fd.n
  by_cases hok : (0 ≤ b ∧ b < H1 1 3 ∧ 0 ≤ s ∧ s < 60)
  rotate_left
  · refine j_aload_n 5 rfl rfl dX5_turn_4 ?_
    refine j_iload_n 6 rfl rfl dX5_turn_5 ?_
    refine jV1i 9 rfl dX5_turn_6 lk_X5_134 rfl rfl (by decide) ( rfl) ( rfl) (m_isBox (by omega) (by omega)) (fun r6 H1 ⟨eh_, hr6⟩ => ?_)
    obtain rfl := eh_.symm
    refine j_if_eq 28 12 (by decide) rfl dX5_turn_9 (by intro hR; first | omega | exact hR _ _ | exact jb_r _ | exact hR0 _ _ | assumption) (fun h9 => ?_) (fun h9 => ?_)
    · refine j_bipush 30 rfl rfl dX5_turn_28 ?_
      refine j_ireti dX5_turn_30 rfl ?_
      exact ⟨mq, fd, Or.inl ⟨hok, rfl⟩⟩
    · refine j_iload_n 13 rfl rfl dX5_turn_12 ?_
      refine jS1i 16 rfl dX5_turn_13 lk_X5_145 rfl rfl (m_isStep (by omega)) (fun r13 H1 ⟨eh_, hr13⟩ => ?_)
      obtain rfl := eh_.symm
      refine j_if_eq 28 19 (by decide) rfl dX5_turn_16 (by intro hR; first | omega | exact hR _ _ | exact jb_r _ | exact hR0 _ _ | assumption) (fun h16 => ?_) (fun h16 => ?_)
      · refine j_bipush 30 rfl rfl dX5_turn_28 ?_
        refine j_ireti dX5_turn_30 rfl ?_
        exact ⟨mq, fd, Or.inl ⟨hok, rfl⟩⟩
      · exfalso; omega
  refine j_aload_n 5 rfl rfl dX5_turn_4 ?_
  refine j_iload_n 6 rfl rfl dX5_turn_5 ?_
  refine jV1i 9 rfl dX5_turn_6 lk_X5_134 rfl rfl (by decide) ( rfl) ( rfl) (m_isBox (by omega) (by omega)) (fun r6 H1 ⟨eh_, hr6⟩ => ?_)
  obtain rfl := eh_.symm
  refine j_if_eq 28 12 (by decide) rfl dX5_turn_9 (by intro hR; first | omega | exact hR _ _ | exact jb_r _ | exact hR0 _ _ | assumption) (fun h9 => ?_) (fun h9 => ?_)
  · exfalso; omega
  refine j_iload_n 13 rfl rfl dX5_turn_12 ?_
  refine jS1i 16 rfl dX5_turn_13 lk_X5_145 rfl rfl (m_isStep (by omega)) (fun r13 H1 ⟨eh_, hr13⟩ => ?_)
  obtain rfl := eh_.symm
  refine j_if_eq 28 19 (by decide) rfl dX5_turn_16 (by intro hR; first | omega | exact hR _ _ | exact jb_r _ | exact hR0 _ _ | assumption) (fun h16 => ?_) (fun h16 => ?_)
  · exfalso; omega
  refine j_aload_n 20 rfl rfl dX5_turn_19 ?_
  refine j_iload_n 21 rfl rfl dX5_turn_20 ?_
  refine j_iload_n 22 rfl rfl dX5_turn_21 ?_
  refine jV2i 25 rfl dX5_turn_22 lk_X5_259 rfl rfl (by decide) ( rfl) ( rfl) (m_turnOf (by omega) (by omega) fd) (fun r1 H2 ⟨mq2, fd2, hr1⟩ => ?_)
  refine j_goto 30 (by decide) dX5_turn_25 ?_
  refine j_ireti dX5_turn_30 rfl ?_
  exact ⟨mq.trans mq2, fd2, hr1⟩
end S41
