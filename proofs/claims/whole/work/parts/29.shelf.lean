/-! ===== the class: shelf ===== -/
theorem swp_ag {H : jH} {g : Int → Int} {a b : Int} (hg : ∀ i, 0 ≤ i → i < 9 → H 54 i = g i) (ha : 0 ≤ a ∧ a < 9) (hb : 0 ≤ b ∧ b < 9) : ∀ i, 0 ≤ i → i < 9 → jU (jU H 54 a (H 54 b)) 54 b (H 54 a) 54 i = swp g a b i := by
  intro i i0 i1
  unfold swp
  by_cases e : i = b
  · subst e
    rw [jU_s, if_pos rfl, hg a ha.1 ha.2]
  · rw [jU_i e, if_neg e]
    by_cases e2 : i = a
    · subst e2
      rw [jU_s, if_pos rfl, hg b hb.1 hb.2]
    · rw [jU_i e2, if_neg e2, hg i i0 i1]
def kShf (K : jH) (n k : Int) : jH := kPlc K (rinv (prm n k))
def vS (K : jH) (n k : Int) : Int := sumI (fun t => oc (pO (kShf K n k) t)) 20
def gS (K : jH) (n L k : Int) : Int := if L = 1 then -vS K n k else vS K n k
theorem kPlc_o {K : jH} {k : Nat} (h : k ≠ 4) (g : Int → Int) : kPlc K g k = K k := by funext i; unfold kPlc; rw [if_neg h]
theorem kPlc_4 (K : jH) (g : Int → Int) (i : Int) : kPlc K g 4 i = g i := by unfold kPlc; rw [if_pos rfl]
theorem kPlc_self (K : jH) : kPlc K (K 4) = K := by
  funext k i
  unfold kPlc
  by_cases h : k = 4
  · rw [if_pos h, h]
  · rw [if_neg h]
theorem cOk_plc {K : jH} (ok : cOk K) {g : Int → Int} (hr : ∀ b, 0 ≤ b → b < 9 → 0 ≤ g b ∧ g b ≤ 8) (hi : ∀ b c, 0 ≤ b → b < 9 → 0 ≤ c → c < 9 → g b = g c → b = c) : cOk (kPlc K g) := by
  obtain ⟨o1, o2, o3, o4, o5⟩ := ok
  unfold cOk
  rw [kPlc_o (k := 0) (by decide), kPlc_o (k := 1) (by decide), kPlc_o (k := 2) (by decide), kPlc_o (k := 3) (by decide), kPlc_o (k := 6) (by decide), kPlc_o (k := 7) (by decide), kPlc_o (k := 8) (by decide)]
  refine ⟨o1, o2, fun b b0 b1 => ?_, fun b c b0 b1 c0 c1 => ?_, o5⟩
  · obtain ⟨a1, a2, a3, a4, a5⟩ := o3 b b0 b1
    rw [kPlc_4]
    exact ⟨a1, a2, a3, a4, hr b b0 (by omega)⟩
  · rw [kPlc_4, kPlc_4]
    exact hi b c b0 (by omega) c0 (by omega)
theorem cOk_shf {K : jH} (ok : cOk K) {n k : Int} (hn : 1 ≤ n ∧ n ≤ 6) (hk : 0 ≤ k ∧ k < fac n) : cOk (kShf K n k) := by
  have h := (prm_ok hn hk).2.2
  refine cOk_plc ok (fun b b0 b1 => (h b b0 b1).2.2.2) (fun b c b0 b1 c0 c1 e => ?_)
  have e1 := (h b b0 b1).2.2.1
  have e2 := (h c c0 c1).2.2.1
  rw [e] at e1
  rw [e1] at e2
  exact e2
theorem hold_shf {H K : jH} {g : Int → Int} (h : hold 37 H (kPlc K g)) {n k : Int} (hn : 1 ≤ n ∧ n ≤ 6) (hk : 0 ≤ k ∧ k < fac n) (h54 : ∀ p, 0 ≤ p → p < 9 → H 54 p = prm n k p) : hold 37 (pr H 41 54 9) (kShf K n k) := by
  obtain ⟨h1, h2, h3, h4⟩ := h
  have hp := (prm_ok hn hk).2.2
  unfold kShf
  refine ⟨by rw [pr_o _ (by decide)]; exact h1, by rw [pr_o _ (by decide)]; exact h2, fun b b0 b1 => ?_, fun t t0 t1 => ?_⟩
  · obtain ⟨a1, a2, a3, a4⟩ := h3 b b0 b1
    rw [pr_o _ (by decide), pr_o _ (by decide), pr_o _ (by decide)]
    refine ⟨a1, a2, a3, ?_⟩
    rw [kPlc_4]
    obtain ⟨_, _, c1, c2, c3⟩ := hp b b0 b1
    have := pr_p H (k := 41) (rk := 54) (fun p q p0 p1 q0 q1 e => by
      rw [h54 p p0 p1, h54 q q0 q1] at e
      have e1 := (hp p p0 p1).2.1
      rw [e, (hp q q0 q1).2.1] at e1
      exact e1.symm) 9 (by omega) (rinv (prm n k) b) c2 (by omega)
    rw [h54 _ c2 (by omega), c1] at this
    exact this
  · rw [pr_o _ (by decide), pr_o _ (by decide), pr_o _ (by decide)]
    exact h4 t t0 t1
theorem sumN_r {f : Int → Int} {m : Int} (h : ∀ k, 0 ≤ f k ∧ f k ≤ m) : ∀ n : Nat, 0 ≤ sumN f n ∧ sumN f n ≤ m * n
  | 0 => by simp [sumN]
  | n + 1 => by
    have ih := sumN_r h n
    have := h n
    rw [sumN]
    have e : m * ((n + 1 : Nat) : Int) = m * (n : Int) + m := by rw [show ((n + 1 : Nat) : Int) = (n : Int) + 1 by omega, Int.mul_add, Int.mul_one]
    omega
theorem vS_r (K : jH) (n k : Int) : 0 ≤ vS K n k ∧ vS K n k ≤ 180 := sumN_r (m := 9) (fun t => oc_r _) 20
theorem isArg_new {g : Int → Int} {i kb : Int} (h0 : 0 ≤ i) (h : isArg g i kb) (q : g i < g kb) : isArg g (i + 1) i := by
  obtain ⟨a1, a2, a3⟩ := h
  refine ⟨by omega, fun u u0 u1 => ?_, fun u u0 u1 => ?_⟩
  · by_cases e : u = i
    · rw [e]; exact Int.le_refl _
    · have := a2 u u0 (by omega); omega
  · have := a2 u u0 (by omega); omega
theorem isArg_old {g : Int → Int} {i kb : Int} (h : isArg g i kb) (q : ¬ g i < g kb) : isArg g (i + 1) kb := by
  obtain ⟨a1, a2, a3⟩ := h
  refine ⟨by omega, fun u u0 u1 => ?_, a3⟩
  by_cases e : u = i
  · rw [e]; omega
  · exact a2 u u0 (by omega)
theorem isArg_1 (g : Int → Int) : isArg g 1 0 := ⟨by omega, fun u u0 u1 => by rw [show u = 0 by omega]; exact Int.le_refl _, fun u u0 u1 => by omega⟩
def fdP (K : jH) (n L i fd : Int) (f : Int → Int) : Prop := i = 0 ∧ fd = -1 ∨ 0 < i ∧ ∃ kb, isArg (gS K n L) i kb ∧ fd = vS K n kb ∧ ∀ p, 0 ≤ p → p < 9 → f p = prm n kb p
theorem fdP_r {K : jH} {n L i fd : Int} {f : Int → Int} (h : fdP K n L i fd f) : -1 ≤ fd ∧ fd ≤ 180 ∧ (fd = -1 → i = 0) := by
  rcases h with ⟨a, b⟩ | ⟨a, kb, _, b, _⟩
  · omega
  · have := vS_r K n kb; omega
theorem fdP_s {K : jH} {n L i fd : Int} {f : Int → Int} (h : fdP K n L i fd f) (hi : 0 < i) : ∃ kb, isArg (gS K n L) i kb ∧ fd = vS K n kb ∧ ∀ p, 0 ≤ p → p < 9 → f p = prm n kb p := by
  rcases h with ⟨a, b⟩ | ⟨a, b⟩
  · omega
  · exact b
section S29
variable {E : jE} {H K : jH}
-- X4_stepToNextRow
set_option maxHeartbeats 1000000 in
theorem s_stepToNextRow {n : Int} {f : Int → Int} (hn : 1 ≤ n ∧ n ≤ 6) (hf : ∀ i, 0 ≤ i → i < 9 → H 54 i = f i) : jOk E mX4_stepToNextRow [jRF E 0, .int (jI n)] H (jQi fun r H' => (∀ k, k ≠ 54 → H' k = H k) ∧ ((lowN f (n - 1).toNat < 0 ∧ r = 0) ∨ (0 ≤ lowN f (n - 1).toNat ∧ r = 1 ∧ ∀ i, 0 ≤ i → i < 9 → H' 54 i = nxt n f i))) := by
  refine jOk.rng (fun hR0 => ?_)
  refine jOk.ofe rfl (Nat.le_of_ble_eq_true rfl) (en_ai_6 (E := E)) ?_
  have l3 : ∀ k : Nat, ∀ (g : Int → Int) (a b lo hi : Int) (Hi : jH), (1 ≤ a ∧ a ≤ 6 ∧ 0 ≤ b ∧ b ≤ 5 ∧ b - a ≤ 2 * k) → (∀ q, q ≠ 54 → Hi q = H q) → (∀ i, 0 ≤ i → i < 9 → Hi 54 i = g i) → revN k g a b = nxt n f → 0 ≤ lowN f (n - 1).toNat → jWP E mX4_stepToNextRow (jQi fun r H' => (∀ k, k ≠ 54 → H' k = H k) ∧ ((lowN f (n - 1).toNat < 0 ∧ r = 0) ∨ (0 ≤ lowN f (n - 1).toNat ∧ r = 1 ∧ ∀ i, 0 ≤ i → i < 9 → H' 54 i = nxt n f i))) 86 [some (jRF E 0), some (.int (jI n)), some (.int (jI lo)), some (.int (jI hi)), some (.int (jI a)), some (.int (jI b))] [] Hi := by
    intro k
    induction k with
    | zero =>
      intro g a b lo hi Hi hab g1 g2 g3 g4
      refine j_iload 88 rfl rfl dX4_stepToNextRow_86 ?_
      refine j_iload 90 rfl rfl dX4_stepToNextRow_88 ?_
      refine j_icmp_ge 113 93 (by decide) rfl dX4_stepToNextRow_90 (by intro hR; first | omega | exact hR _ _ | exact jb_r _ | exact hR0 _ _ | assumption) (by intro hR; first | omega | exact hR _ _ | exact jb_r _ | exact hR0 _ _ | assumption) (fun h1 => ?_) (fun h1 => ?_)
      · refine j_iconst 114 rfl dX4_stepToNextRow_113 ?_
        refine j_zreti dX4_stepToNextRow_114 rfl (by first | decide | omega) ?_
        refine ⟨g1, Or.inr ⟨g4, rfl, fun i i0 i1 => ?_⟩⟩
        rw [← g3]
        exact g2 i i0 i1
      · exfalso; omega
    | succ k ih =>
      intro g a b lo hi Hi hab g1 g2 g3 g4
      refine j_iload 88 rfl rfl dX4_stepToNextRow_86 ?_
      refine j_iload 90 rfl rfl dX4_stepToNextRow_88 ?_
      refine j_icmp_ge 113 93 (by decide) rfl dX4_stepToNextRow_90 (by intro hR; first | omega | exact hR _ _ | exact jb_r _ | exact hR0 _ _ | assumption) (by intro hR; first | omega | exact hR _ _ | exact jb_r _ | exact hR0 _ _ | assumption) (fun h1 => ?_) (fun h1 => ?_)
      · refine j_iconst 114 rfl dX4_stepToNextRow_113 ?_
        refine j_zreti dX4_stepToNextRow_114 rfl (by first | decide | omega) ?_
        refine ⟨g1, Or.inr ⟨g4, rfl, fun i i0 i1 => ?_⟩⟩
        rw [← g3, revN, if_neg (by omega)]
        exact g2 i i0 i1
      · refine j_aload_n 94 rfl rfl dX4_stepToNextRow_93 ?_
        refine j_getr 97 rfl 14 fl_X4_69 dX4_stepToNextRow_94 (by decide) ( rfl) ( rfl) ?_
        refine j_iload 99 rfl rfl dX4_stepToNextRow_97 ?_
        refine j_iload 101 rfl rfl dX4_stepToNextRow_99 ?_
        refine jS3v 104 rfl dX4_stepToNextRow_101 lk_X4_105 rfl rfl (s_exchange (Or.inr rfl) (by omega) (by omega)) (fun H2 e => ?_)
        subst e
        refine j_iinc 107 rfl rfl st_6_4 (by decide) rfl dX4_stepToNextRow_104 ?_
        refine j_iinc 110 rfl rfl st_6_5 (by decide) rfl dX4_stepToNextRow_107 ?_
        refine j_goto 86 (by decide) dX4_stepToNextRow_110 ?_
        rw [revN, if_pos (by omega)] at g3
        exact ih (swp g a b) (a + 1) (b - 1) lo hi _ (by omega) (fun q hq => by rw [jU_o hq, jU_o hq]; exact g1 q hq) (swp_ag g2 (by omega) (by omega)) g3 g4
  have l2 : ∀ lo hi : Int, lo = lowN f (n - 1).toNat → (0 ≤ lo ∧ lo ≤ n - 2) → (lo ≤ hi ∧ hi ≤ n - 1) → hi = highN f lo (n - 1 - lo).toNat → jWP E mX4_stepToNextRow (jQi fun r H' => (∀ k, k ≠ 54 → H' k = H k) ∧ ((lowN f (n - 1).toNat < 0 ∧ r = 0) ∨ (0 ≤ lowN f (n - 1).toNat ∧ r = 1 ∧ ∀ i, 0 ≤ i → i < 9 → H' 54 i = nxt n f i))) 67 [some (jRF E 0), some (.int (jI n)), some (.int (jI lo)), some (.int (jI hi)), none, none] [] H := by
    intro lo hi e1 h1 h2 e2
    refine j_aload_n 68 rfl rfl dX4_stepToNextRow_67 ?_
    refine j_getr 71 rfl 14 fl_X4_69 dX4_stepToNextRow_68 (by decide) ( rfl) ( rfl) ?_
    refine j_iload_n 72 rfl rfl dX4_stepToNextRow_71 ?_
    refine j_iload_n 73 rfl rfl dX4_stepToNextRow_72 ?_
    refine jS3v 76 rfl dX4_stepToNextRow_73 lk_X4_105 rfl rfl (s_exchange (Or.inr rfl) (by omega) (by omega)) (fun H2 e => ?_)
    subst e
    refine j_iload_n 77 rfl rfl dX4_stepToNextRow_76 ?_
    refine j_iconst 78 rfl dX4_stepToNextRow_77 ?_
    refine j_iadd 79 rfl dX4_stepToNextRow_78 ?_
    refine j_istore 81 rfl st_6_4 (by decide) rfl dX4_stepToNextRow_79 ?_
    refine j_iload_n 82 rfl rfl dX4_stepToNextRow_81 ?_
    refine j_iconst 83 rfl dX4_stepToNextRow_82 ?_
    refine j_isub 84 rfl dX4_stepToNextRow_83 ?_
    refine j_istore 86 rfl st_6_5 (by decide) rfl dX4_stepToNextRow_84 ?_
    refine l3 4 (swp f lo hi) (lo + 1) (n - 1) lo hi _ (by omega) (fun q hq => by rw [jU_o hq, jU_o hq]) (swp_ag hf (by omega) (by omega)) ?_ (by omega)
    unfold nxt
    rw [← e1, ← e2]
  have l1 : ∀ lo : Int, lo = lowN f (n - 1).toNat → (0 ≤ lo ∧ lo ≤ n - 2) → jWP E mX4_stepToNextRow (jQi fun r H' => (∀ k, k ≠ 54 → H' k = H k) ∧ ((lowN f (n - 1).toNat < 0 ∧ r = 0) ∨ (0 ≤ lowN f (n - 1).toNat ∧ r = 1 ∧ ∀ i, 0 ≤ i → i < 9 → H' 54 i = nxt n f i))) 31 [some (jRF E 0), some (.int (jI n)), some (.int (jI lo)), none, none, none] [] H := by
    intro lo e1 h1
    refine j_iload_n 32 rfl rfl dX4_stepToNextRow_31 ?_
    refine j_if_ge 37 35 (by decide) rfl dX4_stepToNextRow_32 (by intro hR; first | omega | exact hR _ _ | exact jb_r _ | exact hR0 _ _ | assumption) (fun h2 => ?_) (fun h2 => ?_)
    · refine j_iload_n 38 rfl rfl dX4_stepToNextRow_37 ?_
      refine j_iconst 39 rfl dX4_stepToNextRow_38 ?_
      refine j_isub 40 rfl dX4_stepToNextRow_39 ?_
      refine j_istore_n 41 rfl st_6_3 (by decide) rfl dX4_stepToNextRow_40 ?_
      have key : ∀ d : Nat, lo + d ≤ n - 1 → highN f lo d = highN f lo (n - 1 - lo).toNat → jWP E mX4_stepToNextRow (jQi fun r H' => (∀ k, k ≠ 54 → H' k = H k) ∧ ((lowN f (n - 1).toNat < 0 ∧ r = 0) ∨ (0 ≤ lowN f (n - 1).toNat ∧ r = 1 ∧ ∀ i, 0 ≤ i → i < 9 → H' 54 i = nxt n f i))) 41 [some (jRF E 0), some (.int (jI n)), some (.int (jI lo)), some (.int (jI (lo + d))), none, none] [] H := by
        intro d
        induction d with
        | zero =>
          intro k1 k2
          refine j_iload_n 42 rfl rfl dX4_stepToNextRow_41 ?_
          refine j_iload_n 43 rfl rfl dX4_stepToNextRow_42 ?_
          refine j_icmp_le 67 46 (by decide) rfl dX4_stepToNextRow_43 (by intro hR; first | omega | exact hR _ _ | exact jb_r _ | exact hR0 _ _ | assumption) (by intro hR; first | omega | exact hR _ _ | exact jb_r _ | exact hR0 _ _ | assumption) (fun h3 => ?_) (fun h3 => ?_)
          · refine l2 lo (lo + (0 : Nat)) e1 h1 (by omega) ?_
            rw [← k2, highN]
            omega
          · exfalso; omega
        | succ d ih =>
          intro k1 k2
          rw [show ((d + 1 : Nat) : Int) = (d : Int) + 1 by omega] at *
          rw [highN] at k2
          refine j_iload_n 42 rfl rfl dX4_stepToNextRow_41 ?_
          refine j_iload_n 43 rfl rfl dX4_stepToNextRow_42 ?_
          refine j_icmp_le 67 46 (by decide) rfl dX4_stepToNextRow_43 (by intro hR; first | omega | exact hR _ _ | exact jb_r _ | exact hR0 _ _ | assumption) (by intro hR; first | omega | exact hR _ _ | exact jb_r _ | exact hR0 _ _ | assumption) (fun h3 => ?_) (fun h3 => ?_)
          · exfalso; omega
          · refine j_aload_n 47 rfl rfl dX4_stepToNextRow_46 ?_
            refine j_getr 50 rfl 14 fl_X4_69 dX4_stepToNextRow_47 (by decide) ( rfl) ( rfl) ?_
            refine j_iload_n 51 rfl rfl dX4_stepToNextRow_50 ?_
            refine j_iald 52 rfl dX4_stepToNextRow_51 (by decide) rfl (by decide) rfl (by omega) ?_
            refine j_aload_n 53 rfl rfl dX4_stepToNextRow_52 ?_
            refine j_getr 56 rfl 14 fl_X4_69 dX4_stepToNextRow_53 (by decide) ( rfl) ( rfl) ?_
            refine j_iload_n 57 rfl rfl dX4_stepToNextRow_56 ?_
            refine j_iald 58 rfl dX4_stepToNextRow_57 (by decide) rfl (by decide) rfl (by omega) ?_
            rw [hf (lo + ((d : Int) + 1)) (by omega) (by omega), hf lo (by omega) (by omega)]
            have r1 := hR0 54 (lo + ((d : Int) + 1))
            have r2 := hR0 54 lo
            rw [hf (lo + ((d : Int) + 1)) (by omega) (by omega)] at r1
            rw [hf lo (by omega) (by omega)] at r2
            refine j_icmp_ge 67 61 (by decide) rfl dX4_stepToNextRow_58 (by intro hR; first | omega | exact hR _ _ | exact jb_r _ | exact hR0 _ _ | assumption) (by intro hR; first | omega | exact hR _ _ | exact jb_r _ | exact hR0 _ _ | assumption) (fun h4 => ?_) (fun h4 => ?_)
            · rw [if_neg (by omega)] at k2
              exact l2 lo _ e1 h1 (by omega) k2
            · rw [if_pos (by omega)] at k2
              refine j_iinc 64 rfl rfl st_6_3 (by decide) rfl dX4_stepToNextRow_61 ?_
              refine j_goto 41 (by decide) dX4_stepToNextRow_64 ?_
              rw [show lo + ((d : Int) + 1) + -1 = lo + (d : Int) by omega]
              exact ih (by omega) k2
      have := key (n - 1 - lo).toNat (by omega) rfl
      rw [show lo + ((n - 1 - lo).toNat : Int) = n - 1 by omega] at this
      exact this
    · exfalso; omega
  refine j_iload_n 1 rfl rfl dX4_stepToNextRow_0 ?_
  refine j_iconst 2 rfl dX4_stepToNextRow_1 ?_
  refine j_isub 3 rfl dX4_stepToNextRow_2 ?_
  refine j_istore_n 4 rfl st_6_2 (by decide) rfl dX4_stepToNextRow_3 ?_
  have key : ∀ l : Nat, (l : Int) ≤ n - 1 → lowN f l = lowN f (n - 1).toNat → jWP E mX4_stepToNextRow (jQi fun r H' => (∀ k, k ≠ 54 → H' k = H k) ∧ ((lowN f (n - 1).toNat < 0 ∧ r = 0) ∨ (0 ≤ lowN f (n - 1).toNat ∧ r = 1 ∧ ∀ i, 0 ≤ i → i < 9 → H' 54 i = nxt n f i))) 4 [some (jRF E 0), some (.int (jI n)), some (.int (jI ((l : Int) - 1))), none, none, none] [] H := by
    intro l
    induction l with
    | zero =>
      intro k1 k2
      refine j_iload_n 5 rfl rfl dX4_stepToNextRow_4 ?_
      refine j_if_lt 31 8 (by decide) rfl dX4_stepToNextRow_5 (by intro hR; first | omega | exact hR _ _ | exact jb_r _ | exact hR0 _ _ | assumption) (fun h1 => ?_) (fun h1 => ?_)
      · refine j_iload_n 32 rfl rfl dX4_stepToNextRow_31 ?_
        refine j_if_ge 37 35 (by decide) rfl dX4_stepToNextRow_32 (by intro hR; first | omega | exact hR _ _ | exact jb_r _ | exact hR0 _ _ | assumption) (fun h2 => ?_) (fun h2 => ?_)
        · exfalso; omega
        · refine j_iconst 36 rfl dX4_stepToNextRow_35 ?_
          refine j_zreti dX4_stepToNextRow_36 rfl (by first | decide | omega) ?_
          rw [lowN] at k2
          exact ⟨fun _ _ => rfl, Or.inl ⟨by omega, rfl⟩⟩
      · exfalso; omega
    | succ l ih =>
      intro k1 k2
      rw [lowN] at k2
      rw [show ((l + 1 : Nat) : Int) - 1 = (l : Int) by omega]
      refine j_iload_n 5 rfl rfl dX4_stepToNextRow_4 ?_
      refine j_if_lt 31 8 (by decide) rfl dX4_stepToNextRow_5 (by intro hR; first | omega | exact hR _ _ | exact jb_r _ | exact hR0 _ _ | assumption) (fun h1 => ?_) (fun h1 => ?_)
      · exfalso; omega
      · refine j_aload_n 9 rfl rfl dX4_stepToNextRow_8 ?_
        refine j_getr 12 rfl 14 fl_X4_69 dX4_stepToNextRow_9 (by decide) ( rfl) ( rfl) ?_
        refine j_iload_n 13 rfl rfl dX4_stepToNextRow_12 ?_
        refine j_iald 14 rfl dX4_stepToNextRow_13 (by decide) rfl (by decide) rfl (by omega) ?_
        refine j_aload_n 15 rfl rfl dX4_stepToNextRow_14 ?_
        refine j_getr 18 rfl 14 fl_X4_69 dX4_stepToNextRow_15 (by decide) ( rfl) ( rfl) ?_
        refine j_iload_n 19 rfl rfl dX4_stepToNextRow_18 ?_
        refine j_iconst 20 rfl dX4_stepToNextRow_19 ?_
        refine j_iadd 21 rfl dX4_stepToNextRow_20 ?_
        refine j_iald 22 rfl dX4_stepToNextRow_21 (by decide) rfl (by decide) rfl (by omega) ?_
        rw [hf (l : Int) (by omega) (by omega), hf ((l : Int) + 1) (by omega) (by omega)]
        have r1 := hR0 54 (l : Int)
        have r2 := hR0 54 ((l : Int) + 1)
        rw [hf (l : Int) (by omega) (by omega)] at r1
        rw [hf ((l : Int) + 1) (by omega) (by omega)] at r2
        refine j_icmp_le 31 25 (by decide) rfl dX4_stepToNextRow_22 (by intro hR; first | omega | exact hR _ _ | exact jb_r _ | exact hR0 _ _ | assumption) (by intro hR; first | omega | exact hR _ _ | exact jb_r _ | exact hR0 _ _ | assumption) (fun h2 => ?_) (fun h2 => ?_)
        · rw [if_neg (by omega)] at k2
          exact l1 l k2 (by omega)
        · rw [if_pos (by omega)] at k2
          refine j_iinc 28 rfl rfl st_6_2 (by decide) rfl dX4_stepToNextRow_25 ?_
          refine j_goto 4 (by decide) dX4_stepToNextRow_28 ?_
          exact ih (by omega) k2
  have := key (n - 1).toNat (by omega) rfl
  rw [show (((n - 1).toNat : Nat) : Int) - 1 = n - 2 by omega] at this
  exact this
-- X4_findShelf
set_option maxHeartbeats 1000000 in
theorem s_findShelf {n L : Int} (hn6 : 1 ≤ n ∧ n ≤ 6) (hL : L = 0 ∨ L = 1) (h : CI H) : jOk E mX4_findShelf [jRF E 0, .int (jI n), .int (jI L)] H (jQi fun r H' => (∀ k, (k < 37 ∨ 55 < k) → H' k = H k) ∧ ∃ kb, isArg (gS (cfg H) n L) (fac n) kb ∧ r = vS (cfg H) n kb ∧ ∀ p, 0 ≤ p → p < 9 → H' 55 p = prm n kb p) := by
  have hn := parsed_n h.1.1 h.1.2.1
  have ok := cfg_ok h.1
  have hfac := fac_r (n := n)
  have hLr : -2147483648 ≤ L ∧ L ≤ 2147483647 := by omega
  refine jOk.rng (fun hR0 => ?_)
  refine jOk.ofe rfl (Nat.le_of_ble_eq_true rfl) (en_aii_7 (E := E)) ?_
  refine j_aload_n 1 rfl rfl dX4_findShelf_0 ?_
  refine j_getr 4 rfl 11 fl_X4_60 dX4_findShelf_1 (by decide) ( rfl) ( rfl) ?_
  refine j_aload_n 5 rfl rfl dX4_findShelf_4 ?_
  refine j_getr 8 rfl 0 fl_X4_12 dX4_findShelf_5 (by decide) ( rfl) ( rfl) ?_
  refine j_aload_n 9 rfl rfl dX4_findShelf_8 ?_
  refine j_getr 12 rfl 1 fl_X4_16 dX4_findShelf_9 (by decide) ( rfl) ( rfl) ?_
  refine j_aload_n 13 rfl rfl dX4_findShelf_12 ?_
  refine g_geti 16 rfl 2 2 rfl fl_X4_20 dX4_findShelf_13 (by decide) ( rfl) ( rfl) ?_
  refine j_aload_n 17 rfl rfl dX4_findShelf_16 ?_
  refine j_getr 20 rfl 3 fl_X4_27 dX4_findShelf_17 (by decide) ( rfl) ( rfl) ?_
  refine jV4v 23 rfl dX4_findShelf_20 lk_X4_161 rfl rfl (by decide) ( rfl) ( rfl) (r_load h.1) (fun H1 ⟨f0, hh0⟩ => ?_)
  refine j_iconst 24 rfl dX4_findShelf_23 ?_
  refine j_istore_n 25 rfl st_7_3 (by decide) rfl dX4_findShelf_24 ?_
  have loop2 := jUp 0 (fac n) (fun i => ∀ Hi fd m x6, m = (if i < fac n then 1 else 0) → (∀ k, (k < 37 ∨ 55 < k) → Hi k = H k) → (∃ g, hold 37 Hi (kPlc (cfg H) g)) → (i < fac n → ∀ p, 0 ≤ p → p < 9 → Hi 54 p = prm n i p) → fdP (cfg H) n L i fd (Hi 55) → jWP E mX4_findShelf (jQi fun r H' => (∀ k, (k < 37 ∨ 55 < k) → H' k = H k) ∧ ∃ kb, isArg (gS (cfg H) n L) (fac n) kb ∧ r = vS (cfg H) n kb ∧ ∀ p, 0 ≤ p → p < 9 → H' 55 p = prm n kb p) 52 [some (jRF E 0), some (.int (jI n)), some (.int (jI L)), some (.int (jI fd)), some (.int (jI m)), some (.int (jI i)), x6] [] Hi) ?_ ?_ 0 (by omega) (by omega)
  · have loop := jUp 0 9 (fun i => jWP E mX4_findShelf (jQi fun r H' => (∀ k, (k < 37 ∨ 55 < k) → H' k = H k) ∧ ∃ kb, isArg (gS (cfg H) n L) (fac n) kb ∧ r = vS (cfg H) n kb ∧ ∀ p, 0 ≤ p → p < 9 → H' 55 p = prm n kb p) 25 [some (jRF E 0), some (.int (jI n)), some (.int (jI L)), some (.int (jI i)), none, none, none] [] (jMp H1 54 i (fun q => q))) ?_ ?_ 0 (by omega) (by omega)
    · rw [jMp_0] at loop
      exact loop
    · refine j_iload_n 26 rfl rfl dX4_findShelf_25 ?_
      refine j_bipush 28 rfl rfl dX4_findShelf_26 ?_
      refine j_icmp_ge 44 31 (by decide) rfl dX4_findShelf_28 (by intro hR; first | omega | exact hR _ _ | exact jb_r _ | exact hR0 _ _ | assumption) (by intro hR; first | omega | exact hR _ _ | exact jb_r _ | exact hR0 _ _ | assumption) (fun h2 => ?_) (fun h2 => ?_)
      · refine j_iconst 45 rfl dX4_findShelf_44 ?_
        refine j_istore_n 46 rfl st_7_3 (by decide) rfl dX4_findShelf_45 ?_
        refine j_iconst 47 rfl dX4_findShelf_46 ?_
        refine j_istore 49 rfl st_7_4 (by decide) rfl dX4_findShelf_47 ?_
        refine j_iconst 50 rfl dX4_findShelf_49 ?_
        refine j_istore 52 rfl st_7_5 (by decide) rfl dX4_findShelf_50 ?_
        refine loop2 _ _ _ _ (by rw [if_pos (by omega)]) (fun k a => by rw [jMp_o (by omega)]; exact f0 k (by omega)) ⟨cfg H 4, ?_⟩ (fun _ p p0 p1 => ?_) (Or.inl ⟨rfl, rfl⟩)
        · rw [kPlc_self]
          exact hold_cong hh0 (fun k a b => by rw [jMp_o (by omega)])
        · rw [jMp_i p0 p1]
          have := prm_0 ⟨n.toNat, by omega⟩ (by show 1 ≤ n.toNat; omega) ⟨p.toNat, by omega⟩
          simp only [Int.toNat_of_nonneg p0, Int.toNat_of_nonneg (show 0 ≤ n by omega)] at this
          exact this.symm
      · exfalso; omega
    · intro i i0 i1 ih
      rw [← jMp_s H1 54 (fun q => q) i0] at ih
      refine j_iload_n 26 rfl rfl dX4_findShelf_25 ?_
      refine j_bipush 28 rfl rfl dX4_findShelf_26 ?_
      refine j_icmp_ge 44 31 (by decide) rfl dX4_findShelf_28 (by intro hR; first | omega | exact hR _ _ | exact jb_r _ | exact hR0 _ _ | assumption) (by intro hR; first | omega | exact hR _ _ | exact jb_r _ | exact hR0 _ _ | assumption) (fun h2 => ?_) (fun h2 => ?_)
      · exfalso; omega
      · refine j_aload_n 32 rfl rfl dX4_findShelf_31 ?_
        refine j_getr 35 rfl 14 fl_X4_69 dX4_findShelf_32 (by decide) ( rfl) ( rfl) ?_
        refine j_iload_n 36 rfl rfl dX4_findShelf_35 ?_
        refine j_iload_n 37 rfl rfl dX4_findShelf_36 ?_
        refine j_iast 38 rfl dX4_findShelf_37 (by decide) rfl (by decide) rfl (by omega) (by intro hR; first | omega | exact hR _ _ | exact jb_r _ | exact hR0 _ _ | assumption) ?_
        refine j_iinc 41 rfl rfl st_7_3 (by decide) rfl dX4_findShelf_38 ?_
        refine j_goto 25 (by decide) dX4_findShelf_41 ?_
        exact ih
  · intro Hi fd m x6 hm g1 g2 g3 g4
    rw [if_neg (by omega)] at hm
    subst hm
    have fin : jWP E mX4_findShelf (jQi fun r H' => (∀ k, (k < 37 ∨ 55 < k) → H' k = H k) ∧ ∃ kb, isArg (gS (cfg H) n L) (fac n) kb ∧ r = vS (cfg H) n kb ∧ ∀ p, 0 ≤ p → p < 9 → H' 55 p = prm n kb p) 151 [some (jRF E 0), some (.int (jI n)), some (.int (jI L)), some (.int (jI fd)), some (.int (jI 0)), some (.int (jI (fac n))), x6] [] Hi := by
      refine j_iload_n 152 rfl rfl dX4_findShelf_151 ?_
      refine j_ireti dX4_findShelf_152 rfl ?_
      exact ⟨g1, fdP_s g4 (by omega)⟩
    refine j_iload 54 rfl rfl dX4_findShelf_52 ?_
    refine j_sipush 57 rfl rfl dX4_findShelf_54 ?_
    refine j_icmp_ge 151 60 (by decide) rfl dX4_findShelf_57 (by intro hR; first | omega | exact hR _ _ | exact jb_r _ | exact hR0 _ _ | assumption) (by intro hR; first | omega | exact hR _ _ | exact jb_r _ | exact hR0 _ _ | assumption) (fun h2 => ?_) (fun h2 => ?_)
    · exact fin
    · refine j_iload 62 rfl rfl dX4_findShelf_60 ?_
      refine j_if_eq 151 65 (by decide) rfl dX4_findShelf_62 (by intro hR; first | omega | exact hR _ _ | exact jb_r _ | exact hR0 _ _ | assumption) (fun h3 => ?_) (fun h3 => ?_)
      · exact fin
      · exfalso; omega
  · intro i i0 i1 ih Hi fd m x6 hm g1 g2 g3 g4
    rw [if_pos i1] at hm
    subst hm
    have g3 := g3 i1
    have hp := prm_ok hn6 (k := i) ⟨i0, i1⟩
    obtain ⟨g, g2⟩ := g2
    have hv := vS_r (cfg H) n i
    have tail : ∀ H3 fd v, (∀ k, (k < 37 ∨ 55 < k) → H3 k = H k) → hold 37 H3 (kShf (cfg H) n i) → (∀ p, 0 ≤ p → p < 9 → H3 54 p = prm n i p) → (∃ kb, isArg (gS (cfg H) n L) (i + 1) kb ∧ fd = vS (cfg H) n kb ∧ ∀ p, 0 ≤ p → p < 9 → H3 55 p = prm n kb p) → jWP E mX4_findShelf (jQi fun r H' => (∀ k, (k < 37 ∨ 55 < k) → H' k = H k) ∧ ∃ kb, isArg (gS (cfg H) n L) (fac n) kb ∧ r = vS (cfg H) n kb ∧ ∀ p, 0 ≤ p → p < 9 → H' 55 p = prm n kb p) 138 [some (jRF E 0), some (.int (jI n)), some (.int (jI L)), some (.int (jI fd)), some (.int (jI 1)), some (.int (jI i)), some (.int (jI v))] [] H3 := by
      intro H3 fd v q1 q2 q3 q4
      refine j_aload_n 139 rfl rfl dX4_findShelf_138 ?_
      refine j_iload_n 140 rfl rfl dX4_findShelf_139 ?_
      refine jV1i 143 rfl dX4_findShelf_140 lk_X4_330 rfl rfl (by decide) ( rfl) ( rfl) (s_stepToNextRow hn6 q3) (fun r H4 ⟨w1, w2⟩ => ?_)
      refine j_istore 145 rfl st_7_4 (by decide) rfl dX4_findShelf_143 ?_
      refine j_iinc 148 rfl rfl st_7_5 (by decide) rfl dX4_findShelf_145 ?_
      refine j_goto 52 (by decide) dX4_findShelf_148 ?_
      refine ih H4 _ _ _ ?_ (fun k a => by rw [w1 k (by omega)]; exact q1 k a) ⟨rinv (prm n i), hold_cong q2 (fun k a b => by rw [w1 k (by omega)])⟩ (fun a p p0 p1 => ?_) (Or.inr ⟨by omega, ?_⟩)
      · by_cases e : i + 1 < fac n
        · rw [if_pos e]
          have := (hp.1 e).1
          omega
        · rw [if_neg e]
          have := hp.2.1 (by omega)
          omega
      · have e := hp.1 a
        rcases w2 with w2 | ⟨_, _, w2⟩
        · omega
        · rw [w2 p p0 p1, e.2 p p0 p1]
      · obtain ⟨kb, b1, b2, b3⟩ := q4
        exact ⟨kb, b1, b2, fun p p0 p1 => by rw [w1 55 (by decide)]; exact b3 p p0 p1⟩
    refine j_iload 54 rfl rfl dX4_findShelf_52 ?_
    refine j_sipush 57 rfl rfl dX4_findShelf_54 ?_
    refine j_icmp_ge 151 60 (by decide) rfl dX4_findShelf_57 (by intro hR; first | omega | exact hR _ _ | exact jb_r _ | exact hR0 _ _ | assumption) (by intro hR; first | omega | exact hR _ _ | exact jb_r _ | exact hR0 _ _ | assumption) (fun h2 => ?_) (fun h2 => ?_)
    · exfalso; omega
    · refine j_iload 62 rfl rfl dX4_findShelf_60 ?_
      refine j_if_eq 151 65 (by decide) rfl dX4_findShelf_62 (by intro hR; first | omega | exact hR _ _ | exact jb_r _ | exact hR0 _ _ | assumption) (fun h3 => ?_) (fun h3 => ?_)
      · exfalso; omega
      · refine j_aload_n 66 rfl rfl dX4_findShelf_65 ?_
        refine j_getr 69 rfl 11 fl_X4_60 dX4_findShelf_66 (by decide) ( rfl) ( rfl) ?_
        refine j_aload_n 70 rfl rfl dX4_findShelf_69 ?_
        refine j_getr 73 rfl 14 fl_X4_69 dX4_findShelf_70 (by decide) ( rfl) ( rfl) ?_
        refine jV1v 76 rfl dX4_findShelf_73 lk_X4_326 rfl rfl (by decide) ( rfl) ( rfl) (s_putRow_37 (Or.inr rfl) (fun p p0 p1 => by rw [g3 p p0 p1]; exact (hp.2.2 p p0 p1).1)) (fun H2 e => ?_)
        subst e
        have hs := hold_shf g2 hn6 ⟨i0, i1⟩ g3
        have oks := cOk_shf ok hn6 (k := i) ⟨i0, i1⟩
        refine j_aload_n 77 rfl rfl dX4_findShelf_76 ?_
        refine j_getr 80 rfl 11 fl_X4_60 dX4_findShelf_77 (by decide) ( rfl) ( rfl) ?_
        refine j_bipush 82 rfl rfl dX4_findShelf_80 ?_
        refine jV1v 85 rfl dX4_findShelf_82 lk_X4_187 rfl rfl (by decide) ( rfl) ( rfl) (r_run (by omega) hs oks) (fun H3 ⟨q1, q2, q3⟩ => ?_)
        have t1 : ∀ k, (k < 37 ∨ 55 < k) → H3 k = H k := fun k a => by rw [q1 k (by omega), pr_o _ (by omega)]; exact g1 k a
        have t2 : H3 54 = Hi 54 := by rw [q1 54 (by decide), pr_o _ (by decide)]
        have t3 : H3 55 = Hi 55 := by rw [q1 55 (by decide), pr_o _ (by decide)]
        refine j_aload_n 86 rfl rfl dX4_findShelf_85 ?_
        refine j_getr 89 rfl 11 fl_X4_60 dX4_findShelf_86 (by decide) ( rfl) ( rfl) ?_
        refine j_bipush 91 rfl rfl dX4_findShelf_89 ?_
        refine jV1i 94 rfl dX4_findShelf_91 lk_X4_218 rfl rfl (by decide) ( rfl) ( rfl) (s_openings_37 (by omega) (fun s s0 s1 => by rw [(q3 s s0 s1).1]; exact pO_r oks.1 s)) (fun r6 H6 ⟨eh_, hr6⟩ => ?_)
        obtain rfl := eh_.symm
        have hr6 : r6 = vS (cfg H) n i := by
          rw [hr6]
          exact sumI_cong (fun s s0 s1 => by rw [(q3 s s0 (by omega)).1])
        subst hr6
        refine j_istore 96 rfl st_7_6 (by decide) rfl dX4_findShelf_94 ?_
        refine j_iload_n 97 rfl rfl dX4_findShelf_96 ?_
        refine j_iconst 98 rfl dX4_findShelf_97 ?_
        have upd : (i = 0 ∨ ∃ kb, isArg (gS (cfg H) n L) i kb ∧ gS (cfg H) n L i < gS (cfg H) n L kb) → jWP E mX4_findShelf (jQi fun r H' => (∀ k, (k < 37 ∨ 55 < k) → H' k = H k) ∧ ∃ kb, isArg (gS (cfg H) n L) (fac n) kb ∧ r = vS (cfg H) n kb ∧ ∀ p, 0 ≤ p → p < 9 → H' 55 p = prm n kb p) 120 [some (jRF E 0), some (.int (jI n)), some (.int (jI L)), some (.int (jI fd)), some (.int (jI 1)), some (.int (jI i)), some (.int (jI (vS (cfg H) n i)))] [] H3 := by
          intro hu
          refine j_iload 122 rfl rfl dX4_findShelf_120 ?_
          refine j_istore_n 123 rfl st_7_3 (by decide) rfl dX4_findShelf_122 ?_
          refine j_aload_n 124 rfl rfl dX4_findShelf_123 ?_
          refine j_getr 127 rfl 14 fl_X4_69 dX4_findShelf_124 (by decide) ( rfl) ( rfl) ?_
          refine j_iconst 128 rfl dX4_findShelf_127 ?_
          refine j_aload_n 129 rfl rfl dX4_findShelf_128 ?_
          refine j_getr 132 rfl 15 fl_X4_72 dX4_findShelf_129 (by decide) ( rfl) ( rfl) ?_
          refine j_iconst 133 rfl dX4_findShelf_132 ?_
          refine j_bipush 135 rfl rfl dX4_findShelf_133 ?_
          refine j_copy 138 rfl lc_X4_241 dX4_findShelf_135 (by decide) (by decide) rfl rfl rfl rfl (by decide) (by decide) (by omega) (by omega) (by omega) (by decide) (Nat.le_of_ble_eq_true rfl) ?_
          refine tail _ _ _ (fun k a => by rw [jCpy_o (by omega)]; exact t1 k a) (hold_cong q2 (fun k a b => by rw [jCpy_o (by omega)])) (fun p p0 p1 => by rw [jCpy_k (by decide), t2]; exact g3 p p0 p1) ⟨i, ?_, rfl, fun p p0 p1 => ?_⟩
          · rcases hu with e | ⟨kb, a1, a2⟩
            · rw [e]; exact isArg_1 _
            · exact isArg_new i0 a1 a2
          · rw [jCpy_i (by omega) (by omega), show (0 : Int) + (p - 0) = p by omega, t2]
            exact g3 p p0 p1
        have noupd : (∃ kb, isArg (gS (cfg H) n L) i kb ∧ fd = vS (cfg H) n kb ∧ (∀ p, 0 ≤ p → p < 9 → Hi 55 p = prm n kb p) ∧ ¬ gS (cfg H) n L i < gS (cfg H) n L kb) → jWP E mX4_findShelf (jQi fun r H' => (∀ k, (k < 37 ∨ 55 < k) → H' k = H k) ∧ ∃ kb, isArg (gS (cfg H) n L) (fac n) kb ∧ r = vS (cfg H) n kb ∧ ∀ p, 0 ≤ p → p < 9 → H' 55 p = prm n kb p) 138 [some (jRF E 0), some (.int (jI n)), some (.int (jI L)), some (.int (jI fd)), some (.int (jI 1)), some (.int (jI i)), some (.int (jI (vS (cfg H) n i)))] [] H3 := by
          rintro ⟨kb, a1, a2, a3, a4⟩
          exact tail H3 fd _ t1 q2 (fun p p0 p1 => by rw [t2]; exact g3 p p0 p1) ⟨kb, isArg_old a1 a4, a2, fun p p0 p1 => by rw [t3]; exact a3 p p0 p1⟩
        have hfd := fdP_r g4
        refine j_icmp_eq 120 101 (by decide) rfl dX4_findShelf_98 (by intro hR; first | omega | exact hR _ _ | exact jb_r _ | exact hR0 _ _ | assumption) (by intro hR; first | omega | exact hR _ _ | exact jb_r _ | exact hR0 _ _ | assumption) (fun h4 => ?_) (fun h4 => ?_)
        · exact upd (Or.inl (hfd.2.2 h4))
        · have hi0 : 0 < i := by
            rcases g4 with ⟨_, b⟩ | ⟨b, _⟩
            · exact absurd b h4
            · exact b
          obtain ⟨kb, a1, a2, a3⟩ := fdP_s g4 hi0
          have eg : ∀ q, gS (cfg H) n L q = if L = 1 then -vS (cfg H) n q else vS (cfg H) n q := fun _ => rfl
          refine j_iload_n 102 rfl rfl dX4_findShelf_101 ?_
          refine j_if_eq 114 105 (by decide) rfl dX4_findShelf_102 (by intro hR; first | omega | exact hR _ _ | exact jb_r _ | exact hR0 _ _ | assumption) (fun h5 => ?_) (fun h5 => ?_)
          · have e0 : ∀ q, gS (cfg H) n L q = vS (cfg H) n q := fun q => by rw [eg, if_neg (by omega)]
            refine j_iload 116 rfl rfl dX4_findShelf_114 ?_
            refine j_iload_n 117 rfl rfl dX4_findShelf_116 ?_
            refine j_icmp_ge 138 120 (by decide) rfl dX4_findShelf_117 (by intro hR; first | omega | exact hR _ _ | exact jb_r _ | exact hR0 _ _ | assumption) (by intro hR; first | omega | exact hR _ _ | exact jb_r _ | exact hR0 _ _ | assumption) (fun h6 => ?_) (fun h6 => ?_)
            · exact noupd ⟨kb, a1, a2, a3, by rw [e0, e0]; omega⟩
            · exact upd (Or.inr ⟨kb, a1, by rw [e0, e0]; omega⟩)
          · have e0 : ∀ q, gS (cfg H) n L q = -vS (cfg H) n q := fun q => by rw [eg, if_pos (by omega)]
            refine j_iload 107 rfl rfl dX4_findShelf_105 ?_
            refine j_iload_n 108 rfl rfl dX4_findShelf_107 ?_
            refine j_icmp_le 138 111 (by decide) rfl dX4_findShelf_108 (by intro hR; first | omega | exact hR _ _ | exact jb_r _ | exact hR0 _ _ | assumption) (by intro hR; first | omega | exact hR _ _ | exact jb_r _ | exact hR0 _ _ | assumption) (fun h6 => ?_) (fun h6 => ?_)
            · exact noupd ⟨kb, a1, a2, a3, by rw [e0, e0]; omega⟩
            · refine j_goto 120 (by decide) dX4_findShelf_111 ?_
              exact upd (Or.inr ⟨kb, a1, by rw [e0, e0]; omega⟩)
-- X4_shelf
/-- what shelf tells -/
def isShf (K : jH) (n L i r : Int) : Prop := ∃ kb, isArg (gS K n L) (fac n) kb ∧ r = if i = -1 then vS K n kb else prm n kb i
theorem s_shelf {n L i : Int} (hn : -2147483648 ≤ n ∧ n ≤ 2147483647) (hL : -2147483648 ≤ L ∧ L ≤ 2147483647) (hi : -2147483648 ≤ i ∧ i ≤ 2147483647) (h : CI H) : jOk E mX4_shelf [jRF E 0, .int (jI n), .int (jI L), .int (jI i)] H (jQi fun r H' => CQ H H' ∧ ((¬ (1 ≤ n ∧ n ≤ 6 ∧ n ≤ H 1 3 ∧ (L = 0 ∨ L = 1) ∧ -1 ≤ i ∧ i < n) ∧ r = -2) ∨ ((1 ≤ n ∧ n ≤ 6 ∧ n ≤ H 1 3 ∧ (L = 0 ∨ L = 1) ∧ -1 ≤ i ∧ i < n) ∧ isShf (cfg H) n L i r))) := by
  have hn0 := parsed_n h.1.1 h.1.2.1
  by_cases hok : (1 ≤ n ∧ n ≤ 6 ∧ n ≤ H 1 3 ∧ (L = 0 ∨ L = 1) ∧ -1 ≤ i ∧ i < n)
  rotate_left
  · refine jOk.rng (fun hR0 => ?_)
    refine jOk.ofe rfl (Nat.le_of_ble_eq_true rfl) (en_aiii_5 (E := E)) ?_
    refine j_iload_n 1 rfl rfl dX4_shelf_0 ?_
    refine j_iconst 2 rfl dX4_shelf_1 ?_
    refine j_icmp_lt 39 5 (by decide) rfl dX4_shelf_2 (by intro hR; first | omega | exact hR _ _ | exact jb_r _ | exact hR0 _ _ | assumption) (by intro hR; first | omega | exact hR _ _ | exact jb_r _ | exact hR0 _ _ | assumption) (fun h2 => ?_) (fun h2 => ?_)
    · refine j_bipush 41 rfl rfl dX4_shelf_39 ?_
      refine j_ireti dX4_shelf_41 rfl ?_
      exact ⟨CQ.refl h, Or.inl ⟨by omega, rfl⟩⟩
    · refine j_iload_n 6 rfl rfl dX4_shelf_5 ?_
      refine j_bipush 8 rfl rfl dX4_shelf_6 ?_
      refine j_icmp_gt 39 11 (by decide) rfl dX4_shelf_8 (by intro hR; first | omega | exact hR _ _ | exact jb_r _ | exact hR0 _ _ | assumption) (by intro hR; first | omega | exact hR _ _ | exact jb_r _ | exact hR0 _ _ | assumption) (fun h8 => ?_) (fun h8 => ?_)
      · refine j_bipush 41 rfl rfl dX4_shelf_39 ?_
        refine j_ireti dX4_shelf_41 rfl ?_
        exact ⟨CQ.refl h, Or.inl ⟨by omega, rfl⟩⟩
      · refine j_iload_n 12 rfl rfl dX4_shelf_11 ?_
        refine j_aload_n 13 rfl rfl dX4_shelf_12 ?_
        refine j_getr 16 rfl 0 fl_X4_12 dX4_shelf_13 (by decide) ( rfl) ( rfl) ?_
        refine g_geti 19 rfl 3 3 rfl fl_X4_173 dX4_shelf_16 (by decide) ( rfl) ( rfl) ?_
        refine j_icmp_gt 39 22 (by decide) rfl dX4_shelf_19 (by intro hR; first | omega | exact hR _ _ | exact jb_r _ | exact hR0 _ _ | assumption) (by intro hR; first | omega | exact hR _ _ | exact jb_r _ | exact hR0 _ _ | assumption) (fun h19 => ?_) (fun h19 => ?_)
        · refine j_bipush 41 rfl rfl dX4_shelf_39 ?_
          refine j_ireti dX4_shelf_41 rfl ?_
          exact ⟨CQ.refl h, Or.inl ⟨by omega, rfl⟩⟩
        · refine j_iload_n 23 rfl rfl dX4_shelf_22 ?_
          refine jS1i 26 rfl dX4_shelf_23 lk_X4_140 rfl rfl (s_isEither (by omega)) (fun r23 H1 ⟨eh_, hr23⟩ => ?_)
          obtain rfl := eh_.symm
          refine j_if_eq 39 29 (by decide) rfl dX4_shelf_26 (by intro hR; first | omega | exact hR _ _ | exact jb_r _ | exact hR0 _ _ | assumption) (fun h26 => ?_) (fun h26 => ?_)
          · refine j_bipush 41 rfl rfl dX4_shelf_39 ?_
            refine j_ireti dX4_shelf_41 rfl ?_
            exact ⟨CQ.refl h, Or.inl ⟨by omega, rfl⟩⟩
          · refine j_iload_n 30 rfl rfl dX4_shelf_29 ?_
            refine j_iconst 31 rfl dX4_shelf_30 ?_
            refine j_icmp_lt 39 34 (by decide) rfl dX4_shelf_31 (by intro hR; first | omega | exact hR _ _ | exact jb_r _ | exact hR0 _ _ | assumption) (by intro hR; first | omega | exact hR _ _ | exact jb_r _ | exact hR0 _ _ | assumption) (fun h31 => ?_) (fun h31 => ?_)
            · refine j_bipush 41 rfl rfl dX4_shelf_39 ?_
              refine j_ireti dX4_shelf_41 rfl ?_
              exact ⟨CQ.refl h, Or.inl ⟨by omega, rfl⟩⟩
            · refine j_iload_n 35 rfl rfl dX4_shelf_34 ?_
              refine j_iload_n 36 rfl rfl dX4_shelf_35 ?_
              refine j_icmp_lt 42 39 (by decide) rfl dX4_shelf_36 (by intro hR; first | omega | exact hR _ _ | exact jb_r _ | exact hR0 _ _ | assumption) (by intro hR; first | omega | exact hR _ _ | exact jb_r _ | exact hR0 _ _ | assumption) (fun h36 => ?_) (fun h36 => ?_)
              · exfalso; omega
              · refine j_bipush 41 rfl rfl dX4_shelf_39 ?_
                refine j_ireti dX4_shelf_41 rfl ?_
                exact ⟨CQ.refl h, Or.inl ⟨by omega, rfl⟩⟩
  refine jOk.rng (fun hR0 => ?_)
  refine jOk.ofe rfl (Nat.le_of_ble_eq_true rfl) (en_aiii_5 (E := E)) ?_
  refine j_iload_n 1 rfl rfl dX4_shelf_0 ?_
  refine j_iconst 2 rfl dX4_shelf_1 ?_
  refine j_icmp_lt 39 5 (by decide) rfl dX4_shelf_2 (by intro hR; first | omega | exact hR _ _ | exact jb_r _ | exact hR0 _ _ | assumption) (by intro hR; first | omega | exact hR _ _ | exact jb_r _ | exact hR0 _ _ | assumption) (fun h2 => ?_) (fun h2 => ?_)
  · exfalso; omega
  refine j_iload_n 6 rfl rfl dX4_shelf_5 ?_
  refine j_bipush 8 rfl rfl dX4_shelf_6 ?_
  refine j_icmp_gt 39 11 (by decide) rfl dX4_shelf_8 (by intro hR; first | omega | exact hR _ _ | exact jb_r _ | exact hR0 _ _ | assumption) (by intro hR; first | omega | exact hR _ _ | exact jb_r _ | exact hR0 _ _ | assumption) (fun h8 => ?_) (fun h8 => ?_)
  · exfalso; omega
  refine j_iload_n 12 rfl rfl dX4_shelf_11 ?_
  refine j_aload_n 13 rfl rfl dX4_shelf_12 ?_
  refine j_getr 16 rfl 0 fl_X4_12 dX4_shelf_13 (by decide) ( rfl) ( rfl) ?_
  refine g_geti 19 rfl 3 3 rfl fl_X4_173 dX4_shelf_16 (by decide) ( rfl) ( rfl) ?_
  refine j_icmp_gt 39 22 (by decide) rfl dX4_shelf_19 (by intro hR; first | omega | exact hR _ _ | exact jb_r _ | exact hR0 _ _ | assumption) (by intro hR; first | omega | exact hR _ _ | exact jb_r _ | exact hR0 _ _ | assumption) (fun h19 => ?_) (fun h19 => ?_)
  · exfalso; omega
  refine j_iload_n 23 rfl rfl dX4_shelf_22 ?_
  refine jS1i 26 rfl dX4_shelf_23 lk_X4_140 rfl rfl (s_isEither (by omega)) (fun r23 H1 ⟨eh_, hr23⟩ => ?_)
  obtain rfl := eh_.symm
  refine j_if_eq 39 29 (by decide) rfl dX4_shelf_26 (by intro hR; first | omega | exact hR _ _ | exact jb_r _ | exact hR0 _ _ | assumption) (fun h26 => ?_) (fun h26 => ?_)
  · exfalso; omega
  refine j_iload_n 30 rfl rfl dX4_shelf_29 ?_
  refine j_iconst 31 rfl dX4_shelf_30 ?_
  refine j_icmp_lt 39 34 (by decide) rfl dX4_shelf_31 (by intro hR; first | omega | exact hR _ _ | exact jb_r _ | exact hR0 _ _ | assumption) (by intro hR; first | omega | exact hR _ _ | exact jb_r _ | exact hR0 _ _ | assumption) (fun h31 => ?_) (fun h31 => ?_)
  · exfalso; omega
  refine j_iload_n 35 rfl rfl dX4_shelf_34 ?_
  refine j_iload_n 36 rfl rfl dX4_shelf_35 ?_
  refine j_icmp_lt 42 39 (by decide) rfl dX4_shelf_36 (by intro hR; first | omega | exact hR _ _ | exact jb_r _ | exact hR0 _ _ | assumption) (by intro hR; first | omega | exact hR _ _ | exact jb_r _ | exact hR0 _ _ | assumption) (fun h36 => ?_) (fun h36 => ?_)
  rotate_left
  · exfalso; omega
  have fin : jWP E mX4_shelf (jQi fun r H' => CQ H H' ∧ ((¬ (1 ≤ n ∧ n ≤ 6 ∧ n ≤ H 1 3 ∧ (L = 0 ∨ L = 1) ∧ -1 ≤ i ∧ i < n) ∧ r = -2) ∨ ((1 ≤ n ∧ n ≤ 6 ∧ n ≤ H 1 3 ∧ (L = 0 ∨ L = 1) ∧ -1 ≤ i ∧ i < n) ∧ isShf (cfg H) n L i r))) 54 [some (jRF E 0), some (.int (jI n)), some (.int (jI L)), some (.int (jI i)), none] [.int (jI L), .int (jI n), jRF E 0] H := by
    refine jV2i 57 rfl dX4_shelf_54 lk_X4_176 rfl rfl (by decide) ( rfl) ( rfl) (s_findShelf (by omega) (by omega) h) (fun r2 H2 ⟨f2, kb, b1, b2, b3⟩ => ?_)
    subst b2
    have hcq : CQ H H2 := cq_trial h f2
    refine j_istore 59 rfl st_5_4 (by decide) rfl dX4_shelf_57 ?_
    refine j_iload_n 60 rfl rfl dX4_shelf_59 ?_
    refine j_iconst 61 rfl dX4_shelf_60 ?_
    refine j_icmp_ne 69 64 (by decide) rfl dX4_shelf_61 (by intro hR; first | omega | exact hR _ _ | exact jb_r _ | exact hR0 _ _ | assumption) (by intro hR; first | omega | exact hR _ _ | exact jb_r _ | exact hR0 _ _ | assumption) (fun h3 => ?_) (fun h3 => ?_)
    · refine j_aload_n 70 rfl rfl dX4_shelf_69 ?_
      refine j_getr 73 rfl 15 fl_X4_72 dX4_shelf_70 (by decide) ( rfl) ( rfl) ?_
      refine j_iload_n 74 rfl rfl dX4_shelf_73 ?_
      refine j_iald 75 rfl dX4_shelf_74 (by decide) rfl (by decide) rfl (by omega) ?_
      rw [b3 i (by omega) (by omega)]
      refine j_ireti dX4_shelf_75 rfl ?_
      exact ⟨hcq, Or.inr ⟨hok, kb, b1, by rw [if_neg h3]⟩⟩
    · refine j_iload 66 rfl rfl dX4_shelf_64 ?_
      refine j_goto 75 (by decide) dX4_shelf_66 ?_
      refine j_ireti dX4_shelf_75 rfl ?_
      exact ⟨hcq, Or.inr ⟨hok, kb, b1, by rw [if_pos (by omega)]⟩⟩
  refine j_aload_n 43 rfl rfl dX4_shelf_42 ?_
  refine j_iload_n 44 rfl rfl dX4_shelf_43 ?_
  refine j_iload_n 45 rfl rfl dX4_shelf_44 ?_
  refine j_iconst 46 rfl dX4_shelf_45 ?_
  refine j_icmp_ne 53 49 (by decide) rfl dX4_shelf_46 (by intro hR; first | omega | exact hR _ _ | exact jb_r _ | exact hR0 _ _ | assumption) (by intro hR; first | omega | exact hR _ _ | exact jb_r _ | exact hR0 _ _ | assumption) (fun h1 => ?_) (fun h1 => ?_)
  · refine j_iconst 54 rfl dX4_shelf_53 ?_
    rw [show L = 0 by omega] at fin ⊢
    exact fin
  · refine j_iconst 50 rfl dX4_shelf_49 ?_
    refine j_goto 54 (by decide) dX4_shelf_50 ?_
    rw [show L = 1 by omega] at fin ⊢
    exact fin
end S29
