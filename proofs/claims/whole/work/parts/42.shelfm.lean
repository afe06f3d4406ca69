/-! ===== the reference: shelf ===== -/
theorem shN_r {n : Int} (hn : 1 ≤ n ∧ n ≤ 6) (k : Int) : ∀ (c : Nat) (i : Int), 0 ≤ i → i < n → 0 ≤ shN n (dig n k) c i ∧ shN n (dig n k) c i ≤ 6 + c
  | 0, i, i0, i1 => by
    show 0 ≤ dig n k i ∧ dig n k i ≤ _
    unfold dig
    have h1 := Int.emod_nonneg (k / fac0 (n - 1 - i)) (show n - i ≠ 0 by omega)
    have h2 := Int.emod_lt_of_pos (k / fac0 (n - 1 - i)) (show 0 < n - i by omega)
    omega
  | c + 1, i, i0, i1 => by
    have ih := shN_r hn k c i i0 i1
    rw [shN]
    unfold shq
    split
    · split <;> omega
    · omega
theorem fac0_s {m : Int} (h : 0 ≤ m ∧ m ≤ 5) : fac0 (m + 1) = fac0 m * (m + 1) ∧ 0 < fac0 m := by
  rcases (show m = 0 ∨ m = 1 ∨ m = 2 ∨ m = 3 ∨ m = 4 ∨ m = 5 by omega) with rfl | rfl | rfl | rfl | rfl | rfl <;> decide
theorem fac_s {k : Int} (h : 2 ≤ k ∧ k ≤ 6) : fac k = fac (k - 1) * k := by
  rcases (show k = 2 ∨ k = 3 ∨ k = 4 ∨ k = 5 ∨ k = 6 by omega) with rfl | rfl | rfl | rfl | rfl <;> decide
theorem ediv_ediv' {a b c : Int} (hb : 0 < b) : a / b / c = a / (b * c) := Int.ediv_ediv_of_nonneg (by omega)
theorem prm_lt {n k : Int} (hn : 1 ≤ n ∧ n ≤ 6) (hk : 0 ≤ k ∧ k < fac n) {p : Int} (p0 : 0 ≤ p) (p1 : p < n) : 0 ≤ prm n k p ∧ prm n k p < n := by
  have h := (prm_ok hn hk).2.2
  have h1 := h p p0 (by omega)
  refine ⟨h1.1.1, ?_⟩
  apply Classical.byContradiction
  intro z
  have e : prm n k (prm n k p) = prm n k p := by
    rw [show prm n k (prm n k p) = if 0 ≤ prm n k p ∧ prm n k p < n then _ else prm n k p from rfl, if_neg (by omega)]
  have h2 := (h (prm n k p) h1.1.1 (by omega)).2.1
  rw [e, h1.2.1] at h2
  omega
theorem prm_hi {n k p : Int} (h : n ≤ p) : prm n k p = p := by unfold prm; rw [if_neg (by omega)]
theorem pr_pn (H : jH) {k rk : Nat} {N : Int} (hi : ∀ p q, 0 ≤ p → p < N → 0 ≤ q → q < N → H rk p = H rk q → p = q) : ∀ n : Nat, (n : Int) ≤ N → ∀ p : Int, 0 ≤ p → p < n → prN H k rk n k (H rk p) = p
  | 0, _, p, h0, h1 => by omega
  | n + 1, hn, p, h0, h1 => by
    rw [prN]
    by_cases hp : p = n
    · subst hp
      rw [jU_s]
    · rw [jU_i (fun e => hp (hi p n h0 (by omega) (by omega) (by omega) e))]
      exact pr_pn H hi n (by omega) p h0 (by omega)
theorem pr_no (H : jH) {k rk : Nat} {b : Int} : ∀ n : Nat, (∀ p : Int, 0 ≤ p → p < n → H rk p ≠ b) → prN H k rk n k b = H k b
  | 0, _ => rfl
  | n + 1, h => by
    rw [prN, jU_i (fun e => h n (by omega) (by omega) e.symm)]
    exact pr_no H n (fun p p0 p1 => h p p0 (by omega))
theorem holdM_plc {H K : jH} {g : Int → Int} (h : holdM H (kPlc K g)) (hn : K 0 0 ≤ 9) {H' : jH} (f : ∀ k, k ≠ 69 → (k = 56 ∨ k = 62 ∨ k = 65 ∨ k = 70 ∨ k = 71) → H' k = H k) {g2 : Int → Int} (h69 : ∀ b, 0 ≤ b → b < 9 → H' 69 b = g2 b) : holdM H' (kPlc K g2) := by
  obtain ⟨h1, h2, h3, h4⟩ := h
  unfold holdM
  rw [kPlc_o (k := 0) (by decide), kPlc_o (k := 1) (by decide), kPlc_o (k := 2) (by decide), kPlc_o (k := 3) (by decide), kPlc_o (k := 6) (by decide), kPlc_o (k := 7) (by decide), kPlc_o (k := 8) (by decide)]
  rw [kPlc_o (k := 0) (by decide)] at h1 h2 h3
  rw [f 56 (by decide) (by decide), f 62 (by decide) (by decide), f 65 (by decide) (by decide), f 70 (by decide) (by decide), f 71 (by decide) (by decide)]
  refine ⟨h1, h2, fun b b0 b1 => ?_, fun t t0 t1 => ?_⟩
  · obtain ⟨a1, a2, a3, _⟩ := h3 b b0 b1
    exact ⟨a1, a2, a3, by rw [kPlc_4]; exact h69 b b0 (by omega)⟩
  · exact h4 t t0 t1
section S42
variable {E : jE} {H K Hi : jH}
-- X5_unfolds
set_option maxHeartbeats 1000000 in
theorem m_unfolds {n c : Int} (hn : 1 ≤ n ∧ n ≤ 6) (hc : 0 ≤ c ∧ c < fac n) : jOk E mX5_unfolds [jRF E 56, .int (jI n), .int (jI c)] H (jQv fun H' => (∀ k, k ≠ 74 → H' k = H k) ∧ ∀ i, 0 ≤ i → i < n → H' 74 i = prm n c i) := by
  have hf := fac_r (n := n)
  refine jOk.rng (fun hR0 => ?_)
  refine jOk.ofe rfl (Nat.le_of_ble_eq_true rfl) (en_aii_6 (E := E)) ?_
  -- the second walk
  have w2 : ∀ d : Nat, (d : Int) ≤ n → ∀ Hi x3 x5, (∀ k, k ≠ 74 → Hi k = H k) → (∀ i, 0 ≤ i → i < n → Hi 74 i = shN n (dig n c) (n - d).toNat i) → jWP E mX5_unfolds (jQv fun H' => (∀ k, k ≠ 74 → H' k = H k) ∧ ∀ i, 0 ≤ i → i < n → H' 74 i = prm n c i) 43 [some (jRF E 56), some (.int (jI n)), some (.int (jI c)), some (.int (jI x3)), some (.int (jI ((d : Int) - 1))), x5] [] Hi := by
    intro d
    induction d with
    | zero =>
      intro hd Hi x3 x5 g1 g2
      refine j_iload 45 rfl rfl dX5_unfolds_43 ?_
      refine j_if_lt 104 48 (by decide) rfl dX5_unfolds_45 (by intro hR; first | omega | exact hR _ _ | exact jb_r _ | exact hR0 _ _ | assumption) (fun h1 => ?_) (fun h1 => ?_)
      · refine j_vretv dX5_unfolds_104 rfl ?_
        refine ⟨g1, fun i i0 i1 => ?_⟩
        rw [g2 i i0 i1, show (n - ((0 : Nat) : Int)).toNat = n.toNat by omega]
        exact un_ok hn hc i0 i1
      · exfalso; omega
    | succ d ih =>
      intro hd Hi x3 x5 g1 g2
      rw [show ((d + 1 : Nat) : Int) - 1 = (d : Int) by omega]
      obtain ⟨cc, hcc⟩ : ∃ cc : Nat, cc = (n - ((d + 1 : Nat) : Int)).toNat := ⟨_, rfl⟩
      rw [← hcc] at g2
      have ecc : (n - (d : Int)).toNat = cc + 1 := by omega
      have ek : n - 1 - (cc : Int) = (d : Int) := by omega
      have hcb : (cc : Int) ≤ 6 := by omega
      have eS : shN n (dig n c) (cc + 1) = shq n (d : Int) (shN n (dig n c) cc) := by rw [shN, ek]
      have inner := jUp ((d : Int) + 1) n (fun j => ∀ Hi, (∀ k, k ≠ 74 → Hi k = H k) → (∀ i, 0 ≤ i → i < n → Hi 74 i = if i < j then shN n (dig n c) (cc + 1) i else shN n (dig n c) cc i) → jWP E mX5_unfolds (jQv fun H' => (∀ k, k ≠ 74 → H' k = H k) ∧ ∀ i, 0 ≤ i → i < n → H' 74 i = prm n c i) 54 [some (jRF E 56), some (.int (jI n)), some (.int (jI c)), some (.int (jI x3)), some (.int (jI (d : Int))), some (.int (jI j))] [] Hi) ?_ ?_ ((d : Int) + 1) (by omega) (by omega)
      · refine j_iload 45 rfl rfl dX5_unfolds_43 ?_
        refine j_if_lt 104 48 (by decide) rfl dX5_unfolds_45 (by intro hR; first | omega | exact hR _ _ | exact jb_r _ | exact hR0 _ _ | assumption) (fun h1 => ?_) (fun h1 => ?_)
        · exfalso; omega
        · refine j_iload 50 rfl rfl dX5_unfolds_48 ?_
          refine j_iconst 51 rfl dX5_unfolds_50 ?_
          refine j_iadd 52 rfl dX5_unfolds_51 ?_
          refine j_istore 54 rfl st_6_5 (by decide) rfl dX5_unfolds_52 ?_
          refine inner Hi g1 (fun i i0 i1 => ?_)
          rw [g2 i i0 i1]
          by_cases e : i < (d : Int) + 1
          · rw [if_pos e, eS]
            unfold shq
            rw [if_neg (by omega)]
          · rw [if_neg e]
      · intro Hi q1 q2
        refine j_iload 56 rfl rfl dX5_unfolds_54 ?_
        refine j_iload_n 57 rfl rfl dX5_unfolds_56 ?_
        refine j_icmp_ge 98 60 (by decide) rfl dX5_unfolds_57 (by intro hR; first | omega | exact hR _ _ | exact jb_r _ | exact hR0 _ _ | assumption) (by intro hR; first | omega | exact hR _ _ | exact jb_r _ | exact hR0 _ _ | assumption) (fun h1 => ?_) (fun h1 => ?_)
        · refine j_iinc 101 rfl rfl st_6_4 (by decide) rfl dX5_unfolds_98 ?_
          refine j_goto 43 (by decide) dX5_unfolds_101 ?_
          rw [show (d : Int) + -1 = (d : Int) - 1 by omega]
          refine ih (by omega) Hi x3 _ q1 (fun i i0 i1 => ?_)
          rw [q2 i i0 i1, if_pos i1, ecc]
        · exfalso; omega
      · intro j j0 j1 ih2 Hi q1 q2
        have r1 := shN_r hn c cc j (by omega) j1
        have r2 := shN_r hn c cc (d : Int) (by omega) (by omega)
        have ej := q2 j (by omega) j1
        have ed := q2 (d : Int) (by omega) (by omega)
        rw [if_neg (by omega)] at ej
        rw [if_pos (by omega), eS] at ed
        have ed2 : shq n (d : Int) (shN n (dig n c) cc) (d : Int) = shN n (dig n c) cc (d : Int) := by unfold shq; rw [if_neg (by omega)]
        rw [ed2] at ed
        have ev : shN n (dig n c) (cc + 1) j = if shN n (dig n c) cc (d : Int) ≤ shN n (dig n c) cc j then shN n (dig n c) cc j + 1 else shN n (dig n c) cc j := by
          rw [eS]; unfold shq; rw [if_pos ⟨by omega, j1⟩]
        have put : ∀ x, (shN n (dig n c) cc j + x = shN n (dig n c) (cc + 1) j) → (0 ≤ x ∧ x ≤ 1) → jWP E mX5_unfolds (jQv fun H' => (∀ k, k ≠ 74 → H' k = H k) ∧ ∀ i, 0 ≤ i → i < n → H' 74 i = prm n c i) 90 [some (jRF E 56), some (.int (jI n)), some (.int (jI c)), some (.int (jI x3)), some (.int (jI (d : Int))), some (.int (jI j))] [.int (jI x), .int (jI (shN n (dig n c) cc j)), .int (jI j), jRF E 74] Hi := by
          intro x hx hxr
          refine j_iadd 91 rfl dX5_unfolds_90 ?_
          refine j_iast 92 rfl dX5_unfolds_91 (by decide) rfl (by decide) rfl (by omega) (by intro hR; first | omega | exact hR _ _ | exact jb_r _ | exact hR0 _ _ | assumption) ?_
          refine j_iinc 95 rfl rfl st_6_5 (by decide) rfl dX5_unfolds_92 ?_
          refine j_goto 54 (by decide) dX5_unfolds_95 ?_
          refine ih2 _ (fun k a => by rw [jU_o a]; exact q1 k a) (fun i i0 i1 => ?_)
          by_cases e : i = j
          · subst e; rw [jU_s, if_pos (by omega)]; exact hx
          · rw [jU_i e, q2 i i0 i1]
            by_cases e2 : i < j
            · rw [if_pos e2, if_pos (by omega)]
            · rw [if_neg e2, if_neg (by omega)]
        refine j_iload 56 rfl rfl dX5_unfolds_54 ?_
        refine j_iload_n 57 rfl rfl dX5_unfolds_56 ?_
        refine j_icmp_ge 98 60 (by decide) rfl dX5_unfolds_57 (by intro hR; first | omega | exact hR _ _ | exact jb_r _ | exact hR0 _ _ | assumption) (by intro hR; first | omega | exact hR _ _ | exact jb_r _ | exact hR0 _ _ | assumption) (fun h1 => ?_) (fun h1 => ?_)
        · exfalso; omega
        · refine j_aload_n 61 rfl rfl dX5_unfolds_60 ?_
          refine j_getr 64 rfl 24 fl_X5_61 dX5_unfolds_61 (by decide) ( rfl) ( rfl) ?_
          refine j_iload 66 rfl rfl dX5_unfolds_64 ?_
          refine j_dup2 67 rfl rfl rfl dX5_unfolds_66 ?_
          refine j_iald 68 rfl dX5_unfolds_67 (by decide) rfl (by decide) rfl (by omega) ?_
          rw [ej]
          refine j_aload_n 69 rfl rfl dX5_unfolds_68 ?_
          refine j_getr 72 rfl 24 fl_X5_61 dX5_unfolds_69 (by decide) ( rfl) ( rfl) ?_
          refine j_iload 74 rfl rfl dX5_unfolds_72 ?_
          refine j_iald 75 rfl dX5_unfolds_74 (by decide) rfl (by decide) rfl (by omega) ?_
          rw [ej]
          refine j_aload_n 76 rfl rfl dX5_unfolds_75 ?_
          refine j_getr 79 rfl 24 fl_X5_61 dX5_unfolds_76 (by decide) ( rfl) ( rfl) ?_
          refine j_iload 81 rfl rfl dX5_unfolds_79 ?_
          refine j_iald 82 rfl dX5_unfolds_81 (by decide) rfl (by decide) rfl (by omega) ?_
          rw [ed]
          refine j_icmp_lt 89 85 (by decide) rfl dX5_unfolds_82 (by intro hR; first | omega | exact hR _ _ | exact jb_r _ | exact hR0 _ _ | assumption) (by intro hR; first | omega | exact hR _ _ | exact jb_r _ | exact hR0 _ _ | assumption) (fun h2 => ?_) (fun h2 => ?_)
          · refine j_iconst 90 rfl dX5_unfolds_89 ?_
            exact put 0 (by rw [ev, if_neg (by omega)]; omega) (by omega)
          · refine j_iconst 86 rfl dX5_unfolds_85 ?_
            refine j_goto 90 (by decide) dX5_unfolds_86 ?_
            exact put 1 (by rw [ev, if_pos (by omega)]) (by omega)
  have w1 : ∀ d : Nat, (d : Int) ≤ n → ∀ Hi x5, (∀ k, k ≠ 74 → Hi k = H k) → (∀ i, (d : Int) ≤ i → i < n → Hi 74 i = dig n c i) → jWP E mX5_unfolds (jQv fun H' => (∀ k, k ≠ 74 → H' k = H k) ∧ ∀ i, 0 ≤ i → i < n → H' 74 i = prm n c i) 7 [some (jRF E 56), some (.int (jI n)), some (.int (jI c)), some (.int (jI (c / fac0 (n - d)))), some (.int (jI ((d : Int) - 1))), x5] [] Hi := by
    intro d
    induction d with
    | zero =>
      intro hd Hi x5 g1 g2
      refine j_iload 9 rfl rfl dX5_unfolds_7 ?_
      refine j_if_lt 38 12 (by decide) rfl dX5_unfolds_9 (by intro hR; first | omega | exact hR _ _ | exact jb_r _ | exact hR0 _ _ | assumption) (fun h1 => ?_) (fun h1 => ?_)
      · refine j_iload_n 39 rfl rfl dX5_unfolds_38 ?_
        refine j_iconst 40 rfl dX5_unfolds_39 ?_
        refine j_isub 41 rfl dX5_unfolds_40 ?_
        refine j_istore 43 rfl st_6_4 (by decide) rfl dX5_unfolds_41 ?_
        have := w2 n.toNat (by omega) Hi (c / fac0 (n - ((0 : Nat) : Int))) x5
        rw [show ((n.toNat : Nat) : Int) - 1 = n - 1 by omega] at this
        exact this g1 (fun i i0 i1 => by rw [g2 i (by omega) i1, show (n - ((n.toNat : Nat) : Int)).toNat = 0 by omega]; rfl)
      · exfalso; omega
    | succ d ih =>
      intro hd Hi x5 g1 g2
      rw [show ((d + 1 : Nat) : Int) - 1 = (d : Int) by omega]
      have hm : 0 ≤ n - ((d + 1 : Nat) : Int) ∧ n - ((d + 1 : Nat) : Int) ≤ 5 := by omega
      have hs := fac0_s hm
      have hq : 0 ≤ c / fac0 (n - ((d + 1 : Nat) : Int)) := Int.ediv_nonneg hc.1 (by omega)
      have hq2 : c / fac0 (n - ((d + 1 : Nat) : Int)) ≤ c := Int.ediv_le_self _ hc.1
      have r1 := Int.emod_nonneg (c / fac0 (n - ((d + 1 : Nat) : Int))) (show n - (d : Int) ≠ 0 by omega)
      have r2 := Int.emod_lt_of_pos (c / fac0 (n - ((d + 1 : Nat) : Int))) (show 0 < n - (d : Int) by omega)
      refine j_iload 9 rfl rfl dX5_unfolds_7 ?_
      refine j_if_lt 38 12 (by decide) rfl dX5_unfolds_9 (by intro hR; first | omega | exact hR _ _ | exact jb_r _ | exact hR0 _ _ | assumption) (fun h1 => ?_) (fun h1 => ?_)
      · exfalso; omega
      · refine j_aload_n 13 rfl rfl dX5_unfolds_12 ?_
        refine j_getr 16 rfl 24 fl_X5_61 dX5_unfolds_13 (by decide) ( rfl) ( rfl) ?_
        refine j_iload 18 rfl rfl dX5_unfolds_16 ?_
        refine j_iload_n 19 rfl rfl dX5_unfolds_18 ?_
        refine j_iload_n 20 rfl rfl dX5_unfolds_19 ?_
        refine j_iload 22 rfl rfl dX5_unfolds_20 ?_
        refine j_isub 23 rfl dX5_unfolds_22 ?_
        refine k_irem 24 rfl (by omega) (by intro hR; first | omega | exact hR _ _ | exact jb_r _ | exact hR0 _ _ | assumption) dX5_unfolds_23 ?_
        rw [iRem_n (by omega) (by omega)]
        refine j_iast 25 rfl dX5_unfolds_24 (by decide) rfl (by decide) rfl (by omega) (by intro hR; first | omega | exact hR _ _ | exact jb_r _ | exact hR0 _ _ | assumption) ?_
        refine j_iload_n 26 rfl rfl dX5_unfolds_25 ?_
        refine j_iload_n 27 rfl rfl dX5_unfolds_26 ?_
        refine j_iload 29 rfl rfl dX5_unfolds_27 ?_
        refine j_isub 30 rfl dX5_unfolds_29 ?_
        refine k_idiv 31 rfl (by omega) (by intro hR; first | omega | exact hR _ _ | exact jb_r _ | exact hR0 _ _ | assumption) dX5_unfolds_30 ?_
        rw [iDiv_n (by omega) (by omega), ediv_ediv' hs.2, show n - (d : Int) = n - ((d + 1 : Nat) : Int) + 1 by omega, ← hs.1]
        refine j_istore_n 32 rfl st_6_3 (by decide) rfl dX5_unfolds_31 ?_
        refine j_iinc 35 rfl rfl st_6_4 (by decide) rfl dX5_unfolds_32 ?_
        refine j_goto 7 (by decide) dX5_unfolds_35 ?_
        rw [show n - ((d + 1 : Nat) : Int) + 1 = n - (d : Int) by omega]
        refine ih (by omega) _ x5 (fun k a => by rw [jU_o a]; exact g1 k a) (fun i i0 i1 => ?_)
        by_cases e : i = d
        · subst e
          rw [jU_s]
          unfold dig
          rw [show n - 1 - (d : Int) = n - ((d + 1 : Nat) : Int) by omega]
        · rw [jU_i e]
          exact g2 i (by omega) i1
  refine j_iload_n 1 rfl rfl dX5_unfolds_0 ?_
  refine j_istore_n 2 rfl st_6_3 (by decide) rfl dX5_unfolds_1 ?_
  refine j_iload_n 3 rfl rfl dX5_unfolds_2 ?_
  refine j_iconst 4 rfl dX5_unfolds_3 ?_
  refine j_isub 5 rfl dX5_unfolds_4 ?_
  refine j_istore 7 rfl st_6_4 (by decide) rfl dX5_unfolds_5 ?_
  have := w1 n.toNat (by omega) H none (fun _ _ => rfl) (fun i i0 i1 => by omega)
  rw [show n - ((n.toNat : Nat) : Int) = 0 by omega, show ((n.toNat : Nat) : Int) - 1 = n - 1 by omega, show fac0 0 = 1 from rfl, Int.ediv_one] at this
  exact this
-- X5_findShelf
set_option maxHeartbeats 1000000 in
theorem m_findShelf {n L : Int} (hn6 : 1 ≤ n ∧ n ≤ 6) (hL : L = 0 ∨ L = 1) (h : FD H) : jOk E mX5_findShelf [jRF E 56, .int (jI n), .int (jI L)] H (jQi fun r H' => MZ H H' ∧ FD H' ∧ ∃ kb, isArg (gS (cfg H) n L) (fac n) kb ∧ r = vS (cfg H) n kb ∧ ∀ p, 0 ≤ p → p < n → H' 75 p = prm n kb p) := by
  have hn := h.n
  have ok := h.1.ok
  have hfac := fac_r (n := n)
  have hLr : -2147483648 ≤ L ∧ L ≤ 2147483647 := by omega
  refine jOk.rng (fun hR0 => ?_)
  refine jOk.ofe rfl (Nat.le_of_ble_eq_true rfl) (en_aii_8 (E := E)) ?_
  have loop2 := jUp 0 (fac n) (fun i => ∀ Hi fd x6 x7, jCk [none, none, none, none, none, none, x6, x7] 7 = true → wk H Hi → (∃ g, holdM Hi (kPlc (cfg H) g)) → (∀ b, n ≤ b → b < 9 → Hi 69 b = b) → fdP (cfg H) n L i fd (fun p => if p < n then Hi 75 p else p) → jWP E mX5_findShelf (jQi fun r H' => MZ H H' ∧ FD H' ∧ ∃ kb, isArg (gS (cfg H) n L) (fac n) kb ∧ r = vS (cfg H) n kb ∧ ∀ p, 0 ≤ p → p < n → H' 75 p = prm n kb p) 53 [some (jRF E 56), some (.int (jI n)), some (.int (jI L)), some (.int (jI (fac n))), some (.int (jI fd)), some (.int (jI i)), x6, x7] [] Hi) ?_ ?_ 0 (by omega) (by omega)
  · have l1 := jUp 0 9 (fun b => jWP E mX5_findShelf (jQi fun r H' => MZ H H' ∧ FD H' ∧ ∃ kb, isArg (gS (cfg H) n L) (fac n) kb ∧ r = vS (cfg H) n kb ∧ ∀ p, 0 ≤ p → p < n → H' 75 p = prm n kb p) 25 [some (jRF E 56), some (.int (jI n)), some (.int (jI L)), some (.int (jI (fac n))), some (.int (jI b)), none, none, none] [] (jMp H 69 b (fun q => q))) ?_ ?_ 0 (by omega) (by omega)
    · rw [jMp_0] at l1
      have l0 := jUp 2 (n + 1) (fun k => jWP E mX5_findShelf (jQi fun r H' => MZ H H' ∧ FD H' ∧ ∃ kb, isArg (gS (cfg H) n L) (fac n) kb ∧ r = vS (cfg H) n kb ∧ ∀ p, 0 ≤ p → p < n → H' 75 p = prm n kb p) 5 [some (jRF E 56), some (.int (jI n)), some (.int (jI L)), some (.int (jI (fac (k - 1)))), some (.int (jI k)), none, none, none] [] H) ?_ ?_ 2 (by omega) (by omega)
      · refine j_iconst 1 rfl dX5_findShelf_0 ?_
        refine j_istore_n 2 rfl st_8_3 (by decide) rfl dX5_findShelf_1 ?_
        refine j_iconst 3 rfl dX5_findShelf_2 ?_
        refine j_istore 5 rfl st_8_4 (by decide) rfl dX5_findShelf_3 ?_
        exact l0
      · refine j_iload 7 rfl rfl dX5_findShelf_5 ?_
        refine j_iload_n 8 rfl rfl dX5_findShelf_7 ?_
        refine j_icmp_gt 22 11 (by decide) rfl dX5_findShelf_8 (by intro hR; first | omega | exact hR _ _ | exact jb_r _ | exact hR0 _ _ | assumption) (by intro hR; first | omega | exact hR _ _ | exact jb_r _ | exact hR0 _ _ | assumption) (fun h1 => ?_) (fun h1 => ?_)
        · rw [show n + 1 - 1 = n by omega]
          refine j_iconst 23 rfl dX5_findShelf_22 ?_
          refine j_istore 25 rfl st_8_4 (by decide) rfl dX5_findShelf_23 ?_
          exact l1
        · exfalso; omega
      · intro k k0 k1 ih
        have fs := fac_s (k := k) (by omega)
        rw [show k + 1 - 1 = k by omega, fs] at ih
        refine j_iload 7 rfl rfl dX5_findShelf_5 ?_
        refine j_iload_n 8 rfl rfl dX5_findShelf_7 ?_
        refine j_icmp_gt 22 11 (by decide) rfl dX5_findShelf_8 (by intro hR; first | omega | exact hR _ _ | exact jb_r _ | exact hR0 _ _ | assumption) (by intro hR; first | omega | exact hR _ _ | exact jb_r _ | exact hR0 _ _ | assumption) (fun h1 => ?_) (fun h1 => ?_)
        · exfalso; omega
        · refine j_iload_n 12 rfl rfl dX5_findShelf_11 ?_
          refine j_iload 14 rfl rfl dX5_findShelf_12 ?_
          refine j_imul 15 rfl dX5_findShelf_14 ?_
          refine j_istore_n 16 rfl st_8_3 (by decide) rfl dX5_findShelf_15 ?_
          refine j_iinc 19 rfl rfl st_8_4 (by decide) rfl dX5_findShelf_16 ?_
          refine j_goto 5 (by decide) dX5_findShelf_19 ?_
          exact ih
    · refine j_iload 27 rfl rfl dX5_findShelf_25 ?_
      refine j_bipush 29 rfl rfl dX5_findShelf_27 ?_
      refine j_icmp_ge 47 32 (by decide) rfl dX5_findShelf_29 (by intro hR; first | omega | exact hR _ _ | exact jb_r _ | exact hR0 _ _ | assumption) (by intro hR; first | omega | exact hR _ _ | exact jb_r _ | exact hR0 _ _ | assumption) (fun h1 => ?_) (fun h1 => ?_)
      · refine j_iconst 48 rfl dX5_findShelf_47 ?_
        refine j_istore 50 rfl st_8_4 (by decide) rfl dX5_findShelf_48 ?_
        refine j_iconst 51 rfl dX5_findShelf_50 ?_
        refine j_istore 53 rfl st_8_5 (by decide) rfl dX5_findShelf_51 ?_
        have wj : wk H (jMp H 69 9 (fun q => q)) := ⟨⟨fun q a => jMp_o (by omega), fun j _ => jMp_k (by omega)⟩, jMp_o (by decide), jMp_k (by decide)⟩
        refine loop2 _ _ _ _ rfl wj ⟨fun q => q, ?_⟩ (fun b b0 b1 => jMp_i (by omega) b1) (Or.inl ⟨rfl, rfl⟩)
        have h0 : holdM H (kPlc (cfg H) (cfg H 4)) := by rw [kPlc_self]; exact h.2.1
        exact holdM_plc h0 ok.1.2 (fun k a _ => jMp_o a) (fun b b0 b1 => jMp_i b0 b1)
      · exfalso; omega
    · intro b b0 b1 ih
      rw [← jMp_s H 69 (fun q => q) b0] at ih
      refine j_iload 27 rfl rfl dX5_findShelf_25 ?_
      refine j_bipush 29 rfl rfl dX5_findShelf_27 ?_
      refine j_icmp_ge 47 32 (by decide) rfl dX5_findShelf_29 (by intro hR; first | omega | exact hR _ _ | exact jb_r _ | exact hR0 _ _ | assumption) (by intro hR; first | omega | exact hR _ _ | exact jb_r _ | exact hR0 _ _ | assumption) (fun h1 => ?_) (fun h1 => ?_)
      · exfalso; omega
      · refine j_aload_n 33 rfl rfl dX5_findShelf_32 ?_
        refine j_getr 36 rfl 18 fl_X5_46 dX5_findShelf_33 (by decide) ( rfl) ( rfl) ?_
        refine j_iload 38 rfl rfl dX5_findShelf_36 ?_
        refine j_iload 40 rfl rfl dX5_findShelf_38 ?_
        refine j_iast 41 rfl dX5_findShelf_40 (by decide) rfl (by decide) rfl (by omega) (by intro hR; first | omega | exact hR _ _ | exact jb_r _ | exact hR0 _ _ | assumption) ?_
        refine j_iinc 44 rfl rfl st_8_4 (by decide) rfl dX5_findShelf_41 ?_
        refine j_goto 25 (by decide) dX5_findShelf_44 ?_
        exact ih
  · intro Hi fd x6 x7 _ w hg h69 hfd
    have hfr := fdP_r hfd
    refine j_iload 55 rfl rfl dX5_findShelf_53 ?_
    refine j_iload_n 56 rfl rfl dX5_findShelf_55 ?_
    refine j_icmp_ge 175 59 (by decide) rfl dX5_findShelf_56 (by intro hR; first | omega | exact hR _ _ | exact jb_r _ | exact hR0 _ _ | assumption) (by intro hR; first | omega | exact hR _ _ | exact jb_r _ | exact hR0 _ _ | assumption) (fun h1 => ?_) (fun h1 => ?_)
    · refine j_aload_n 176 rfl rfl dX5_findShelf_175 ?_
      refine jV0v 179 rfl dX5_findShelf_176 lk_X5_183 rfl rfl (by decide) ( rfl) ( rfl) (m_find5 (w.1.ri h.1)) (fun H2 ⟨mq2, fd2, e75⟩ => ?_)
      refine j_iload 181 rfl rfl dX5_findShelf_179 ?_
      refine j_ireti dX5_findShelf_181 rfl ?_
      obtain ⟨kb, a1, a2, a3⟩ := fdP_s hfd (by omega)
      refine ⟨w.1.trans mq2, fd2, kb, a1, a2, fun p p0 p1 => ?_⟩
      have := a3 p p0 (by omega)
      rw [if_pos p1] at this
      rw [e75]
      exact this
    · exfalso; omega
  · intro i i0 i1 ih Hi fd x6 x7 k6 w hg h69 hfd
    have hfr := fdP_r hfd
    have hp := prm_ok hn6 (k := i) ⟨i0, i1⟩
    have hv := vS_r (cfg H) n i
    have oks := cOk_shf ok hn6 (k := i) ⟨i0, i1⟩
    obtain ⟨g, hg⟩ := hg
    have tail : ∀ H3 fd v x7, wk H H3 → holdM H3 (kShf (cfg H) n i) → (∀ b, n ≤ b → b < 9 → H3 69 b = b) → fdP (cfg H) n L (i + 1) fd (fun p => if p < n then H3 75 p else p) → jWP E mX5_findShelf (jQi fun r H' => MZ H H' ∧ FD H' ∧ ∃ kb, isArg (gS (cfg H) n L) (fac n) kb ∧ r = vS (cfg H) n kb ∧ ∀ p, 0 ≤ p → p < n → H' 75 p = prm n kb p) 169 [some (jRF E 56), some (.int (jI n)), some (.int (jI L)), some (.int (jI (fac n))), some (.int (jI fd)), some (.int (jI i)), some (.int (jI v)), x7] [] H3 := by
      intro H3 fd v x7 q1 q2 q3 q4
      refine j_iinc 172 rfl rfl st_8_5 (by decide) rfl dX5_findShelf_169 ?_
      refine j_goto 53 (by decide) dX5_findShelf_172 ?_
      exact ih H3 fd _ _ rfl q1 ⟨_, q2⟩ q3 q4
    refine j_iload 55 rfl rfl dX5_findShelf_53 ?_
    refine j_iload_n 56 rfl rfl dX5_findShelf_55 ?_
    refine j_icmp_ge 175 59 (by decide) rfl dX5_findShelf_56 (by intro hR; first | omega | exact hR _ _ | exact jb_r _ | exact hR0 _ _ | assumption) (by intro hR; first | omega | exact hR _ _ | exact jb_r _ | exact hR0 _ _ | assumption) (fun h1 => ?_) (fun h1 => ?_)
    · exfalso; omega
    · refine j_aload_n 60 rfl rfl dX5_findShelf_59 ?_
      refine j_iload_n 61 rfl rfl dX5_findShelf_60 ?_
      refine j_iload 63 rfl rfl dX5_findShelf_61 ?_
      refine jV2v 66 rfl dX5_findShelf_63 lk_X5_216 rfl rfl (by decide) ( rfl) ( rfl) (m_unfolds hn6 ⟨i0, i1⟩) (fun H1 ⟨u1, u2⟩ => ?_)
      have w1 : wk H H1 := w.trans ⟨⟨fun q a => u1 q (by omega), fun j _ => by rw [u1 56 (by decide)]⟩, u1 62 (by decide), by rw [u1 56 (by decide)]⟩
      have l3 := jUp 0 n (fun p => jWP E mX5_findShelf (jQi fun r H' => MZ H H' ∧ FD H' ∧ ∃ kb, isArg (gS (cfg H) n L) (fac n) kb ∧ r = vS (cfg H) n kb ∧ ∀ p, 0 ≤ p → p < n → H' 75 p = prm n kb p) 69 [some (jRF E 56), some (.int (jI n)), some (.int (jI L)), some (.int (jI (fac n))), some (.int (jI fd)), some (.int (jI i)), some (.int (jI p)), x7] [] (pr H1 69 74 p)) ?_ ?_ 0 (by omega) (by omega)
      · rw [pr_0] at l3
        refine j_iconst 67 rfl dX5_findShelf_66 ?_
        refine j_istore 69 rfl st_8_6 (by decide) rfl dX5_findShelf_67 ?_
        exact l3
      · refine j_iload 71 rfl rfl dX5_findShelf_69 ?_
        refine j_iload_n 72 rfl rfl dX5_findShelf_71 ?_
        refine j_icmp_ge 95 75 (by decide) rfl dX5_findShelf_72 (by intro hR; first | omega | exact hR _ _ | exact jb_r _ | exact hR0 _ _ | assumption) (by intro hR; first | omega | exact hR _ _ | exact jb_r _ | exact hR0 _ _ | assumption) (fun h2 => ?_) (fun h2 => ?_)
        · have e74 : ∀ p, 0 ≤ p → p < n → H1 74 p = prm n i p := u2
          have hinj : ∀ p q, 0 ≤ p → p < n → 0 ≤ q → q < n → H1 74 p = H1 74 q → p = q := fun p q p0 p1 q0 q1 e => by
            rw [e74 p p0 p1, e74 q q0 q1] at e
            have e1 := (hp.2.2 p p0 (by omega)).2.1
            rw [e, (hp.2.2 q q0 (by omega)).2.1] at e1
            exact e1.symm
          have hhi : ∀ b, n ≤ b → b < 9 → pr H1 69 74 n 69 b = b := fun b b0 b1 => by
            unfold pr
            rw [pr_no H1 n.toNat (fun p p0 p1 => by rw [e74 p p0 (by omega)]; have := prm_lt hn6 ⟨i0, i1⟩ p0 (show p < n by omega); omega), u1 69 (by decide)]
            exact h69 b b0 b1
          have h69' : ∀ b, 0 ≤ b → b < 9 → pr H1 69 74 n 69 b = rinv (prm n i) b := fun b b0 b1 => by
            obtain ⟨_, _, c1, c2, c3⟩ := hp.2.2 b b0 b1
            by_cases e : n ≤ b
            · rw [hhi b e b1]
              have := (hp.2.2 b b0 b1).2.1
              rw [prm_hi e] at this
              exact this.symm
            · have hq : rinv (prm n i) b < n := by
                apply Classical.byContradiction
                intro z
                rw [prm_hi (by omega)] at c1
                omega
              have := pr_pn H1 (k := 69) (rk := 74) hinj n.toNat (by omega) (rinv (prm n i) b) c2 (by omega)
              rw [e74 _ c2 hq, c1] at this
              exact this
          have wp : wk H (pr H1 69 74 n) := w1.trans ⟨⟨fun q a => pr_o _ (by omega) _, fun j _ => by rw [pr_o _ (by omega)]⟩, pr_o _ (by decide) _, by rw [pr_o _ (by decide)]⟩
          have hs : holdM (pr H1 69 74 n) (kShf (cfg H) n i) := holdM_plc hg ok.1.2 (fun k a b => by rw [pr_o _ a]; exact u1 k (by omega)) h69'
          refine j_aload_n 96 rfl rfl dX5_findShelf_95 ?_
          refine j_bipush 98 rfl rfl dX5_findShelf_96 ?_
          refine jV1v 101 rfl dX5_findShelf_98 lk_X5_179 rfl rfl (by decide) ( rfl) ( rfl) (m_run (by omega) wp hs oks) (fun H3 ⟨w3, h3, a3, f3⟩ => ?_)
          have t69 : ∀ b, n ≤ b → b < 9 → H3 69 b = b := fun b b0 b1 => by rw [f3 69 (by decide) (by decide) (by decide) (by decide) (by decide)]; exact hhi b b0 b1
          have t74 : ∀ p, 0 ≤ p → p < n → H3 74 p = prm n i p := fun p p0 p1 => by rw [f3 74 (by decide) (by decide) (by decide) (by decide) (by decide), pr_o _ (by decide)]; exact e74 p p0 p1
          have t75 : H3 75 = Hi 75 := by rw [f3 75 (by decide) (by decide) (by decide) (by decide) (by decide), pr_o _ (by decide)]; exact u1 75 (by decide)
          refine j_aload_n 102 rfl rfl dX5_findShelf_101 ?_
          refine j_bipush 104 rfl rfl dX5_findShelf_102 ?_
          refine jV1i 107 rfl dX5_findShelf_104 lk_X5_220 rfl rfl (by decide) ( rfl) ( rfl) (m_opened (K := kShf (cfg H) n i) (by omega) oks.1 (fun t t0 t1 => (a3 t t0 t1).1)) (fun r6 H6 ⟨eh_, hr6⟩ => ?_)
          obtain rfl := eh_.symm
          have hr6 : r6 = vS (cfg H) n i := hr6
          subst hr6
          refine j_istore 109 rfl st_8_6 (by decide) rfl dX5_findShelf_107 ?_
          refine j_iload 111 rfl rfl dX5_findShelf_109 ?_
          refine j_iconst 112 rfl dX5_findShelf_111 ?_
          have upd : (i = 0 ∨ ∃ kb, isArg (gS (cfg H) n L) i kb ∧ gS (cfg H) n L i < gS (cfg H) n L kb) → jWP E mX5_findShelf (jQi fun r H' => MZ H H' ∧ FD H' ∧ ∃ kb, isArg (gS (cfg H) n L) (fac n) kb ∧ r = vS (cfg H) n kb ∧ ∀ p, 0 ≤ p → p < n → H' 75 p = prm n kb p) 136 [some (jRF E 56), some (.int (jI n)), some (.int (jI L)), some (.int (jI (fac n))), some (.int (jI fd)), some (.int (jI i)), some (.int (jI (vS (cfg H) n i))), x7] [] H3 := by
            intro hu
            have l4 := jUp 0 n (fun p => jWP E mX5_findShelf (jQi fun r H' => MZ H H' ∧ FD H' ∧ ∃ kb, isArg (gS (cfg H) n L) (fac n) kb ∧ r = vS (cfg H) n kb ∧ ∀ p, 0 ≤ p → p < n → H' 75 p = prm n kb p) 143 [some (jRF E 56), some (.int (jI n)), some (.int (jI L)), some (.int (jI (fac n))), some (.int (jI (vS (cfg H) n i))), some (.int (jI i)), some (.int (jI (vS (cfg H) n i))), some (.int (jI p))] [] (jMp H3 75 p (fun p => H3 74 p))) ?_ ?_ 0 (by omega) (by omega)
            · rw [jMp_0] at l4
              refine j_iload 138 rfl rfl dX5_findShelf_136 ?_
              refine j_istore 140 rfl st_8_4 (by decide) rfl dX5_findShelf_138 ?_
              refine j_iconst 141 rfl dX5_findShelf_140 ?_
              refine j_istore 143 rfl st_8_7 (by decide) rfl dX5_findShelf_141 ?_
              exact l4
            · refine j_iload 145 rfl rfl dX5_findShelf_143 ?_
              refine j_iload_n 146 rfl rfl dX5_findShelf_145 ?_
              refine j_icmp_ge 169 149 (by decide) rfl dX5_findShelf_146 (by intro hR; first | omega | exact hR _ _ | exact jb_r _ | exact hR0 _ _ | assumption) (by intro hR; first | omega | exact hR _ _ | exact jb_r _ | exact hR0 _ _ | assumption) (fun h4 => ?_) (fun h4 => ?_)
              · refine tail _ _ _ _ (w3.trans ⟨⟨fun q a => jMp_o (by omega), fun j _ => jMp_k (by omega)⟩, jMp_o (by decide), jMp_k (by decide)⟩) (h3.cong (fun k a => jMp_o (by omega))) (fun b b0 b1 => by rw [jMp_k (by decide)]; exact t69 b b0 b1) (Or.inr ⟨by omega, i, ?_, rfl, fun p p0 p1 => ?_⟩)
                · rcases hu with e | ⟨kb, a1, a2⟩
                  · rw [e]; exact isArg_1 _
                  · exact isArg_new i0 a1 a2
                · show (if p < n then jMp H3 75 n (fun p => H3 74 p) 75 p else p) = prm n i p
                  by_cases e : p < n
                  · rw [if_pos e, jMp_i p0 e]; exact t74 p p0 e
                  · rw [if_neg e, prm_hi (by omega)]
              · exfalso; omega
            · intro p p0 p1 ih4
              rw [← jMp_s H3 75 (fun p => H3 74 p) p0] at ih4
              have pl := prm_lt hn6 (k := i) ⟨i0, i1⟩ p0 p1
              have e74p := t74 p p0 p1
              refine j_iload 145 rfl rfl dX5_findShelf_143 ?_
              refine j_iload_n 146 rfl rfl dX5_findShelf_145 ?_
              refine j_icmp_ge 169 149 (by decide) rfl dX5_findShelf_146 (by intro hR; first | omega | exact hR _ _ | exact jb_r _ | exact hR0 _ _ | assumption) (by intro hR; first | omega | exact hR _ _ | exact jb_r _ | exact hR0 _ _ | assumption) (fun h4 => ?_) (fun h4 => ?_)
              · exfalso; omega
              · refine j_aload_n 150 rfl rfl dX5_findShelf_149 ?_
                refine j_getr 153 rfl 25 fl_X5_64 dX5_findShelf_150 (by decide) ( rfl) ( rfl) ?_
                refine j_iload 155 rfl rfl dX5_findShelf_153 ?_
                refine j_aload_n 156 rfl rfl dX5_findShelf_155 ?_
                refine j_getr 159 rfl 24 fl_X5_61 dX5_findShelf_156 (by decide) ( rfl) ( rfl) ?_
                refine j_iload 161 rfl rfl dX5_findShelf_159 ?_
                refine j_iald 162 rfl dX5_findShelf_161 (by decide) rfl (by decide) rfl (by omega) ?_
                rw [jMp_k (by decide)]
                refine j_iast 163 rfl dX5_findShelf_162 (by decide) rfl (by decide) rfl (by omega) (by intro _; omega) ?_
                refine j_iinc 166 rfl rfl st_8_7 (by decide) rfl dX5_findShelf_163 ?_
                refine j_goto 143 (by decide) dX5_findShelf_166 ?_
                exact ih4
          have noupd : (∃ kb, isArg (gS (cfg H) n L) i kb ∧ fd = vS (cfg H) n kb ∧ (∀ p, 0 ≤ p → p < 9 → (fun p => if p < n then Hi 75 p else p) p = prm n kb p) ∧ ¬ gS (cfg H) n L i < gS (cfg H) n L kb) → jWP E mX5_findShelf (jQi fun r H' => MZ H H' ∧ FD H' ∧ ∃ kb, isArg (gS (cfg H) n L) (fac n) kb ∧ r = vS (cfg H) n kb ∧ ∀ p, 0 ≤ p → p < n → H' 75 p = prm n kb p) 169 [some (jRF E 56), some (.int (jI n)), some (.int (jI L)), some (.int (jI (fac n))), some (.int (jI fd)), some (.int (jI i)), some (.int (jI (vS (cfg H) n i))), x7] [] H3 := by
            rintro ⟨kb, a1, a2, a3, a4⟩
            exact tail H3 fd _ _ w3 h3 t69 (Or.inr ⟨by omega, kb, isArg_old a1 a4, a2, by rw [t75]; exact a3⟩)
          refine j_icmp_eq 136 115 (by decide) rfl dX5_findShelf_112 (by intro hR; first | omega | exact hR _ _ | exact jb_r _ | exact hR0 _ _ | assumption) (by intro hR; first | omega | exact hR _ _ | exact jb_r _ | exact hR0 _ _ | assumption) (fun h4 => ?_) (fun h4 => ?_)
          · exact upd (Or.inl (hfr.2.2 h4))
          · have hi0 : 0 < i := by
              rcases hfd with ⟨_, b⟩ | ⟨b, _⟩
              · exact absurd b h4
              · exact b
            obtain ⟨kb, a1, a2, a3'⟩ := fdP_s hfd hi0
            have eg : ∀ q, gS (cfg H) n L q = if L = 1 then -vS (cfg H) n q else vS (cfg H) n q := fun _ => rfl
            refine j_iload_n 116 rfl rfl dX5_findShelf_115 ?_
            refine j_if_ne 129 119 (by decide) rfl dX5_findShelf_116 (by intro hR; first | omega | exact hR _ _ | exact jb_r _ | exact hR0 _ _ | assumption) (fun h5 => ?_) (fun h5 => ?_)
            · have e0 : ∀ q, gS (cfg H) n L q = -vS (cfg H) n q := fun q => by rw [eg, if_pos (by omega)]
              refine j_iload 131 rfl rfl dX5_findShelf_129 ?_
              refine j_iload 133 rfl rfl dX5_findShelf_131 ?_
              refine j_icmp_le 169 136 (by decide) rfl dX5_findShelf_133 (by intro hR; first | omega | exact hR _ _ | exact jb_r _ | exact hR0 _ _ | assumption) (by intro hR; first | omega | exact hR _ _ | exact jb_r _ | exact hR0 _ _ | assumption) (fun h6 => ?_) (fun h6 => ?_)
              · exact noupd ⟨kb, a1, a2, a3', by rw [e0, e0]; omega⟩
              · exact upd (Or.inr ⟨kb, a1, by rw [e0, e0]; omega⟩)
            · have e0 : ∀ q, gS (cfg H) n L q = vS (cfg H) n q := fun q => by rw [eg, if_neg (by omega)]
              refine j_iload 121 rfl rfl dX5_findShelf_119 ?_
              refine j_iload 123 rfl rfl dX5_findShelf_121 ?_
              refine j_icmp_ge 169 126 (by decide) rfl dX5_findShelf_123 (by intro hR; first | omega | exact hR _ _ | exact jb_r _ | exact hR0 _ _ | assumption) (by intro hR; first | omega | exact hR _ _ | exact jb_r _ | exact hR0 _ _ | assumption) (fun h6 => ?_) (fun h6 => ?_)
              · exact noupd ⟨kb, a1, a2, a3', by rw [e0, e0]; omega⟩
              · refine j_goto 136 (by decide) dX5_findShelf_126 ?_
                exact upd (Or.inr ⟨kb, a1, by rw [e0, e0]; omega⟩)
        · exfalso; omega
      · intro p p0 p1 ih3
        rw [pr_s _ _ _ p0] at ih3
        have e74 := u2 p p0 p1
        have pl := prm_lt hn6 (k := i) ⟨i0, i1⟩ p0 p1
        refine j_iload 71 rfl rfl dX5_findShelf_69 ?_
        refine j_iload_n 72 rfl rfl dX5_findShelf_71 ?_
        refine j_icmp_ge 95 75 (by decide) rfl dX5_findShelf_72 (by intro hR; first | omega | exact hR _ _ | exact jb_r _ | exact hR0 _ _ | assumption) (by intro hR; first | omega | exact hR _ _ | exact jb_r _ | exact hR0 _ _ | assumption) (fun h2 => ?_) (fun h2 => ?_)
        · exfalso; omega
        · refine j_aload_n 76 rfl rfl dX5_findShelf_75 ?_
          refine j_getr 79 rfl 18 fl_X5_46 dX5_findShelf_76 (by decide) ( rfl) ( rfl) ?_
          refine j_aload_n 80 rfl rfl dX5_findShelf_79 ?_
          refine j_getr 83 rfl 24 fl_X5_61 dX5_findShelf_80 (by decide) ( rfl) ( rfl) ?_
          refine j_iload 85 rfl rfl dX5_findShelf_83 ?_
          refine j_iald 86 rfl dX5_findShelf_85 (by decide) rfl (by decide) rfl (by omega) ?_
          rw [pr_o _ (by decide)]
          refine j_iload 88 rfl rfl dX5_findShelf_86 ?_
          refine j_iast 89 rfl dX5_findShelf_88 (by decide) rfl (by decide) rfl (by omega) (by intro _; omega) ?_
          refine j_iinc 92 rfl rfl st_8_6 (by decide) rfl dX5_findShelf_89 ?_
          refine j_goto 69 (by decide) dX5_findShelf_92 ?_
          exact ih3
-- X5_shelfOf
theorem m_shelfOf {n L i : Int} (hn6 : 1 ≤ n ∧ n ≤ 6) (hL : L = 0 ∨ L = 1) (hi : -1 ≤ i ∧ i < n) (h : FD H) : jOk E mX5_shelfOf [jRF E 56, .int (jI n), .int (jI L), .int (jI i)] H (jQi fun r H' => MZ H H' ∧ FD H' ∧ isShf (cfg H) n L i r) := by
  refine jOk.rng (fun hR0 => ?_)
  refine jOk.ofe rfl (Nat.le_of_ble_eq_true rfl) (en_aiii_5 (E := E)) ?_
  refine j_aload_n 1 rfl rfl dX5_shelfOf_0 ?_
  refine j_iload_n 2 rfl rfl dX5_shelfOf_1 ?_
  refine j_iload_n 3 rfl rfl dX5_shelfOf_2 ?_
  refine jV2i 6 rfl dX5_shelfOf_3 lk_X5_223 rfl rfl (by decide) ( rfl) ( rfl) (m_findShelf hn6 hL h) (fun r1 H1 ⟨mq, fd, kb, a1, a2, a3⟩ => ?_)
  refine j_istore 8 rfl st_5_4 (by decide) rfl dX5_shelfOf_6 ?_
  refine j_iload_n 9 rfl rfl dX5_shelfOf_8 ?_
  refine j_iconst 10 rfl dX5_shelfOf_9 ?_
  refine j_icmp_ne 18 13 (by decide) rfl dX5_shelfOf_10 (by intro hR; first | omega | exact hR _ _ | exact jb_r _ | exact hR0 _ _ | assumption) (by intro hR; first | omega | exact hR _ _ | exact jb_r _ | exact hR0 _ _ | assumption) (fun h1 => ?_) (fun h1 => ?_)
  · refine j_aload_n 19 rfl rfl dX5_shelfOf_18 ?_
    refine j_getr 22 rfl 25 fl_X5_64 dX5_shelfOf_19 (by decide) ( rfl) ( rfl) ?_
    refine j_iload_n 23 rfl rfl dX5_shelfOf_22 ?_
    refine j_iald 24 rfl dX5_shelfOf_23 (by decide) rfl (by decide) rfl (by omega) ?_
    rw [a3 i (by omega) (by omega)]
    refine j_ireti dX5_shelfOf_24 rfl ?_
    exact ⟨mq, fd, kb, a1, by rw [if_neg h1]⟩
  · have hv := vS_r (cfg H) n kb
    refine j_iload 15 rfl rfl dX5_shelfOf_13 ?_
    refine j_goto 24 (by decide) dX5_shelfOf_15 ?_
    refine j_ireti dX5_shelfOf_24 rfl ?_
    exact ⟨mq, fd, kb, a1, by rw [if_pos (by omega)]; exact a2⟩
-- X5_shelf
theorem m_shelf {n L i : Int} (hn : -2147483648 ≤ n ∧ n ≤ 2147483647) (hL : -2147483648 ≤ L ∧ L ≤ 2147483647) (hi : -2147483648 ≤ i ∧ i ≤ 2147483647) (h : RI H) : jOk E mX5_shelf [jRF E 56, .int (jI n), .int (jI L), .int (jI i)] H (jQi fun r H' => MZ H H' ∧ FD H' ∧ anShelf H n L i r) := by
  refine jOk.rng (fun hR0 => ?_)
  refine jOk.ofe rfl (Nat.le_of_ble_eq_true rfl) (en_aiii_4 (E := E)) ?_
  refine j_aload_n 1 rfl rfl dX5_shelf_0 ?_
  refine jV0v 4 rfl dX5_shelf_1 lk_X5_183 rfl rfl (by decide) ( rfl) ( rfl) (m_find h) (fun H1 ⟨mq, fd⟩ => ?_)
  rw [← mq.same.shelf]
  have hn0 := fd.n
  by_cases hok : (1 ≤ n ∧ n ≤ 6 ∧ n ≤ H1 1 3 ∧ (L = 0 ∨ L = 1) ∧ -1 ≤ i ∧ i < n)
  rotate_left
  · refine j_iload_n 5 rfl rfl dX5_shelf_4 ?_
    refine j_i2l 6 rfl (by intro hR; first | omega | exact hR _ _ | exact jb_r _ | exact hR0 _ _ | assumption) dX5_shelf_5 ?_
    refine j_lconst 7 rfl (x := 1) rfl dX5_shelf_6 ?_
    refine j_aload_n 8 rfl rfl dX5_shelf_7 ?_
    refine g_geti 11 rfl 8 8 rfl fl_X5_109 dX5_shelf_8 (by decide) ( rfl) ( rfl) ?_
    refine jS1i 14 rfl dX5_shelf_11 lk_X5_226 rfl rfl (m_lesserOf (by omega)) (fun r11 H1 ⟨eh_, hr11⟩ => ?_)
    obtain rfl := eh_.symm
    refine j_i2l 15 rfl (by intro hR; first | omega | exact hR _ _ | exact jb_r _ | exact hR0 _ _ | assumption) dX5_shelf_14 ?_
    refine jS3i 18 rfl dX5_shelf_15 lk_X5_75 rfl rfl (m_in (by omega) (by omega) (by omega)) (fun r15 H1 ⟨eh_, hr15⟩ => ?_)
    obtain rfl := eh_.symm
    refine j_if_eq 53 21 (by decide) rfl dX5_shelf_18 (by intro hR; first | omega | exact hR _ _ | exact jb_r _ | exact hR0 _ _ | assumption) (fun h18 => ?_) (fun h18 => ?_)
    · refine j_bipush 55 rfl rfl dX5_shelf_53 ?_
      refine j_ireti dX5_shelf_55 rfl ?_
      exact ⟨mq, fd, Or.inl ⟨hok, rfl⟩⟩
    · refine j_iload_n 22 rfl rfl dX5_shelf_21 ?_
      refine jS1i 25 rfl dX5_shelf_22 lk_X5_186 rfl rfl (m_isTwo (by omega)) (fun r22 H1 ⟨eh_, hr22⟩ => ?_)
      obtain rfl := eh_.symm
      refine j_if_eq 53 28 (by decide) rfl dX5_shelf_25 (by intro hR; first | omega | exact hR _ _ | exact jb_r _ | exact hR0 _ _ | assumption) (fun h25 => ?_) (fun h25 => ?_)
      · refine j_bipush 55 rfl rfl dX5_shelf_53 ?_
        refine j_ireti dX5_shelf_55 rfl ?_
        exact ⟨mq, fd, Or.inl ⟨hok, rfl⟩⟩
      · refine j_iload_n 29 rfl rfl dX5_shelf_28 ?_
        refine j_i2l 30 rfl (by intro hR; first | omega | exact hR _ _ | exact jb_r _ | exact hR0 _ _ | assumption) dX5_shelf_29 ?_
        refine j_ldc2 33 rfl kc_X5_229 dX5_shelf_30 ?_
        refine j_iload_n 34 rfl rfl dX5_shelf_33 ?_
        refine j_iconst 35 rfl dX5_shelf_34 ?_
        refine j_isub 36 rfl dX5_shelf_35 ?_
        refine j_i2l 37 rfl (by intro hR; first | omega | exact hR _ _ | exact jb_r _ | exact hR0 _ _ | assumption) dX5_shelf_36 ?_
        refine jS3i 40 rfl dX5_shelf_37 lk_X5_75 rfl rfl (m_in (by omega) (by omega) (by omega)) (fun r37 H1 ⟨eh_, hr37⟩ => ?_)
        obtain rfl := eh_.symm
        refine j_if_eq 53 43 (by decide) rfl dX5_shelf_40 (by intro hR; first | omega | exact hR _ _ | exact jb_r _ | exact hR0 _ _ | assumption) (fun h40 => ?_) (fun h40 => ?_)
        · refine j_bipush 55 rfl rfl dX5_shelf_53 ?_
          refine j_ireti dX5_shelf_55 rfl ?_
          exact ⟨mq, fd, Or.inl ⟨hok, rfl⟩⟩
        · exfalso; omega
  refine j_iload_n 5 rfl rfl dX5_shelf_4 ?_
  refine j_i2l 6 rfl (by intro hR; first | omega | exact hR _ _ | exact jb_r _ | exact hR0 _ _ | assumption) dX5_shelf_5 ?_
  refine j_lconst 7 rfl (x := 1) rfl dX5_shelf_6 ?_
  refine j_aload_n 8 rfl rfl dX5_shelf_7 ?_
  refine g_geti 11 rfl 8 8 rfl fl_X5_109 dX5_shelf_8 (by decide) ( rfl) ( rfl) ?_
  refine jS1i 14 rfl dX5_shelf_11 lk_X5_226 rfl rfl (m_lesserOf (by omega)) (fun r11 H1 ⟨eh_, hr11⟩ => ?_)
  obtain rfl := eh_.symm
  refine j_i2l 15 rfl (by intro hR; first | omega | exact hR _ _ | exact jb_r _ | exact hR0 _ _ | assumption) dX5_shelf_14 ?_
  refine jS3i 18 rfl dX5_shelf_15 lk_X5_75 rfl rfl (m_in (by omega) (by omega) (by omega)) (fun r15 H1 ⟨eh_, hr15⟩ => ?_)
  obtain rfl := eh_.symm
  refine j_if_eq 53 21 (by decide) rfl dX5_shelf_18 (by intro hR; first | omega | exact hR _ _ | exact jb_r _ | exact hR0 _ _ | assumption) (fun h18 => ?_) (fun h18 => ?_)
  · exfalso; omega
  refine j_iload_n 22 rfl rfl dX5_shelf_21 ?_
  refine jS1i 25 rfl dX5_shelf_22 lk_X5_186 rfl rfl (m_isTwo (by omega)) (fun r22 H1 ⟨eh_, hr22⟩ => ?_)
  obtain rfl := eh_.symm
  refine j_if_eq 53 28 (by decide) rfl dX5_shelf_25 (by intro hR; first | omega | exact hR _ _ | exact jb_r _ | exact hR0 _ _ | assumption) (fun h25 => ?_) (fun h25 => ?_)
  · exfalso; omega
  refine j_iload_n 29 rfl rfl dX5_shelf_28 ?_
  refine j_i2l 30 rfl (by intro hR; first | omega | exact hR _ _ | exact jb_r _ | exact hR0 _ _ | assumption) dX5_shelf_29 ?_
  refine j_ldc2 33 rfl kc_X5_229 dX5_shelf_30 ?_
  refine j_iload_n 34 rfl rfl dX5_shelf_33 ?_
  refine j_iconst 35 rfl dX5_shelf_34 ?_
  refine j_isub 36 rfl dX5_shelf_35 ?_
  refine j_i2l 37 rfl (by intro hR; first | omega | exact hR _ _ | exact jb_r _ | exact hR0 _ _ | assumption) dX5_shelf_36 ?_
  refine jS3i 40 rfl dX5_shelf_37 lk_X5_75 rfl rfl (m_in (by omega) (by omega) (by omega)) (fun r37 H1 ⟨eh_, hr37⟩ => ?_)
  obtain rfl := eh_.symm
  refine j_if_eq 53 43 (by decide) rfl dX5_shelf_40 (by intro hR; first | omega | exact hR _ _ | exact jb_r _ | exact hR0 _ _ | assumption) (fun h40 => ?_) (fun h40 => ?_)
  · exfalso; omega
  refine j_aload_n 44 rfl rfl dX5_shelf_43 ?_
  refine j_iload_n 45 rfl rfl dX5_shelf_44 ?_
  refine j_iload_n 46 rfl rfl dX5_shelf_45 ?_
  refine j_iload_n 47 rfl rfl dX5_shelf_46 ?_
  refine jV3i 50 rfl dX5_shelf_47 lk_X5_231 rfl rfl (by decide) ( rfl) ( rfl) (m_shelfOf (by omega) (by omega) (by omega) fd) (fun r1 H2 ⟨mq2, fd2, hr1⟩ => ?_)
  refine j_goto 55 (by decide) dX5_shelf_50 ?_
  refine j_ireti dX5_shelf_55 rfl ?_
  exact ⟨mq.trans mq2, fd2, Or.inr ⟨hok, hr1⟩⟩
end S42
