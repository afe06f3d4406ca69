/-! ===== the class: turn, night ===== -/
def kT1 (K : jH) (s v : Int) : jH := fun k i => if k = 6 ∧ i = s then v else K k i
theorem kT1_6 (K : jH) (s v i : Int) : kT1 K s v 6 i = if i = s then v else K 6 i := by
  unfold kT1
  by_cases h : i = s
  · rw [if_pos ⟨rfl, h⟩, if_pos h]
  · rw [if_neg (fun q => h q.2), if_neg h]
theorem kT1_o {K : jH} {k : Nat} (h : k ≠ 6) (s v : Int) : kT1 K s v k = K k := by
  funext i
  unfold kT1
  rw [if_neg (fun q => h q.1)]
theorem kT1_law (K : jH) (b l m s v : Int) : kT1 (kLaw K b l m) s v = kLaw (kT1 K s v) b l m := by
  funext k i
  unfold kT1 kLaw
  dsimp only
  by_cases h : k = 6 ∧ i = s
  · rw [if_pos h, if_neg (fun q => by omega), if_neg (fun q => by omega), if_pos h]
  · rw [if_neg h, if_neg h]
theorem kT1_back (K : jH) (s v : Int) : kT1 (kT1 K s v) s (K 6 s) = K := by
  funext k i
  unfold kT1
  by_cases h : k = 6 ∧ i = s
  · rw [if_pos h, h.1, h.2]
  · rw [if_neg h, if_neg h]
theorem hold_t1 {H K : jH} (h : hold 37 H K) (s v : Int) : hold 37 (jU H 43 s v) (kT1 K s v) := by
  obtain ⟨h1, h2, h3, h4⟩ := h
  refine ⟨by rw [jU_k (by decide), kT1_o (by decide)]; exact h1, by rw [jU_k (by decide), kT1_o (by decide)]; exact h2, fun b b0 b1 => ?_, fun t t0 t1 => ?_⟩
  · rw [jU_k (by decide), jU_k (by decide), jU_k (by decide), jU_k (by decide), kT1_o (by decide), kT1_o (by decide), kT1_o (by decide), kT1_o (by decide)]
    exact h3 b b0 b1
  · obtain ⟨a1, a2, a3⟩ := h4 t t0 t1
    rw [jU_k (a := 37 + 7) (by decide), jU_k (a := 37 + 8) (by decide), kT1_o (k := 7) (by decide), kT1_o (k := 8) (by decide), kT1_6]
    refine ⟨?_, a2, a3⟩
    by_cases e : t = s
    · subst e; rw [if_pos rfl]; exact jU_s
    · rw [if_neg e]; exact (jU_i e).trans a1
theorem cOk_t1 {K : jH} (ok : cOk K) {s v : Int} (hv : 0 ≤ v ∧ v < 512) : cOk (kT1 K s v) := by
  obtain ⟨o1, o2, o3, o4, o5⟩ := ok
  have e0 : kT1 K s v 0 = K 0 := kT1_o (by decide) s v
  have e1 : kT1 K s v 1 = K 1 := kT1_o (by decide) s v
  have e2 : kT1 K s v 2 = K 2 := kT1_o (by decide) s v
  have e3 : kT1 K s v 3 = K 3 := kT1_o (by decide) s v
  have e4 : kT1 K s v 4 = K 4 := kT1_o (by decide) s v
  have e7 : kT1 K s v 7 = K 7 := kT1_o (by decide) s v
  have e8 : kT1 K s v 8 = K 8 := kT1_o (by decide) s v
  unfold cOk
  rw [e0, e1, e2, e3, e4, e7, e8]
  refine ⟨o1, o2, o3, o4, fun t t0 t1 => ?_⟩
  obtain ⟨a1, a2, a3⟩ := o5 t t0 t1
  rw [kT1_6]
  by_cases e : t = s
  · rw [if_pos e]; exact ⟨hv, a2, a3⟩
  · rw [if_neg e]; exact ⟨a1, a2, a3⟩
theorem or1_512 {x b : Int} (hx : 0 ≤ x ∧ x < 512) (hb : 0 ≤ b ∧ b < 9) : 0 ≤ bOr x (bShl 1 b) ∧ bOr x (bShl 1 b) < 512 := by
  apply bt_512 (jb_r _)
  intro q q0 q1
  rw [bt_or, bt_of512 hx q0, bt_shl1 (by omega) (by omega)]
  simp
  omega
theorem hold_jU {H K : jH} (h : hold 37 H K) {k : Nat} (hk : k < 37 ∨ 51 < k) (i v : Int) : hold 37 (jU H k i v) K := by
  obtain ⟨h1, h2, h3, h4⟩ := h
  refine ⟨by rw [jU_k (by omega)]; exact h1, by rw [jU_k (by omega)]; exact h2, fun b b0 b1 => ?_, fun t t0 t1 => ?_⟩
  · rw [jU_k (by omega), jU_k (by omega), jU_k (by omega), jU_k (by omega)]; exact h3 b b0 b1
  · rw [jU_k (by omega), jU_k (by omega), jU_k (by omega)]; exact h4 t t0 t1
theorem hold_cong {H H' K : jH} (h : hold 37 H K) (f : ∀ k, 37 ≤ k → k ≤ 45 → H' k = H k) : hold 37 H' K := by
  obtain ⟨h1, h2, h3, h4⟩ := h
  refine ⟨by rw [f 37 (by decide) (by decide)]; exact h1, by rw [f 37 (by decide) (by decide)]; exact h2, fun b b0 b1 => ?_, fun t t0 t1 => ?_⟩
  · rw [f (37 + 1) (by decide) (by decide), f (37 + 2) (by decide) (by decide), f (37 + 3) (by decide) (by decide), f (37 + 4) (by decide) (by decide)]; exact h3 b b0 b1
  · rw [f (37 + 6) (by decide) (by decide), f (37 + 7) (by decide) (by decide), f (37 + 8) (by decide) (by decide)]; exact h4 t t0 t1
theorem cntN_sub {f g : Int → Bool} (hgf : ∀ k, g k = true → f k = true) : ∀ (d m : Nat), sumN (fun k => if f k then 1 else 0) m = sumN (fun k => if f k then 1 else 0) (m + d) → sumN (fun k => if g k then 1 else 0) m = sumN (fun k => if g k then 1 else 0) (m + d)
  | 0, m, _ => rfl
  | d + 1, m, h => by
    have h1 := cntN_mono f d m
    rw [show m + (d + 1) = (m + d) + 1 by omega, sumN] at h
    rw [show m + (d + 1) = (m + d) + 1 by omega, sumN]
    have hf : f ((m + d : Nat) : Int) = false := by
      cases hq : f ((m + d : Nat) : Int) with
      | false => rfl
      | true => rw [hq] at h; simp only [if_true] at h; omega
    have hg : g ((m + d : Nat) : Int) = false := by
      cases hq : g ((m + d : Nat) : Int) with
      | false => rfl
      | true => rw [hgf _ hq] at hf; cases hf
    rw [hf] at h
    rw [hg]
    simp only [Bool.false_eq_true, if_false, Int.add_zero] at h ⊢
    exact cntN_sub hgf d m h
theorem cntI_sub {f g : Int → Bool} (hgf : ∀ k, g k = true → f k = true) {m n : Int} (hm : 0 ≤ m) (hn : 0 ≤ n) (h : cntI f m = cntI f n) : cntI g m = cntI g n := by
  rcases Int.le_total m n with q | q
  · have := cntN_sub hgf (n.toNat - m.toNat) m.toNat
    rw [show m.toNat + (n.toNat - m.toNat) = n.toNat by omega] at this
    exact this h
  · have := cntN_sub hgf (m.toNat - n.toNat) n.toNat
    rw [show n.toNat + (m.toNat - n.toNat) = m.toNat by omega] at this
    exact (this h.symm).symm
theorem cntN_le {f g : Int → Bool} (hgf : ∀ k, g k = true → f k = true) : ∀ n : Nat, sumN (fun k => if g k then 1 else 0) n ≤ sumN (fun k => if f k then 1 else 0) n
  | 0 => Int.le_refl _
  | n + 1 => by
    have ih := cntN_le hgf n
    rw [sumN, sumN]
    cases hg : g n with
    | false =>
      simp only [Bool.false_eq_true, if_false]
      split <;> omega
    | true =>
      rw [hgf _ hg]
      simp only [if_true]
      omega
theorem cntI_le {f g : Int → Bool} (hgf : ∀ k, g k = true → f k = true) (n : Int) : cntI g n ≤ cntI f n := cntN_le hgf _
theorem cntI_kth {f : Int → Bool} {i : Int} (h0 : 0 ≤ i) : ∀ n : Nat, i < cntI f n → ∃ c : Int, 0 ≤ c ∧ c < n ∧ f c = true ∧ cntI f c = i
  | 0, q => by rw [show ((0 : Nat) : Int) = 0 from rfl, cntI_0] at q; omega
  | n + 1, q => by
    rw [show ((n + 1 : Nat) : Int) = (n : Int) + 1 by omega, cntI_s _ (by omega)] at q
    by_cases hq : i < cntI f n
    · obtain ⟨c, a1, a2, a3⟩ := cntI_kth h0 n hq
      exact ⟨c, a1, by omega, a3⟩
    · cases hg : f n with
      | true =>
        rw [hg] at q
        simp only [if_true] at q
        exact ⟨n, by omega, by omega, hg, by omega⟩
      | false =>
        rw [hg] at q
        simp at q
        omega
/-- who would open in step s, if box u is turned in it too, box b has the law of code c -/
def oT (K : jH) (b s u c : Int) : Int := oc (pO (kCode (kT1 K s (bOr (K 6 s) (bShl 1 u))) b c) s)
def isGa (gd : Int → Bool) (o : Int → Int) (N g : Int) : Prop := 0 ≤ g ∧ (∀ q, 0 ≤ q → q ≤ 9 → cntI (fun c => gd c && decide (o c = q)) N ≤ g) ∧ (g = 0 ∨ ∃ q, 0 ≤ q ∧ q ≤ 9 ∧ cntI (fun c => gd c && decide (o c = q)) N = g)
theorem isGa_one {gd gd2 : Int → Bool} {o o2 : Int → Int} {N N2 g g2 : Int} (hc : ∀ q, 0 ≤ q → q ≤ 9 → cntI (fun c => gd c && decide (o c = q)) N = cntI (fun c => gd2 c && decide (o2 c = q)) N2) (h : isGa gd o N g) (h2 : isGa gd2 o2 N2 g2) : g = g2 := by
  obtain ⟨a1, a2, a3⟩ := h
  obtain ⟨b1, b2, b3⟩ := h2
  have l1 : g ≤ g2 := by
    rcases a3 with a3 | ⟨q, q0, q1, q2⟩
    · omega
    · rw [← q2, hc q q0 q1]; exact b2 q q0 q1
  have l2 : g2 ≤ g := by
    rcases b3 with b3 | ⟨q, q0, q1, q2⟩
    · omega
    · rw [← q2, ← hc q q0 q1]; exact a2 q q0 q1
  omega
/-- the first of the n with the least -/
def isArg (g : Int → Int) (n r : Int) : Prop := (0 ≤ r ∧ r < n) ∧ (∀ u, 0 ≤ u → u < n → g r ≤ g u) ∧ (∀ u, 0 ≤ u → u < r → g r < g u)
theorem isArg_one {g g2 : Int → Int} {n r r2 : Int} (hg : ∀ u, 0 ≤ u → u < n → g u = g2 u) (h : isArg g n r) (h2 : isArg g2 n r2) : r = r2 := by
  obtain ⟨a1, a2, a3⟩ := h
  obtain ⟨b1, b2, b3⟩ := h2
  rcases (show r < r2 ∨ r = r2 ∨ r2 < r by omega) with q | q | q
  · have c1 := b3 r a1.1 q
    have c2 := a2 r2 b1.1 b1.2
    rw [hg r a1.1 a1.2, hg r2 b1.1 b1.2] at c2
    omega
  · exact q
  · have c1 := a3 r2 b1.1 q
    have c2 := b2 r a1.1 a1.2
    rw [hg r a1.1 a1.2, hg r2 b1.1 b1.2] at c1
    omega
section S25
variable {E : jE} {H Hb : jH}
-- X4_greatestAlike
set_option maxHeartbeats 1000000 in
theorem s_greatestAlike {b s u : Int} (hb : 0 ≤ b ∧ b < Hb 1 3) (hs : 0 ≤ s ∧ s < 60) (hu : 0 ≤ u ∧ u < 9) (h : CI Hb) (g1 : ∀ k, (k < 37 ∨ 53 < k) → H k = Hb k) {l0 m0 : Int} (g2 : hold 37 H (kLaw (cfg Hb) b l0 m0)) (g3 : ∀ c, 0 ≤ c → c < 41 → gdB Hb b c = true → H 52 (cntI (gdB Hb b) c) = c) : jOk E mX4_greatestAlike [jRF E 0, .int (jI b), .int (jI s), .int (jI u), .int (jI (cntI (gdB Hb b) 41))] H (jQi fun r H' => isGa (gdB Hb b) (oT (cfg Hb) b s u) 41 r ∧ (∀ k, (k < 37 ∨ 53 < k) → H' k = Hb k) ∧ (∃ l m, hold 37 H' (kLaw (cfg Hb) b l m)) ∧ H' 52 = H 52) := by
  have hn := parsed_n h.1.1 h.1.2.1
  have ok := cfg_ok h.1
  have hM := cntI_r (gdB Hb b) (n := 41) (by omega)
  have hM2 : cntI (gdB Hb b) 41 ≤ 37 := by
    have := cnt_36 Hb b (c := 40) (by omega) (by omega)
    rw [show (41 : Int) = 40 + 1 from rfl, cntI_s _ (by omega)]
    split <;> omega
  have h6 : H 43 s = cfg Hb 6 s := by
    have := (g2.2.2.2 s hs.1 hs.2).1
    rw [kLaw_o (by decide) (by decide)] at this
    exact this
  have hm6 := (ok.2.2.2.2 s hs.1 hs.2).1
  have hv := or1_512 hm6 hu
  obtain ⟨K1, hK1⟩ : ∃ K1, K1 = kT1 (cfg Hb) s (bOr (cfg Hb 6 s) (bShl 1 u)) := ⟨_, rfl⟩
  have ok1 : cOk K1 := by rw [hK1]; exact cOk_t1 ok hv
  have hoT : ∀ c, oT (cfg Hb) b s u c = oc (pO (kLaw K1 b (c / 10) (c % 10)) s) := fun c => by rw [hK1]; rfl
  obtain ⟨co, hco⟩ : ∃ co : Int → Int → Int, co = fun q c => cntI (fun c => gdB Hb b c && decide (oT (cfg Hb) b s u c = q)) c := ⟨_, rfl⟩
  refine jOk.rng (fun hR0 => ?_)
  refine jOk.ofe rfl (Nat.le_of_ble_eq_true rfl) (en_aiiii_9 (E := E)) ?_
  refine j_aload_n 1 rfl rfl dX4_greatestAlike_0 ?_
  refine j_getr 4 rfl 11 fl_X4_60 dX4_greatestAlike_1 (by decide) ( rfl) ( rfl) ?_
  refine j_getr 7 rfl 6 fl_X4_214 dX4_greatestAlike_4 (by decide) ( rfl) ( rfl) ?_
  refine j_iconst 8 rfl dX4_greatestAlike_7 ?_
  refine j_aald 9 rfl dX4_greatestAlike_8 (by decide) rfl (by decide) rfl (by omega) (rfl)  ?_
  refine j_iload_n 10 rfl rfl dX4_greatestAlike_9 ?_
  refine j_iald 11 rfl dX4_greatestAlike_10 (by decide) rfl (by decide) rfl (by omega) ?_
  rw [h6]
  refine j_istore 13 rfl st_9_5 (by decide) rfl dX4_greatestAlike_11 ?_
  refine j_aload_n 14 rfl rfl dX4_greatestAlike_13 ?_
  refine j_getr 17 rfl 11 fl_X4_60 dX4_greatestAlike_14 (by decide) ( rfl) ( rfl) ?_
  refine j_getr 20 rfl 6 fl_X4_214 dX4_greatestAlike_17 (by decide) ( rfl) ( rfl) ?_
  refine j_iconst 21 rfl dX4_greatestAlike_20 ?_
  refine j_aald 22 rfl dX4_greatestAlike_21 (by decide) rfl (by decide) rfl (by omega) (rfl)  ?_
  refine j_iload_n 23 rfl rfl dX4_greatestAlike_22 ?_
  refine j_iload 25 rfl rfl dX4_greatestAlike_23 ?_
  refine j_iconst 26 rfl dX4_greatestAlike_25 ?_
  refine j_iload_n 27 rfl rfl dX4_greatestAlike_26 ?_
  refine k_ishl 28 rfl dX4_greatestAlike_27 ?_
  refine k_ior 29 rfl dX4_greatestAlike_28 ?_
  refine j_iast 30 rfl dX4_greatestAlike_29 (by decide) rfl (by decide) rfl (by omega) (by intro hR; first | omega | exact hR _ _ | exact jb_r _ | exact hR0 _ _ | assumption) ?_
  refine j_aload_n 31 rfl rfl dX4_greatestAlike_30 ?_
  refine j_getr 34 rfl 13 fl_X4_66 dX4_greatestAlike_31 (by decide) ( rfl) ( rfl) ?_
  refine j_iconst 35 rfl dX4_greatestAlike_34 ?_
  refine jS2v 38 rfl dX4_greatestAlike_35 lk_X4_341 rfl rfl (s_fill (N := 10) (by decide) rfl (by decide) rfl (by omega)) (fun H1 e => ?_)
  subst e
  refine j_iconst 39 rfl dX4_greatestAlike_38 ?_
  refine j_istore 41 rfl st_9_6 (by decide) rfl dX4_greatestAlike_39 ?_
  refine j_iconst 42 rfl dX4_greatestAlike_41 ?_
  refine j_istore 44 rfl st_9_7 (by decide) rfl dX4_greatestAlike_42 ?_
  have hh1 : hold 37 (jFill (jU H 43 s (bOr (cfg Hb 6 s) (bShl 1 u))) 53 ((10 : Nat) : Int) 0) (kLaw K1 b l0 m0) := by
    have q := hold_t1 g2 s (bOr (cfg Hb 6 s) (bShl 1 u))
    rw [kT1_law, ← hK1] at q
    exact hold_cong q (fun k a c => jFill_o (by omega))
  have loop := jUp 0 (cntI (gdB Hb b) 41) (fun i => ∀ Hi g x8, ((∀ k, (k < 37 ∨ 53 < k) → Hi k = Hb k) ∧ (∃ l m, hold 37 Hi (kLaw K1 b l m)) ∧ Hi 52 = H 52 ∧ (∀ c, 0 ≤ c → c ≤ 41 → cntI (gdB Hb b) c = i → ∀ q, 0 ≤ q → q ≤ 9 → Hi 53 q = co q c) ∧ (0 ≤ g ∧ g ≤ 41) ∧ (∀ q, 0 ≤ q → q ≤ 9 → 0 ≤ Hi 53 q ∧ Hi 53 q ≤ g) ∧ (g = 0 ∨ ∃ q, 0 ≤ q ∧ q ≤ 9 ∧ Hi 53 q = g)) → jWP E mX4_greatestAlike (jQi fun r H' => isGa (gdB Hb b) (oT (cfg Hb) b s u) 41 r ∧ (∀ k, (k < 37 ∨ 53 < k) → H' k = Hb k) ∧ (∃ l m, hold 37 H' (kLaw (cfg Hb) b l m)) ∧ H' 52 = H 52) 44 [some (jRF E 0), some (.int (jI b)), some (.int (jI s)), some (.int (jI u)), some (.int (jI (cntI (gdB Hb b) 41))), some (.int (jI (cfg Hb 6 s))), some (.int (jI g)), some (.int (jI i)), x8] [] Hi) ?_ ?_ 0 (by omega) (by omega)
  · refine loop _ 0 none ⟨fun k a => by rw [jFill_o (by omega), jU_o (by omega)]; exact g1 k a, ⟨_, _, hh1⟩, by rw [jFill_o (by decide), jU_o (by decide)], fun c c0 c1 c2 q q0 q1 => ?_, by omega, fun q q0 q1 => by rw [jFill_i q0 (by omega)]; omega, Or.inl rfl⟩
    rw [jFill_i q0 (by omega), hco]
    show (0 : Int) = cntI _ c
    have := cntI_sub (f := gdB Hb b) (g := fun c => gdB Hb b c && decide (oT (cfg Hb) b s u c = q)) (fun k hk => by simp at hk; exact hk.1) (m := 0) (n := c) (by omega) c0 (by rw [cntI_0, c2])
    rw [← this, cntI_0]
  · rintro Hi g x8 ⟨p1, p2, p3, p4, p5, p6, p7⟩
    refine j_iload 46 rfl rfl dX4_greatestAlike_44 ?_
    refine j_iload 48 rfl rfl dX4_greatestAlike_46 ?_
    refine j_icmp_ge 119 51 (by decide) rfl dX4_greatestAlike_48 (by intro hR; first | omega | exact hR _ _ | exact jb_r _ | exact hR0 _ _ | assumption) (by intro hR; first | omega | exact hR _ _ | exact jb_r _ | exact hR0 _ _ | assumption) (fun h2 => ?_) (fun h2 => ?_)
    · obtain ⟨l, m, hh⟩ := p2
      refine j_aload_n 120 rfl rfl dX4_greatestAlike_119 ?_
      refine j_getr 123 rfl 11 fl_X4_60 dX4_greatestAlike_120 (by decide) ( rfl) ( rfl) ?_
      refine j_getr 126 rfl 6 fl_X4_214 dX4_greatestAlike_123 (by decide) ( rfl) ( rfl) ?_
      refine j_iconst 127 rfl dX4_greatestAlike_126 ?_
      refine j_aald 128 rfl dX4_greatestAlike_127 (by decide) rfl (by decide) rfl (by omega) (rfl)  ?_
      refine j_iload_n 129 rfl rfl dX4_greatestAlike_128 ?_
      refine j_iload 131 rfl rfl dX4_greatestAlike_129 ?_
      refine j_iast 132 rfl dX4_greatestAlike_131 (by decide) rfl (by decide) rfl (by omega) (by intro hR; first | omega | exact hR _ _ | exact jb_r _ | exact hR0 _ _ | assumption) ?_
      refine j_iload 134 rfl rfl dX4_greatestAlike_132 ?_
      refine j_ireti dX4_greatestAlike_134 rfl ?_
      refine ⟨⟨p5.1, fun q q0 q1 => ?_, ?_⟩, fun k a => by rw [jU_o (by omega)]; exact p1 k a, ⟨l, m, ?_⟩, by rw [jU_o (by decide)]; exact p3⟩
      · have := p4 41 (by omega) (by omega) rfl q q0 q1
        rw [hco] at this
        have e := (p6 q q0 q1).2
        rw [this] at e
        exact e
      · rcases p7 with p7 | ⟨q, q0, q1, q2⟩
        · exact Or.inl p7
        · refine Or.inr ⟨q, q0, q1, ?_⟩
          have := p4 41 (by omega) (by omega) rfl q q0 q1
          rw [hco] at this
          rw [← q2, this]
      · have q := hold_t1 hh s (cfg Hb 6 s)
        rw [kT1_law, hK1, kT1_back] at q
        exact q
    · exfalso; omega
  · rintro i h0 h1 ih Hi g x8 ⟨p1, p2, p3, p4, p5, p6, p7⟩
    obtain ⟨c, c0, c1, c2, c3⟩ := cntI_kth (f := gdB Hb b) h0 41 h1
    obtain ⟨l, m, hh⟩ := p2
    have c1' : c < 41 := by omega
    have ef : Hi 52 i = c := by rw [p3, ← c3]; exact g3 c c0 c1' c2
    have hcode : c % 10 ≠ 0 ∨ c = 40 := by
      unfold gdB at c2
      simp at c2
      exact c2.1
    have okc : cOk (kLaw K1 b (c / 10) (c % 10)) := cOk_law ok1 (by omega) (by omega) (by omega)
    have p4c := p4 c c0 (by omega) c3
    refine j_iload 46 rfl rfl dX4_greatestAlike_44 ?_
    refine j_iload 48 rfl rfl dX4_greatestAlike_46 ?_
    refine j_icmp_ge 119 51 (by decide) rfl dX4_greatestAlike_48 (by intro hR; first | omega | exact hR _ _ | exact jb_r _ | exact hR0 _ _ | assumption) (by intro hR; first | omega | exact hR _ _ | exact jb_r _ | exact hR0 _ _ | assumption) (fun h2 => ?_) (fun h2 => ?_)
    · exfalso; omega
    · refine j_aload_n 52 rfl rfl dX4_greatestAlike_51 ?_
      refine j_getr 55 rfl 11 fl_X4_60 dX4_greatestAlike_52 (by decide) ( rfl) ( rfl) ?_
      refine j_iload_n 56 rfl rfl dX4_greatestAlike_55 ?_
      refine j_aload_n 57 rfl rfl dX4_greatestAlike_56 ?_
      refine j_getr 60 rfl 12 fl_X4_63 dX4_greatestAlike_57 (by decide) ( rfl) ( rfl) ?_
      refine j_iload 62 rfl rfl dX4_greatestAlike_60 ?_
      refine j_iald 63 rfl dX4_greatestAlike_62 (by decide) rfl (by decide) rfl (by omega) ?_
      rw [ef]
      refine jV2v 66 rfl dX4_greatestAlike_63 lk_X4_338 rfl rfl (by decide) ( rfl) ( rfl) (s_putLaw_37 (by omega) (by omega)) (fun H3 e => ?_)
      subst e
      have hm2 := hold_law hh (b := b) (c / 10) (c % 10)
      rw [kLaw_law] at hm2
      refine j_aload_n 67 rfl rfl dX4_greatestAlike_66 ?_
      refine j_getr 70 rfl 11 fl_X4_60 dX4_greatestAlike_67 (by decide) ( rfl) ( rfl) ?_
      refine j_iload_n 71 rfl rfl dX4_greatestAlike_70 ?_
      refine jV1v 74 rfl dX4_greatestAlike_71 lk_X4_187 rfl rfl (by decide) ( rfl) ( rfl) (r_run (by omega) hm2 okc) (fun H3 ⟨q1, q2, q3⟩ => ?_)
      refine j_aload_n 75 rfl rfl dX4_greatestAlike_74 ?_
      refine j_getr 78 rfl 11 fl_X4_60 dX4_greatestAlike_75 (by decide) ( rfl) ( rfl) ?_
      refine j_getr 81 rfl 7 fl_X4_146 dX4_greatestAlike_78 (by decide) ( rfl) ( rfl) ?_
      refine j_iload_n 82 rfl rfl dX4_greatestAlike_81 ?_
      refine j_iald 83 rfl dX4_greatestAlike_82 (by decide) rfl (by decide) rfl (by omega) ?_
      rw [(q3 s hs.1 (by omega)).1]
      refine jS1i 86 rfl dX4_greatestAlike_83 lk_X4_152 rfl rfl (s_bitCount (pO_r okc.1 s)) (fun r5 H5 ⟨eh_, hr5⟩ => ?_)
      obtain rfl := eh_.symm
      rw [← hoT c] at hr5
      have hor : 0 ≤ r5 ∧ r5 ≤ 9 := by rw [hr5, hoT]; exact oc_r _
      have e53 : ∀ q, H3 53 q = Hi 53 q := fun q => by rw [q1 53 (by decide), jU_k (by decide), jU_k (by decide)]
      have e52 : H3 52 = H 52 := by rw [q1 52 (by decide), jU_o (by decide), jU_o (by decide)]; exact p3
      have eo : ∀ k, (k < 37 ∨ 53 < k) → H3 k = Hb k := fun k a => by rw [q1 k (by omega), jU_o (by omega), jU_o (by omega)]; exact p1 k a
      have hpr := p6 r5 hor.1 hor.2
      refine j_istore 88 rfl st_9_8 (by decide) rfl dX4_greatestAlike_86 ?_
      refine j_aload_n 89 rfl rfl dX4_greatestAlike_88 ?_
      refine j_getr 92 rfl 13 fl_X4_66 dX4_greatestAlike_89 (by decide) ( rfl) ( rfl) ?_
      refine j_iload 94 rfl rfl dX4_greatestAlike_92 ?_
      refine j_dup2 95 rfl rfl rfl dX4_greatestAlike_94 ?_
      refine j_iald 96 rfl dX4_greatestAlike_95 (by decide) rfl (by decide) rfl (by omega) ?_
      rw [e53]
      refine j_iconst 97 rfl dX4_greatestAlike_96 ?_
      refine j_iadd 98 rfl dX4_greatestAlike_97 ?_
      refine j_iast 99 rfl dX4_greatestAlike_98 (by decide) rfl (by decide) rfl (by omega) (by intro hR; first | omega | exact hR _ _ | exact jb_r _ | exact hR0 _ _ | assumption) ?_
      refine j_iload 101 rfl rfl dX4_greatestAlike_99 ?_
      refine j_aload_n 102 rfl rfl dX4_greatestAlike_101 ?_
      refine j_getr 105 rfl 13 fl_X4_66 dX4_greatestAlike_102 (by decide) ( rfl) ( rfl) ?_
      refine j_iload 107 rfl rfl dX4_greatestAlike_105 ?_
      refine j_iald 108 rfl dX4_greatestAlike_107 (by decide) rfl (by decide) rfl (by omega) ?_
      rw [jU_s]
      refine j_max 111 rfl mx_X4 dX4_greatestAlike_108 (by intro _; omega) (by intro _; omega) (by decide) (Nat.le_of_ble_eq_true rfl) (fun v hv => ?_)
      refine j_istore 113 rfl st_9_6 (by decide) rfl dX4_greatestAlike_111 ?_
      refine j_iinc 116 rfl rfl st_9_7 (by decide) rfl dX4_greatestAlike_113 ?_
      refine j_goto 44 (by decide) dX4_greatestAlike_116 ?_
      have hcs : ∀ q, 0 ≤ q → q ≤ 9 → co q (c + 1) = co q c + if r5 = q then 1 else 0 := fun q q0 q1 => by
        rw [hco]
        show cntI _ (c + 1) = cntI _ c + _
        rw [cntI_s _ c0, c2, hr5]
        simp
      have hlt : g ≤ 40 ∨ g = 41 := by omega
      have hib : cntI (gdB Hb b) (c + 1) = i + 1 := by rw [cntI_s _ c0, c2, c3]; rfl
      have hgi : g ≤ i := by
        rcases p7 with p7 | ⟨q, q0, q1, q2⟩
        · omega
        · rw [← q2, p4c q q0 q1, hco]
          show cntI _ c ≤ i
          rw [← c3]
          exact cntI_le (fun k hk => by simp at hk; exact hk.1) c
      refine ih _ v _ ⟨fun k a => by rw [jU_o (by omega)]; exact eo k a, ⟨_, _, hold_jU q2 (by decide) _ _⟩, by rw [jU_o (by decide)]; exact e52, fun c' d0 d1 d2 q w0 w1 => ?_, by omega, fun q w0 w1 => ?_, ?_⟩
      · have hsub : co q c' = co q (c + 1) := by
          rw [hco]
          exact cntI_sub (f := gdB Hb b) (fun k hk => by simp at hk; exact hk.1) d0 (by omega) (by rw [d2, hib])
        rw [hsub, hcs q w0 w1]
        by_cases e : q = r5
        · subst e
          rw [jU_s, if_pos rfl, p4c q w0 w1]
        · rw [jU_i e, if_neg (fun z => e z.symm), e53, p4c q w0 w1, Int.add_zero]
      · by_cases e : q = r5
        · subst e; rw [jU_s]; omega
        · rw [jU_i e, e53]
          have := p6 q w0 w1
          omega
      · rcases hv with ⟨v1, v2⟩ | ⟨v1, v2⟩
        · rcases p7 with p7 | ⟨q, w0, w1, w2⟩
          · exfalso; omega
          · refine Or.inr ⟨q, w0, w1, ?_⟩
            by_cases e : q = r5
            · subst e; exfalso; omega
            · rw [jU_i e, e53, w2, v2]
        · exact Or.inr ⟨r5, hor.1, hor.2, by rw [jU_s, v2]⟩
-- X4_turn
set_option maxHeartbeats 1000000 in
theorem s_turn {b s : Int} (hb : -2147483648 ≤ b ∧ b ≤ 2147483647) (hs : -2147483648 ≤ s ∧ s ≤ 2147483647) (h : CI H) : jOk E mX4_turn [jRF E 0, .int (jI b), .int (jI s)] H (jQi fun r H' => CQ H H' ∧ ((¬ (0 ≤ b ∧ b < H 1 3 ∧ 0 ≤ s ∧ s < 60) ∧ r = -2) ∨ ((0 ≤ b ∧ b < H 1 3 ∧ 0 ≤ s ∧ s < 60) ∧ ∃ g : Int → Int, (∀ u, 0 ≤ u → u < H 1 3 → isGa (gdB H b) (oT (cfg H) b s u) 41 (g u)) ∧ isArg g (H 1 3) r))) := by
  have hn := parsed_n h.1.1 h.1.2.1
  by_cases hok : (0 ≤ b ∧ b < H 1 3 ∧ 0 ≤ s ∧ s < 60)
  rotate_left
  · refine jOk.rng (fun hR0 => ?_)
    refine jOk.ofe rfl (Nat.le_of_ble_eq_true rfl) (en_aii_8 (E := E)) ?_
    refine j_aload_n 1 rfl rfl dX4_turn_0 ?_
    refine j_iload_n 2 rfl rfl dX4_turn_1 ?_
    refine jV1i 5 rfl dX4_turn_2 lk_X4_89 rfl rfl (by decide) ( rfl) ( rfl) (s_isBox (by omega)) (fun r2 H1 ⟨eh_, hr2⟩ => ?_)
    obtain rfl := eh_.symm
    refine j_if_eq 15 8 (by decide) rfl dX4_turn_5 (by intro hR; first | omega | exact hR _ _ | exact jb_r _ | exact hR0 _ _ | assumption) (fun h5 => ?_) (fun h5 => ?_)
    · refine j_bipush 17 rfl rfl dX4_turn_15 ?_
      refine j_ireti dX4_turn_17 rfl ?_
      exact ⟨CQ.refl h, Or.inl ⟨by omega, rfl⟩⟩
    · refine j_iload_n 9 rfl rfl dX4_turn_8 ?_
      refine jS1i 12 rfl dX4_turn_9 lk_X4_137 rfl rfl (s_isStep (by omega)) (fun r9 H1 ⟨eh_, hr9⟩ => ?_)
      obtain rfl := eh_.symm
      refine j_if_ne 18 15 (by decide) rfl dX4_turn_12 (by intro hR; first | omega | exact hR _ _ | exact jb_r _ | exact hR0 _ _ | assumption) (fun h12 => ?_) (fun h12 => ?_)
      · exfalso; omega
      · refine j_bipush 17 rfl rfl dX4_turn_15 ?_
        refine j_ireti dX4_turn_17 rfl ?_
        exact ⟨CQ.refl h, Or.inl ⟨by omega, rfl⟩⟩
  have hM := cntI_r (gdB H b) (n := 41) (by omega)
  refine jOk.rng (fun hR0 => ?_)
  refine jOk.ofe rfl (Nat.le_of_ble_eq_true rfl) (en_aii_8 (E := E)) ?_
  refine j_aload_n 1 rfl rfl dX4_turn_0 ?_
  refine j_iload_n 2 rfl rfl dX4_turn_1 ?_
  refine jV1i 5 rfl dX4_turn_2 lk_X4_89 rfl rfl (by decide) ( rfl) ( rfl) (s_isBox (by omega)) (fun r2 H1 ⟨eh_, hr2⟩ => ?_)
  obtain rfl := eh_.symm
  refine j_if_eq 15 8 (by decide) rfl dX4_turn_5 (by intro hR; first | omega | exact hR _ _ | exact jb_r _ | exact hR0 _ _ | assumption) (fun h5 => ?_) (fun h5 => ?_)
  · exfalso; omega
  refine j_iload_n 9 rfl rfl dX4_turn_8 ?_
  refine jS1i 12 rfl dX4_turn_9 lk_X4_137 rfl rfl (s_isStep (by omega)) (fun r9 H1 ⟨eh_, hr9⟩ => ?_)
  obtain rfl := eh_.symm
  refine j_if_ne 18 15 (by decide) rfl dX4_turn_12 (by intro hR; first | omega | exact hR _ _ | exact jb_r _ | exact hR0 _ _ | assumption) (fun h12 => ?_) (fun h12 => ?_)
  rotate_left
  · exfalso; omega
  refine j_aload_n 19 rfl rfl dX4_turn_18 ?_
  refine j_iload_n 20 rfl rfl dX4_turn_19 ?_
  refine jV1i 23 rfl dX4_turn_20 lk_X4_180 rfl rfl (by decide) ( rfl) ( rfl) (s_findFitting (by omega) h) (fun x H1 ⟨q1, q2, q3, q4⟩ => ?_)
  subst q3
  refine j_istore_n 24 rfl st_8_3 (by decide) rfl dX4_turn_23 ?_
  refine j_iconst 25 rfl dX4_turn_24 ?_
  refine j_istore 27 rfl st_8_4 (by decide) rfl dX4_turn_25 ?_
  refine j_iconst 28 rfl dX4_turn_27 ?_
  refine j_istore 30 rfl st_8_5 (by decide) rfl dX4_turn_28 ?_
  refine j_iconst 31 rfl dX4_turn_30 ?_
  refine j_istore 33 rfl st_8_6 (by decide) rfl dX4_turn_31 ?_
  have loop := jUp 0 (H 1 3) (fun i => ∀ Hi ch le x7, ((∀ k, (k < 37 ∨ 53 < k) → Hi k = H k) ∧ (∃ l m, hold 37 Hi (kLaw (cfg H) b l m)) ∧ Hi 52 = H1 52 ∧ (∃ g : Int → Int, (∀ u, 0 ≤ u → u < i → isGa (gdB H b) (oT (cfg H) b s u) 41 (g u)) ∧ ((i = 0 ∧ ch = -1 ∧ le = 0) ∨ (isArg g i ch ∧ le = g ch)))) → jWP E mX4_turn (jQi fun r H' => CQ H H' ∧ ((¬ (0 ≤ b ∧ b < H 1 3 ∧ 0 ≤ s ∧ s < 60) ∧ r = -2) ∨ ((0 ≤ b ∧ b < H 1 3 ∧ 0 ≤ s ∧ s < 60) ∧ ∃ g : Int → Int, (∀ u, 0 ≤ u → u < H 1 3 → isGa (gdB H b) (oT (cfg H) b s u) 41 (g u)) ∧ isArg g (H 1 3) r))) 33 [some (jRF E 0), some (.int (jI b)), some (.int (jI s)), some (.int (jI (cntI (gdB H b) 41))), some (.int (jI ch)), some (.int (jI le)), some (.int (jI i)), x7] [] Hi) ?_ ?_ 0 (by omega) (by omega)
  · exact loop H1 (-1) 0 none ⟨fun k a => q1 k (by omega), q2, rfl, fun _ => 0, fun u a c => by omega, Or.inl ⟨rfl, rfl, rfl⟩⟩
  · rintro Hi ch le x7 ⟨p1, p2, p3, g, p4, p5⟩
    refine j_iload 35 rfl rfl dX4_turn_33 ?_
    refine j_aload_n 36 rfl rfl dX4_turn_35 ?_
    refine j_getr 39 rfl 0 fl_X4_12 dX4_turn_36 (by decide) ( rfl) ( rfl) ?_
    refine g_geti 42 rfl 3 3 rfl fl_X4_173 dX4_turn_39 (by decide) ( rfl) ( rfl) ?_
    rw [p1 1 (by decide)]
    refine j_icmp_ge 83 45 (by decide) rfl dX4_turn_42 (by intro hR; first | omega | exact hR _ _ | exact jb_r _ | exact hR0 _ _ | assumption) (by intro hR; first | omega | exact hR _ _ | exact jb_r _ | exact hR0 _ _ | assumption) (fun h2 => ?_) (fun h2 => ?_)
    · refine j_iload 85 rfl rfl dX4_turn_83 ?_
      refine j_ireti dX4_turn_85 rfl ?_
      refine ⟨cq_trial h (fun k a => p1 k (by omega)), Or.inr ⟨hok, g, p4, ?_⟩⟩
      rcases p5 with ⟨a, _⟩ | ⟨a, _⟩
      · omega
      · exact a
    · exfalso; omega
  · rintro i h0 h1 ih Hi ch le x7 ⟨p1, p2, p3, g, p4, p5⟩
    obtain ⟨l, m, hh⟩ := p2
    refine j_iload 35 rfl rfl dX4_turn_33 ?_
    refine j_aload_n 36 rfl rfl dX4_turn_35 ?_
    refine j_getr 39 rfl 0 fl_X4_12 dX4_turn_36 (by decide) ( rfl) ( rfl) ?_
    refine g_geti 42 rfl 3 3 rfl fl_X4_173 dX4_turn_39 (by decide) ( rfl) ( rfl) ?_
    rw [p1 1 (by decide)]
    refine j_icmp_ge 83 45 (by decide) rfl dX4_turn_42 (by intro hR; first | omega | exact hR _ _ | exact jb_r _ | exact hR0 _ _ | assumption) (by intro hR; first | omega | exact hR _ _ | exact jb_r _ | exact hR0 _ _ | assumption) (fun h2 => ?_) (fun h2 => ?_)
    · exfalso; omega
    · refine j_aload_n 46 rfl rfl dX4_turn_45 ?_
      refine j_iload_n 47 rfl rfl dX4_turn_46 ?_
      refine j_iload_n 48 rfl rfl dX4_turn_47 ?_
      refine j_iload 50 rfl rfl dX4_turn_48 ?_
      refine j_iload_n 51 rfl rfl dX4_turn_50 ?_
      refine jV4i 54 rfl dX4_turn_51 lk_X4_195 rfl rfl (by decide) ( rfl) ( rfl) (s_greatestAlike (by omega) (by omega) (by omega) h p1 hh (fun c c0 c1 c2 => by rw [p3]; exact q4 c c0 c1 c2)) (fun y H3 ⟨w1, w2, w3, w4⟩ => ?_)
      have hgr : ∀ u, 0 ≤ u → u < i → 0 ≤ g u ∧ g u ≤ 41 := fun u u0 u1 => by
        obtain ⟨z1, z2, z3⟩ := p4 u u0 u1
        refine ⟨z1, ?_⟩
        rcases z3 with z3 | ⟨q, _, _, z3⟩
        · omega
        · rw [← z3]; exact (cntI_r _ (by omega)).2
      have hyr : 0 ≤ y ∧ y ≤ 41 := by
        obtain ⟨z1, z2, z3⟩ := w1
        refine ⟨z1, ?_⟩
        rcases z3 with z3 | ⟨q, _, _, z3⟩
        · omega
        · rw [← z3]; exact (cntI_r _ (by omega)).2
      have hle : 0 ≤ le ∧ le ≤ 41 ∧ -1 ≤ ch ∧ ch < 9 := by
        rcases p5 with ⟨a1, a2, a3⟩ | ⟨a1, a2⟩
        · omega
        · have := hgr ch a1.1.1 a1.1.2
          have := a1.1
          omega
      obtain ⟨g', hg'⟩ : ∃ g' : Int → Int, g' = fun u => if u = i then y else g u := ⟨_, rfl⟩
      have hg'i : g' i = y := by rw [hg']; simp
      have hg'o : ∀ u, u ≠ i → g' u = g u := fun u hu => by rw [hg']; simp [hu]
      have hnew : ∀ u, 0 ≤ u → u < i + 1 → isGa (gdB H b) (oT (cfg H) b s u) 41 (g' u) := fun u u0 u1 => by
        by_cases e : u = i
        · subst e; rw [hg'i]; exact w1
        · rw [hg'o u e]; exact p4 u u0 (by omega)
      have take : (ch = -1 ∨ y < le) → isArg g' (i + 1) i ∧ y = g' i := fun hc => by
        refine ⟨⟨by omega, fun u u0 u1 => ?_, fun u u0 u1 => ?_⟩, hg'i.symm⟩
        · rw [hg'i]
          by_cases e : u = i
          · subst e; rw [hg'i]; exact Int.le_refl _
          · rw [hg'o u e]
            rcases p5 with ⟨a1, a2, a3⟩ | ⟨a1, a2⟩
            · omega
            · have := a1.2.1 u u0 (by omega)
              have := a1.1
              omega
        · rw [hg'i, hg'o u (by omega)]
          rcases p5 with ⟨a1, a2, a3⟩ | ⟨a1, a2⟩
          · omega
          · have := a1.2.1 u u0 u1
            have := a1.1
            omega
      have hinv : ∀ ch' le', ((isArg g' (i + 1) ch' ∧ le' = g' ch')) → ∀ x7', jWP E mX4_turn (jQi fun r H' => CQ H H' ∧ ((¬ (0 ≤ b ∧ b < H 1 3 ∧ 0 ≤ s ∧ s < 60) ∧ r = -2) ∨ ((0 ≤ b ∧ b < H 1 3 ∧ 0 ≤ s ∧ s < 60) ∧ ∃ g : Int → Int, (∀ u, 0 ≤ u → u < H 1 3 → isGa (gdB H b) (oT (cfg H) b s u) 41 (g u)) ∧ isArg g (H 1 3) r))) 77 [some (jRF E 0), some (.int (jI b)), some (.int (jI s)), some (.int (jI (cntI (gdB H b) 41))), some (.int (jI ch')), some (.int (jI le')), some (.int (jI i)), x7'] [] H3 := by
        intro ch' le' hc x7'
        refine j_iinc 80 rfl rfl st_8_6 (by decide) rfl dX4_turn_77 ?_
        refine j_goto 33 (by decide) dX4_turn_80 ?_
        exact ih H3 ch' le' x7' ⟨w2, w3, w4.trans p3, g', hnew, Or.inr hc⟩
      refine j_istore 56 rfl st_8_7 (by decide) rfl dX4_turn_54 ?_
      refine j_iload 58 rfl rfl dX4_turn_56 ?_
      refine j_iconst 59 rfl dX4_turn_58 ?_
      refine j_icmp_eq 69 62 (by decide) rfl dX4_turn_59 (by intro hR; first | omega | exact hR _ _ | exact jb_r _ | exact hR0 _ _ | assumption) (by intro hR; first | omega | exact hR _ _ | exact jb_r _ | exact hR0 _ _ | assumption) (fun h3 => ?_) (fun h3 => ?_)
      · refine j_iload 71 rfl rfl dX4_turn_69 ?_
        refine j_istore 73 rfl st_8_4 (by decide) rfl dX4_turn_71 ?_
        refine j_iload 75 rfl rfl dX4_turn_73 ?_
        refine j_istore 77 rfl st_8_5 (by decide) rfl dX4_turn_75 ?_
        exact hinv i y (take (Or.inl h3)) _
      · refine j_iload 64 rfl rfl dX4_turn_62 ?_
        refine j_iload 66 rfl rfl dX4_turn_64 ?_
        refine j_icmp_ge 77 69 (by decide) rfl dX4_turn_66 (by intro hR; first | omega | exact hR _ _ | exact jb_r _ | exact hR0 _ _ | assumption) (by intro hR; first | omega | exact hR _ _ | exact jb_r _ | exact hR0 _ _ | assumption) (fun h4 => ?_) (fun h4 => ?_)
        · refine hinv ch le ?_ _
          rcases p5 with ⟨a1, a2, a3⟩ | ⟨a1, a2⟩
          · exact absurd a2 h3
          · have hci := a1.1
            refine ⟨⟨by omega, fun u u0 u1 => ?_, fun u u0 u1 => ?_⟩, by rw [hg'o ch (by omega)]; exact a2⟩
            · rw [hg'o ch (by omega)]
              by_cases e : u = i
              · subst e; rw [hg'i]; omega
              · rw [hg'o u e]; exact a1.2.1 u u0 (by omega)
            · rw [hg'o ch (by omega), hg'o u (by omega)]
              exact a1.2.2 u u0 u1
        · refine j_iload 71 rfl rfl dX4_turn_69 ?_
          refine j_istore 73 rfl st_8_4 (by decide) rfl dX4_turn_71 ?_
          refine j_iload 75 rfl rfl dX4_turn_73 ?_
          refine j_istore 77 rfl st_8_5 (by decide) rfl dX4_turn_75 ?_
          exact hinv i y (take (Or.inr h4)) _
end S25
