/-! ===== class and reference; plain, find ===== -/
def shI (s : Int) (k l : Nat) : Prop := (s = 0 ∧ k = 14 ∧ l = 15) ∨ (s = 1 ∧ k = 16 ∧ l = 17) ∨ (s = 2 ∧ k = 18 ∧ l = 19) ∨ (s = 3 ∧ k = 20 ∧ l = 21)
def rText (H : jH) : Prop := H 56 6 = H 1 1 ∧ ∀ i, 0 ≤ i → i < H 1 1 → H 61 i = H 2 i
def rRow (H : jH) : Prop := ∀ p, 0 ≤ p → p < 9 → H 63 p = H 6 p
def rTold (H : jH) : Prop := H 56 12 = H 7 3 ∧ ∀ k, 0 ≤ k → k < H 7 3 → H 64 (3 * k) = H 8 k ∧ H 64 (3 * k + 1) = H 9 k ∧ H 64 (3 * k + 2) = H 10 k
def rHeard (H : jH) : Prop := H 56 26 = H 0 6 ∧ ∀ k, 0 ≤ k → k < H 0 6 → H 76 (2 * k) = H 11 k ∧ H 76 (2 * k + 1) = H 12 k
def rSheet (H : jH) : Prop := ∀ s k l, shI s k l → (H k 0 = 0 → H 57 s = H k 1 ∧ H 58 s = H k 2 ∧ ∀ i, 0 ≤ i → i < H k 2 → H 59 (60 * s + i) = H l i) ∧ (H k 0 ≠ 0 → H 57 s = -1) ∧ (0 ≤ H 58 s ∧ H 58 s ≤ 60)
def RX (H : jH) : Prop := rText H ∧ rRow H ∧ H 56 11 = H 0 2 ∧ rTold H ∧ rHeard H ∧ H 56 4 = H 0 8 ∧ mSh H
def RI (H : jH) : Prop := CI H ∧ RX H
/-- what a question to the reference leaves -/
def MZ (H H' : jH) : Prop := (∀ k, (k < 57 ∧ k ≠ 56) ∨ k = 57 ∨ k = 58 ∨ k = 59 ∨ k = 61 ∨ k = 63 ∨ k = 64 ∨ k = 76 → H' k = H k) ∧ (∀ j, j = 4 ∨ j = 6 ∨ j = 11 ∨ j = 12 ∨ j = 26 → H' 56 j = H 56 j)
theorem MZ.refl (H : jH) : MZ H H := ⟨fun _ _ => rfl, fun _ _ => rfl⟩
theorem MZ.trans {H H1 H2 : jH} (h : MZ H H1) (g : MZ H1 H2) : MZ H H2 := ⟨fun k a => (g.1 k a).trans (h.1 k a), fun j a => (g.2 j a).trans (h.2 j a)⟩
theorem MZ.same {H H' : jH} (h : MZ H H') : sameC H H' := ⟨fun k _ b => h.1 k (by omega), fun j _ => by rw [h.1 0 (by omega)]⟩
theorem MZ.ci {H H' : jH} (h : MZ H H') (c : CI H) : CI H' := by
  have h0 : H' 0 = H 0 := h.1 0 (by omega)
  refine ⟨base_eq (fun k a b => h.1 k (by omega)) (fun j _ => by rw [h0]) c.1, ?_⟩
  unfold cacheOk
  rw [h.same.cfg, h0, h.1 31 (by omega), h.1 32 (by omega)]
  exact c.2
theorem MZ.rx {H H' : jH} (h : MZ H H') (c : RX H) : RX H' := by
  obtain ⟨c1, c2, c3, c4, c5, c6, c7⟩ := c
  refine ⟨?_, ?_, ?_, ?_, ?_, ?_, fun s s0 s1 => ?_⟩
  · unfold rText; rw [h.2 6 (by omega), h.1 1 (by omega), h.1 61 (by omega), h.1 2 (by omega)]; exact c1
  · unfold rRow; rw [h.1 63 (by omega), h.1 6 (by omega)]; exact c2
  · rw [h.2 11 (by omega), h.1 0 (by omega)]; exact c3
  · unfold rTold; rw [h.2 12 (by omega), h.1 7 (by omega), h.1 64 (by omega), h.1 8 (by omega), h.1 9 (by omega), h.1 10 (by omega)]; exact c4
  · unfold rHeard; rw [h.2 26 (by omega), h.1 0 (by omega), h.1 76 (by omega), h.1 11 (by omega), h.1 12 (by omega)]; exact c5
  · rw [h.2 4 (by omega), h.1 0 (by omega)]; exact c6
  · rw [h.1 57 (by omega), h.1 58 (by omega)]
    exact c7 s s0 s1
theorem MZ.sh {H H' : jH} (h : MZ H H') (c : rSheet H) : rSheet H' := fun s k l hs => by
  rw [h.1 k (by unfold shI at hs; omega), h.1 l (by unfold shI at hs; omega), h.1 57 (by omega), h.1 58 (by omega), h.1 59 (by omega)]
  exact c s k l hs
theorem MZ.ri {H H' : jH} (h : MZ H H') (c : RI H) : RI H' := ⟨h.ci c.1, h.rx c.2⟩
def mB (H : jH) : Prop := H 56 8 = H 1 3 ∧ ∀ b, 0 ≤ b → b < H 1 3 → H 62 (3 * b) = H 3 b ∧ H 62 (3 * b + 1) = H 4 b ∧ H 62 (3 * b + 2) = H 5 b
/-- the reference has found what was told -/
def arr (H K : jH) : Prop := ∀ t, 0 ≤ t → t < 60 → H 66 t = pO K t ∧ H 67 t = pU K t ∧ ∀ b, 0 ≤ b → b < K 0 0 → H 68 (9 * t + b) = pL K t b
def FD (H : jH) : Prop := RI H ∧ holdM H (cfg H) ∧ mB H ∧ arr H (cfg H)
theorem RI.n {H : jH} (h : RI H) : 0 ≤ H 1 3 ∧ H 1 3 ≤ 9 := parsed_n h.1.1.1 h.1.1.2.1
theorem RI.ok {H : jH} (h : RI H) : cOk (cfg H) := cfg_ok h.1.1
section S37
variable {E : jE} {H K : jH}
/-- reads, by class and reference -/
theorem r_reads (h : RI H) : jOk E mX5_reads [jRF E 56] H (jQi fun r H' => MZ H H' ∧ r = H 1 2 ∧ mB H' ∧ (∀ k, k ≠ 56 → k ≠ 62 → H' k = H k) ∧ H' 56 21 = H 56 21) := by
  obtain ⟨⟨⟨b1, b2, _⟩, _⟩, ⟨⟨c1, c2⟩, _⟩⟩ := h
  refine (m_reads (by rw [c1]; exact b1.1)).moni (fun r H' q => ?_)
  obtain ⟨f, q1, q2, q3⟩ := q
  rw [c1] at q1 q2 q3
  have er : r = H 1 2 := isFt_one (isFt_cong c2 q1) b2.1
  have hmq : MZ H H' := ⟨fun k a => f.1 k (by omega) (by omega), fun j a => f.2 j (by omega) (by omega)⟩
  have e1 : H' 1 = H 1 := f.1 1 (by decide) (by decide)
  refine ⟨hmq, er, ⟨?_, fun b x0 x1 => ?_⟩, f.1, f.2 21 (by decide) (by decide)⟩
  · rw [q2, er, e1]; exact b2.2.1.symm
  · rw [e1] at x1
    obtain ⟨p1, p2, p3⟩ := b2
    have hf : H 1 2 = -1 := by
      by_cases z : H 1 2 = -1
      · exact z
      · rw [if_neg z] at p2; omega
    rw [hf] at p2
    rw [if_pos rfl] at p2
    obtain ⟨d1, d2, d3⟩ := p3 b x0 x1
    have w := q3 (er.trans hf) b x0 (by omega)
    have hn := b1.1
    rw [f.1 3 (by decide) (by decide), f.1 4 (by decide) (by decide), f.1 5 (by decide) (by decide), d1, d2, d3]
    refine ⟨?_, ?_, ?_⟩
    · have := w 0 (by omega) (by omega)
      rw [Int.add_zero, Int.add_zero, c2 (4 * b) (by omega) (by omega)] at this
      exact this
    · have := w 1 (by omega) (by omega)
      rw [c2 (4 * b + 1) (by omega) (by omega)] at this
      exact this
    · have := w 2 (by omega) (by omega)
      rw [c2 (4 * b + 2) (by omega) (by omega)] at this
      exact this
-- X5_plain
set_option maxHeartbeats 1000000 in
theorem m_plain (h : RI H) : jOk E mX5_plain [jRF E 56] H (jQv fun H' => MZ H H' ∧ mB H' ∧ holdM H' (cfg H) ∧ ∀ k, k ≠ 56 → k ≠ 62 → k ≠ 65 → k ≠ 69 → k ≠ 70 → k ≠ 71 → H' k = H k) := by
  have hn := h.n
  have ok := h.ok
  have hrow := h.1.1.2.2.1
  have htd := h.1.1.2.2.2.2.1
  obtain ⟨c1, c2, c3, c4, c5, c6, c7⟩ := h.2
  have hrr : ∀ p, 0 ≤ p → p < 9 → 0 ≤ H 63 p ∧ H 63 p ≤ 8 := fun p p0 p1 => by rw [c2 p p0 p1]; exact hrow.1.1 p p0 p1
  refine jOk.rng (fun hR0 => ?_)
  refine jOk.ofe rfl (Nat.le_of_ble_eq_true rfl) (en_a_2 (E := E)) ?_
  refine j_aload_n 1 rfl rfl dX5_plain_0 ?_
  refine jV0i 4 rfl dX5_plain_1 lk_X5_126 rfl rfl (by decide) ( rfl) ( rfl) (r_reads h) (fun r1 H1 ⟨mq1, _, mb1, f1, e21⟩ => ?_)
  refine jWP.rng (fun hR1 => ?_)
  have ht24 := htd.1
  have e63 : H1 63 = H 63 := f1 63 (by decide) (by decide)
  have e64 : H1 64 = H 64 := f1 64 (by decide) (by decide)
  have e11 : H1 56 11 = H 0 2 := by rw [mq1.2 11 (by omega)]; exact c3
  have e12 : H1 56 12 = H 7 3 := by rw [mq1.2 12 (by omega)]; exact c4.1
  have e8 : H1 56 8 = H 1 3 := by rw [mb1.1, f1 1 (by decide) (by decide)]
  have p3 : pr H1 69 63 9 63 = H 63 := by rw [pr_o _ (by decide)]; exact e63
  -- the tellings
  obtain ⟨G, hG⟩ : ∃ G, G = jMp (jMp (pr H1 69 63 9) 70 (H 1 3) (fun b => H1 62 (3 * b))) 71 (H 1 3) (fun b => H1 62 (3 * b + 1)) := ⟨_, rfl⟩
  have fG : ∀ k, k ≠ 69 → k ≠ 70 → k ≠ 71 → G k = H1 k := fun k a b c => by rw [hG, jMp_o c, jMp_o b, pr_o _ a]
  have l4 := jUp 0 (H 7 3) (fun k => ∀ Hi, (∀ q, q ≠ 65 → q ≠ 56 → Hi q = G q) → (∀ j, j ≠ 21 → Hi 56 j = G 56 j) → Hi 56 21 = H 0 2 → (∀ t a, 0 ≤ t → t < 60 → 0 ≤ a → a < 3 → Hi 65 (3 * t + a) = tm (H 8) (H 9) (H 10) a t k) → jWP E mX5_plain (jQv fun H' => MZ H H' ∧ mB H' ∧ holdM H' (cfg H) ∧ ∀ k, k ≠ 56 → k ≠ 62 → k ≠ 65 → k ≠ 69 → k ≠ 70 → k ≠ 71 → H' k = H k) 109 [some (jRF E 56), some (.int (jI k))] [] Hi) ?_ ?_ 0 (by omega) (by omega)
  · -- the lines before
    have l3 := jUp 0 180 (fun k => jWP E mX5_plain (jQv fun H' => MZ H H' ∧ mB H' ∧ holdM H' (cfg H) ∧ ∀ k, k ≠ 56 → k ≠ 62 → k ≠ 65 → k ≠ 69 → k ≠ 70 → k ≠ 71 → H' k = H k) 87 [some (jRF E 56), some (.int (jI k))] [] (jMp (jU G 56 21 (H 0 2)) 65 k (fun _ => 0))) ?_ ?_ 0 (by omega) (by omega)
    · rw [jMp_0] at l3
      have l2 := jUp 0 (H 1 3) (fun b => jWP E mX5_plain (jQv fun H' => MZ H H' ∧ mB H' ∧ holdM H' (cfg H) ∧ ∀ k, k ≠ 56 → k ≠ 62 → k ≠ 65 → k ≠ 69 → k ≠ 70 → k ≠ 71 → H' k = H k) 33 [some (jRF E 56), some (.int (jI b))] [] (jMp (jMp (pr H1 69 63 9) 70 b (fun b => H1 62 (3 * b))) 71 b (fun b => H1 62 (3 * b + 1)))) ?_ ?_ 0 (by omega) (by omega)
      · rw [jMp_0, jMp_0] at l2
        have l1 := jUp 0 9 (fun p => jWP E mX5_plain (jQv fun H' => MZ H H' ∧ mB H' ∧ holdM H' (cfg H) ∧ ∀ k, k ≠ 56 → k ≠ 62 → k ≠ 65 → k ≠ 69 → k ≠ 70 → k ≠ 71 → H' k = H k) 7 [some (jRF E 56), some (.int (jI p))] [] (pr H1 69 63 p)) ?_ ?_ 0 (by omega) (by omega)
        · rw [pr_0] at l1
          refine j_pop 5 rfl rfl dX5_plain_4 ?_
          refine j_iconst 6 rfl dX5_plain_5 ?_
          refine j_istore_n 7 rfl st_2_1 (by decide) rfl dX5_plain_6 ?_
          exact l1
        · refine j_iload_n 8 rfl rfl dX5_plain_7 ?_
          refine j_bipush 10 rfl rfl dX5_plain_8 ?_
          refine j_icmp_ge 31 13 (by decide) rfl dX5_plain_10 (by intro hR; first | omega | exact hR _ _ | exact jb_r _ | exact hR0 _ _ | assumption) (by intro hR; first | omega | exact hR _ _ | exact jb_r _ | exact hR0 _ _ | assumption) (fun h1 => ?_) (fun h1 => ?_)
          · refine j_iconst 32 rfl dX5_plain_31 ?_
            refine j_istore_n 33 rfl st_2_1 (by decide) rfl dX5_plain_32 ?_
            exact l2
          · exfalso; omega
        · intro p p0 p1 ih
          rw [pr_s _ _ _ p0] at ih
          have e := hrr p p0 p1
          refine j_iload_n 8 rfl rfl dX5_plain_7 ?_
          refine j_bipush 10 rfl rfl dX5_plain_8 ?_
          refine j_icmp_ge 31 13 (by decide) rfl dX5_plain_10 (by intro hR; first | omega | exact hR _ _ | exact jb_r _ | exact hR0 _ _ | assumption) (by intro hR; first | omega | exact hR _ _ | exact jb_r _ | exact hR0 _ _ | assumption) (fun h1 => ?_) (fun h1 => ?_)
          · exfalso; omega
          · refine j_aload_n 14 rfl rfl dX5_plain_13 ?_
            refine j_getr 17 rfl 18 fl_X5_46 dX5_plain_14 (by decide) ( rfl) ( rfl) ?_
            refine j_aload_n 18 rfl rfl dX5_plain_17 ?_
            refine j_getr 21 rfl 10 fl_X5_28 dX5_plain_18 (by decide) ( rfl) ( rfl) ?_
            refine j_iload_n 22 rfl rfl dX5_plain_21 ?_
            refine j_iald 23 rfl dX5_plain_22 (by decide) rfl (by decide) rfl (by omega) ?_
            rw [pr_o _ (by decide), e63] at *
            refine j_iload_n 24 rfl rfl dX5_plain_23 ?_
            refine j_iast 25 rfl dX5_plain_24 (by decide) rfl (by decide) rfl (by omega) (by intro hR; first | omega | exact hR _ _ | exact jb_r _ | exact hR0 _ _ | assumption) ?_
            refine j_iinc 28 rfl rfl st_2_1 (by decide) rfl dX5_plain_25 ?_
            refine j_goto 7 (by decide) dX5_plain_28 ?_
            exact ih
      · rw [← hG]
        refine j_iload_n 34 rfl rfl dX5_plain_33 ?_
        refine j_aload_n 35 rfl rfl dX5_plain_34 ?_
        refine g_geti 38 rfl 8 8 rfl fl_X5_109 dX5_plain_35 (by decide) ( rfl) ( rfl) ?_
        rw [fG 56 (by decide) (by decide) (by decide), e8]
        refine j_icmp_ge 77 41 (by decide) rfl dX5_plain_38 (by intro hR; first | omega | exact hR _ _ | exact jb_r _ | exact hR0 _ _ | assumption) (by intro hR; first | omega | exact hR _ _ | exact jb_r _ | exact hR0 _ _ | assumption) (fun h1 => ?_) (fun h1 => ?_)
        · refine j_aload_n 78 rfl rfl dX5_plain_77 ?_
          refine j_aload_n 79 rfl rfl dX5_plain_78 ?_
          refine g_geti 82 rfl 11 11 rfl fl_X5_142 dX5_plain_79 (by decide) ( rfl) ( rfl) ?_
          rw [fG 56 (by decide) (by decide) (by decide), e11]
          refine g_puti 85 rfl 21 21 rfl fl_X5_154 ft_5_21 dX5_plain_82 (by decide) ( rfl) ( rfl) (by intro hR; first | omega | exact hR _ _ | exact jb_r _ | exact hR0 _ _ | assumption) ?_
          refine j_iconst 86 rfl dX5_plain_85 ?_
          refine j_istore_n 87 rfl st_2_1 (by decide) rfl dX5_plain_86 ?_
          exact l3
        · exfalso; omega
      · intro b b0 b1 ih
        have e : jMp (jMp (pr H1 69 63 9) 70 (b + 1) (fun b => H1 62 (3 * b))) 71 (b + 1) (fun b => H1 62 (3 * b + 1)) = jU (jU (jMp (jMp (pr H1 69 63 9) 70 b (fun b => H1 62 (3 * b))) 71 b (fun b => H1 62 (3 * b + 1))) 70 b (H1 62 (3 * b))) 71 b (H1 62 (3 * b + 1)) := by
          have q1 := jMp_s (pr H1 69 63 9) 70 (fun b => H1 62 (3 * b)) b0
          rw [← q1, ← jMp_s _ 71 _ b0]
          congr 1
          funext k i
          unfold jMp jU
          dsimp only
          by_cases z : k = 71
          · subst z
            rw [if_neg (c := (71 : Nat) = 70 ∧ i = b) (fun z => by omega), if_neg (c := (71 : Nat) = 70 ∧ i = b) (fun z => by omega)]
          · rw [if_neg (c := k = 71 ∧ 0 ≤ i ∧ i < b) (fun q => z q.1), if_neg (c := k = 71 ∧ 0 ≤ i ∧ i < b) (fun q => z q.1)]
        rw [e] at ih
        have w1 := hR1 62 (3 * b)
        have w2 := hR1 62 (3 * b + 1)
        have o62 : (jMp (jMp (pr H1 69 63 9) 70 b (fun b => H1 62 (3 * b))) 71 b (fun b => H1 62 (3 * b + 1))) 62 = H1 62 := by rw [jMp_o (by decide), jMp_o (by decide), pr_o _ (by decide)]
        refine j_iload_n 34 rfl rfl dX5_plain_33 ?_
        refine j_aload_n 35 rfl rfl dX5_plain_34 ?_
        refine g_geti 38 rfl 8 8 rfl fl_X5_109 dX5_plain_35 (by decide) ( rfl) ( rfl) ?_
        rw [jMp_k (by decide), jMp_k (by decide), pr_o _ (by decide), e8]
        refine j_icmp_ge 77 41 (by decide) rfl dX5_plain_38 (by intro hR; first | omega | exact hR _ _ | exact jb_r _ | exact hR0 _ _ | assumption) (by intro hR; first | omega | exact hR _ _ | exact jb_r _ | exact hR0 _ _ | assumption) (fun h1 => ?_) (fun h1 => ?_)
        · exfalso; omega
        · refine j_aload_n 42 rfl rfl dX5_plain_41 ?_
          refine j_getr 45 rfl 19 fl_X5_49 dX5_plain_42 (by decide) ( rfl) ( rfl) ?_
          refine j_iload_n 46 rfl rfl dX5_plain_45 ?_
          refine j_aload_n 47 rfl rfl dX5_plain_46 ?_
          refine j_getr 50 rfl 9 fl_X5_25 dX5_plain_47 (by decide) ( rfl) ( rfl) ?_
          refine j_iconst 51 rfl dX5_plain_50 ?_
          refine j_iload_n 52 rfl rfl dX5_plain_51 ?_
          refine j_imul 53 rfl dX5_plain_52 ?_
          refine j_iald 54 rfl dX5_plain_53 (by decide) rfl (by decide) rfl (by omega) ?_
          rw [o62]
          refine j_iast 55 rfl dX5_plain_54 (by decide) rfl (by decide) rfl (by omega) (by intro hR; first | omega | exact hR _ _ | exact jb_r _ | exact hR0 _ _ | assumption) ?_
          refine j_aload_n 56 rfl rfl dX5_plain_55 ?_
          refine j_getr 59 rfl 20 fl_X5_52 dX5_plain_56 (by decide) ( rfl) ( rfl) ?_
          refine j_iload_n 60 rfl rfl dX5_plain_59 ?_
          refine j_aload_n 61 rfl rfl dX5_plain_60 ?_
          refine j_getr 64 rfl 9 fl_X5_25 dX5_plain_61 (by decide) ( rfl) ( rfl) ?_
          refine j_iconst 65 rfl dX5_plain_64 ?_
          refine j_iload_n 66 rfl rfl dX5_plain_65 ?_
          refine j_imul 67 rfl dX5_plain_66 ?_
          refine j_iconst 68 rfl dX5_plain_67 ?_
          refine j_iadd 69 rfl dX5_plain_68 ?_
          refine j_iald 70 rfl dX5_plain_69 (by decide) rfl (by decide) rfl (by omega) ?_
          try simp (disch := omega) only [jU_s, jU_k, jU_i]
          try simp (disch := omega) only [jU_k]
          rw [o62]
          refine j_iast 71 rfl dX5_plain_70 (by decide) rfl (by decide) rfl (by omega) (by intro hR; first | omega | exact hR _ _ | exact jb_r _ | exact hR0 _ _ | assumption) ?_
          refine j_iinc 74 rfl rfl st_2_1 (by decide) rfl dX5_plain_71 ?_
          refine j_goto 33 (by decide) dX5_plain_74 ?_
          exact ih
    · refine j_iload_n 88 rfl rfl dX5_plain_87 ?_
      refine j_sipush 91 rfl rfl dX5_plain_88 ?_
      refine j_icmp_ge 107 94 (by decide) rfl dX5_plain_91 (by intro hR; first | omega | exact hR _ _ | exact jb_r _ | exact hR0 _ _ | assumption) (by intro hR; first | omega | exact hR _ _ | exact jb_r _ | exact hR0 _ _ | assumption) (fun h1 => ?_) (fun h1 => ?_)
      · refine j_iconst 108 rfl dX5_plain_107 ?_
        refine j_istore_n 109 rfl st_2_1 (by decide) rfl dX5_plain_108 ?_
        refine l4 _ (fun q a b => by rw [jMp_o a, jU_o b]) (fun j a => by rw [jMp_k (by decide), jU_i a]) (by rw [jMp_k (by decide), jU_s]) (fun t a t0 t1 a0 a1 => ?_)
        rw [jMp_i (by omega) (by omega)]
        rfl
      · exfalso; omega
    · intro k k0 k1 ih
      rw [← jMp_s _ 65 _ k0] at ih
      refine j_iload_n 88 rfl rfl dX5_plain_87 ?_
      refine j_sipush 91 rfl rfl dX5_plain_88 ?_
      refine j_icmp_ge 107 94 (by decide) rfl dX5_plain_91 (by intro hR; first | omega | exact hR _ _ | exact jb_r _ | exact hR0 _ _ | assumption) (by intro hR; first | omega | exact hR _ _ | exact jb_r _ | exact hR0 _ _ | assumption) (fun h1 => ?_) (fun h1 => ?_)
      · exfalso; omega
      · refine j_aload_n 95 rfl rfl dX5_plain_94 ?_
        refine j_getr 98 rfl 14 fl_X5_34 dX5_plain_95 (by decide) ( rfl) ( rfl) ?_
        refine j_iload_n 99 rfl rfl dX5_plain_98 ?_
        refine j_iconst 100 rfl dX5_plain_99 ?_
        refine j_iast 101 rfl dX5_plain_100 (by decide) rfl (by decide) rfl (by omega) (by intro hR; first | omega | exact hR _ _ | exact jb_r _ | exact hR0 _ _ | assumption) ?_
        refine j_iinc 104 rfl rfl st_2_1 (by decide) rfl dX5_plain_101 ?_
        refine j_goto 87 (by decide) dX5_plain_104 ?_
        exact ih
  · intro Hi g1 g2 g3 g4
    have g12 : Hi 56 12 = H 7 3 := by rw [g2 12 (by decide), fG 56 (by decide) (by decide) (by decide)]; exact e12
    refine j_iload_n 110 rfl rfl dX5_plain_109 ?_
    refine j_aload_n 111 rfl rfl dX5_plain_110 ?_
    refine g_geti 114 rfl 12 12 rfl fl_X5_148 dX5_plain_111 (by decide) ( rfl) ( rfl) ?_
    rw [g12]
    refine j_icmp_ge 164 117 (by decide) rfl dX5_plain_114 (by intro hR; first | omega | exact hR _ _ | exact jb_r _ | exact hR0 _ _ | assumption) (by intro hR; first | omega | exact hR _ _ | exact jb_r _ | exact hR0 _ _ | assumption) (fun h1 => ?_) (fun h1 => ?_)
    · refine j_vretv dX5_plain_164 rfl ?_
      have f3 : ∀ k, k ≠ 56 → k ≠ 62 → k ≠ 65 → k ≠ 69 → k ≠ 70 → k ≠ 71 → Hi k = H k := fun k a1 a2 a3 a4 a5 a6 => by rw [g1 k a3 a1, fG k a4 a5 a6]; exact f1 k a1 a2
      have e62 : Hi 62 = H1 62 := by rw [g1 62 (by decide) (by decide), fG 62 (by decide) (by decide) (by decide)]
      have mb : mB Hi := by
        obtain ⟨w1, w2⟩ := mb1
        unfold mB
        rw [g2 8 (by decide), fG 56 (by decide) (by decide) (by decide), e62, g1 1 (by decide) (by decide), g1 3 (by decide) (by decide), g1 4 (by decide) (by decide), g1 5 (by decide) (by decide), fG 1 (by decide) (by decide) (by decide), fG 3 (by decide) (by decide) (by decide), fG 4 (by decide) (by decide) (by decide), fG 5 (by decide) (by decide) (by decide)]
        exact ⟨w1, w2⟩
      refine ⟨⟨fun k a => f3 k (by omega) (by omega) (by omega) (by omega) (by omega) (by omega), fun j a => ?_⟩, mb, ⟨?_, g3, fun b b0 b1 => ?_, fun t t0 t1 => ?_⟩, f3⟩
      · rw [g2 j (by omega), fG 56 (by decide) (by decide) (by decide)]; exact mq1.2 j a
      · rw [mb.1, f3 1 (by decide) (by decide) (by decide) (by decide) (by decide) (by decide)]; rfl
      · have b1' : b < H 1 3 := b1
        obtain ⟨w1, w2, w3⟩ := mb.2 b b0 (by rw [f3 1 (by decide) (by decide) (by decide) (by decide) (by decide) (by decide)]; exact b1)
        rw [f3 3 (by decide) (by decide) (by decide) (by decide) (by decide) (by decide), e62] at w1
        rw [f3 4 (by decide) (by decide) (by decide) (by decide) (by decide) (by decide), e62] at w2
        rw [f3 5 (by decide) (by decide) (by decide) (by decide) (by decide) (by decide)] at w3
        refine ⟨?_, ?_, w3, ?_⟩
        · rw [g1 70 (by decide) (by decide), hG, jMp_k (by decide), jMp_i b0 b1']; exact w1
        · rw [g1 71 (by decide) (by decide), hG, jMp_i b0 b1']; exact w2
        · rw [g1 69 (by decide) (by decide), hG, jMp_k (by decide), jMp_k (by decide)]
          have hr := rinv_r hrow b0 (show b < 9 by omega)
          have := pr_p H1 (k := 69) (rk := 63) (fun a c a0 a1 x0 x1 e => hrow.1.2 a c a0 a1 x0 x1 (by rw [← c2 a a0 a1, ← c2 c x0 x1, ← e63]; exact e)) 9 (by omega) (rinv (H 6) b) hr.1.1 (by omega)
          rw [e63, c2 _ hr.1.1 (by omega), hr.2] at this
          exact this
      · have w0 := g4 t 0 t0 t1 (by omega) (by omega)
        rw [Int.add_zero] at w0
        exact ⟨w0, g4 t 1 t0 t1 (by omega) (by omega), g4 t 2 t0 t1 (by omega) (by omega)⟩
    · exfalso; omega
  · intro k k0 k1 ih Hi g1 g2 g3 g4
    have g12 : Hi 56 12 = H 7 3 := by rw [g2 12 (by decide), fG 56 (by decide) (by decide) (by decide)]; exact e12
    have h64 : Hi 64 = H 64 := by rw [g1 64 (by decide) (by decide), fG 64 (by decide) (by decide) (by decide)]; exact e64
    obtain ⟨d1, d2, d3⟩ := c4.2 k k0 k1
    obtain ⟨r1, r2, r3⟩ := htd.2 k k0 k1
    have ht24 := htd.1
    refine j_iload_n 110 rfl rfl dX5_plain_109 ?_
    refine j_aload_n 111 rfl rfl dX5_plain_110 ?_
    refine g_geti 114 rfl 12 12 rfl fl_X5_148 dX5_plain_111 (by decide) ( rfl) ( rfl) ?_
    rw [g12]
    refine j_icmp_ge 164 117 (by decide) rfl dX5_plain_114 (by intro hR; first | omega | exact hR _ _ | exact jb_r _ | exact hR0 _ _ | assumption) (by intro hR; first | omega | exact hR _ _ | exact jb_r _ | exact hR0 _ _ | assumption) (fun h1 => ?_) (fun h1 => ?_)
    · exfalso; omega
    · refine j_aload_n 118 rfl rfl dX5_plain_117 ?_
      refine j_getr 121 rfl 14 fl_X5_34 dX5_plain_118 (by decide) ( rfl) ( rfl) ?_
      refine j_iconst 122 rfl dX5_plain_121 ?_
      refine j_aload_n 123 rfl rfl dX5_plain_122 ?_
      refine j_getr 126 rfl 13 fl_X5_31 dX5_plain_123 (by decide) ( rfl) ( rfl) ?_
      refine j_iconst 127 rfl dX5_plain_126 ?_
      refine j_iload_n 128 rfl rfl dX5_plain_127 ?_
      refine j_imul 129 rfl dX5_plain_128 ?_
      refine j_iald 130 rfl dX5_plain_129 (by decide) rfl (by decide) rfl (by omega) ?_
      rw [h64, d1]
      refine j_imul 131 rfl dX5_plain_130 ?_
      refine j_aload_n 132 rfl rfl dX5_plain_131 ?_
      refine j_getr 135 rfl 13 fl_X5_31 dX5_plain_132 (by decide) ( rfl) ( rfl) ?_
      refine j_iconst 136 rfl dX5_plain_135 ?_
      refine j_iload_n 137 rfl rfl dX5_plain_136 ?_
      refine j_imul 138 rfl dX5_plain_137 ?_
      refine j_iconst 139 rfl dX5_plain_138 ?_
      refine j_iadd 140 rfl dX5_plain_139 ?_
      refine j_iald 141 rfl dX5_plain_140 (by decide) rfl (by decide) rfl (by omega) ?_
      rw [h64, d3]
      refine j_iadd 142 rfl dX5_plain_141 ?_
      refine j_dup2 143 rfl rfl rfl dX5_plain_142 ?_
      refine j_iald 144 rfl dX5_plain_143 (by decide) rfl (by decide) rfl (by omega) ?_
      rw [g4 (H 8 k) (H 10 k) (by omega) (by omega) (by omega) (by omega)]
      refine j_iconst 145 rfl dX5_plain_144 ?_
      refine j_aload_n 146 rfl rfl dX5_plain_145 ?_
      refine j_getr 149 rfl 13 fl_X5_31 dX5_plain_146 (by decide) ( rfl) ( rfl) ?_
      refine j_iconst 150 rfl dX5_plain_149 ?_
      refine j_iload_n 151 rfl rfl dX5_plain_150 ?_
      refine j_imul 152 rfl dX5_plain_151 ?_
      refine j_iconst 153 rfl dX5_plain_152 ?_
      refine j_iadd 154 rfl dX5_plain_153 ?_
      refine j_iald 155 rfl dX5_plain_154 (by decide) rfl (by decide) rfl (by omega) ?_
      rw [h64, d2]
      refine k_ishl 156 rfl dX5_plain_155 ?_
      refine k_ior 157 rfl dX5_plain_156 ?_
      refine j_iast 158 rfl dX5_plain_157 (by decide) rfl (by decide) rfl (by omega) (by intro _; exact jb_r _) ?_
      refine j_iinc 161 rfl rfl st_2_1 (by decide) rfl dX5_plain_158 ?_
      refine j_goto 109 (by decide) dX5_plain_161 ?_
      refine ih _ (fun q a b => by rw [jU_o a]; exact g1 q a b) (fun j a => by rw [jU_k (by decide)]; exact g2 j a) (by rw [jU_k (by decide)]; exact g3) (fun t a t0 t1 a0 a1 => ?_)
      unfold tm
      rw [show (k + 1).toNat = k.toNat + 1 by omega, tmN, Int.toNat_of_nonneg k0]
      by_cases e : H 10 k = a ∧ H 8 k = t
      · rw [if_pos e, ← e.1, ← e.2, jU_s]
        try rfl
      · rw [if_neg e, jU_i (by omega)]
        exact g4 t a t0 t1 a0 a1
-- X5_find
theorem m_find5 (h : RI H) : jOk E mX5_find [jRF E 56] H (jQv fun H' => MZ H H' ∧ FD H' ∧ H' 75 = H 75) := by
  refine jOk.rng (fun hR0 => ?_)
  refine jOk.ofe rfl (Nat.le_of_ble_eq_true rfl) (en_a_1 (E := E)) ?_
  refine j_aload_n 1 rfl rfl dX5_find_0 ?_
  refine jV0v 4 rfl dX5_find_1 lk_X5_176 rfl rfl (by decide) ( rfl) ( rfl) (m_plain h) (fun H1 ⟨mq, mb, hm, fp⟩ => ?_)
  have h1 := mq.ri h
  refine j_aload_n 5 rfl rfl dX5_find_4 ?_
  refine j_bipush 7 rfl rfl dX5_find_5 ?_
  refine jV1v 10 rfl dX5_find_7 lk_X5_179 rfl rfl (by decide) ( rfl) ( rfl) (m_lives (by omega) hm h.ok) (fun H2 ⟨f2, a2⟩ => ?_)
  refine j_vretv dX5_find_10 rfl ?_
  have mq2 : MZ H1 H2 := ⟨fun k a => f2 k (by omega) (by omega) (by omega) (by omega) (by omega), fun j a => by rw [f2 56 (by decide) (by decide) (by decide) (by decide) (by decide)]⟩
  have mq3 := mq.trans mq2
  refine ⟨mq3, ⟨mq2.ri h1, ?_, ?_, ?_⟩, by rw [f2 75 (by decide) (by decide) (by decide) (by decide) (by decide)]; exact fp 75 (by decide) (by decide) (by decide) (by decide) (by decide) (by decide)⟩
  · rw [mq3.same.cfg]
    exact hm.cong (fun k a => f2 k (by omega) (by omega) (by omega) (by omega) (by omega))
  · unfold mB
    rw [f2 56 (by decide) (by decide) (by decide) (by decide) (by decide), f2 62 (by decide) (by decide) (by decide) (by decide) (by decide), f2 1 (by decide) (by decide) (by decide) (by decide) (by decide), f2 3 (by decide) (by decide) (by decide) (by decide) (by decide), f2 4 (by decide) (by decide) (by decide) (by decide) (by decide), f2 5 (by decide) (by decide) (by decide) (by decide) (by decide)]
    exact mb
  · rw [mq3.same.cfg]
    exact fun t t0 t1 => a2 t t0 (by omega)
theorem m_find (h : RI H) : jOk E mX5_find [jRF E 56] H (jQv fun H' => MZ H H' ∧ FD H') := (m_find5 h).monv (fun _ q => ⟨q.1, q.2.1⟩)
end S37
