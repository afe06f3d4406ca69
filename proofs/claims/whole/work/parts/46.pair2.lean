/-! ===== class and reference side by side: what changes them ===== -/
def aTxt (H : jH) : Prop := txtOk H ∧ parsed H ∧ rText H
def aRow (H : jH) : Prop := rowOk H 6 ∧ rRow H
def aLid (H : jH) : Prop := (0 ≤ H 0 2 ∧ H 0 2 < 512) ∧ H 56 11 = H 0 2
def aTold (H : jH) : Prop := jTold H ∧ rTold H
def aHear (H : jH) : Prop := hearOk H ∧ rHeard H
def aLat (H : jH) : Prop := H 56 4 = H 0 8
def aSh (H : jH) : Prop := shOk H ∧ mSh H ∧ rSheet H
theorem REL.mk {H : jH} (a1 : aTxt H) (a2 : aRow H) (a3 : aLid H) (a4 : aTold H) (a5 : aHear H) (a6 : aLat H) (a7 : aSh H) (a8 : cacheOk H) : REL H :=
  ⟨⟨⟨⟨a1.1, a1.2.1, a2.1, a3.1, a4.1, a5.1, a7.1⟩, a8⟩, a1.2.2, a2.2, a3.2, a4.2, a5.2, a6, a7.2.1⟩, a7.2.2⟩
theorem REL.parts {H : jH} (h : REL H) : aTxt H ∧ aRow H ∧ aLid H ∧ aTold H ∧ aHear H ∧ aLat H ∧ aSh H ∧ cacheOk H := by
  obtain ⟨⟨⟨⟨b1, b2, b3, b4, b5, b6, b7⟩, b8⟩, c1, c2, c3, c4, c5, c6, c7⟩, c8⟩ := h
  exact ⟨⟨b1, b2, c1⟩, ⟨b3, c2⟩, ⟨b4, c3⟩, ⟨b5, c4⟩, ⟨b6, c5⟩, c6, ⟨b7, c7, c8⟩, b8⟩
theorem aTxt.c {H H' : jH} (h : aTxt H) (f : ∀ k, (k = 1 ∨ k = 2 ∨ k = 3 ∨ k = 4 ∨ k = 5 ∨ k = 61) → H' k = H k) (g : H' 56 6 = H 56 6) : aTxt H' := by
  obtain ⟨h1, h2, h3⟩ := h
  refine ⟨?_, ?_, ?_⟩
  · unfold txtOk; rw [f 1 (by decide), f 2 (by decide)]; exact h1
  · unfold parsed; rw [f 1 (by decide), f 2 (by decide), f 3 (by decide), f 4 (by decide), f 5 (by decide)]; exact h2
  · unfold rText; rw [f 1 (by decide), f 2 (by decide), f 61 (by decide), g]; exact h3
theorem aRow.c {H H' : jH} (h : aRow H) (f : ∀ k, (k = 6 ∨ k = 63) → H' k = H k) : aRow H' := by
  refine ⟨?_, ?_⟩
  · unfold rowOk jRow; rw [f 6 (by decide)]; exact h.1
  · unfold rRow; rw [f 6 (by decide), f 63 (by decide)]; exact h.2
theorem aLid.c {H H' : jH} (h : aLid H) (f : H' 0 2 = H 0 2) (g : H' 56 11 = H 56 11) : aLid H' := by unfold aLid; rw [f, g]; exact h
theorem aTold.c {H H' : jH} (h : aTold H) (f : ∀ k, (k = 7 ∨ k = 8 ∨ k = 9 ∨ k = 10 ∨ k = 64) → H' k = H k) (g : H' 56 12 = H 56 12) : aTold H' := by
  refine ⟨?_, ?_⟩
  · unfold jTold; rw [f 7 (by decide), f 8 (by decide), f 9 (by decide), f 10 (by decide)]; exact h.1
  · unfold rTold; rw [f 7 (by decide), f 8 (by decide), f 9 (by decide), f 10 (by decide), f 64 (by decide), g]; exact h.2
theorem aHear.c {H H' : jH} (h : aHear H) (f : ∀ k, (k = 11 ∨ k = 12 ∨ k = 76) → H' k = H k) (e : H' 0 6 = H 0 6) (g : H' 56 26 = H 56 26) : aHear H' := by
  refine ⟨?_, ?_⟩
  · unfold hearOk; rw [f 11 (by decide), f 12 (by decide), e]; exact h.1
  · unfold rHeard; rw [f 11 (by decide), f 12 (by decide), f 76 (by decide), e, g]; exact h.2
theorem aSh.c {H H' : jH} (h : aSh H) (f : ∀ k, ((14 ≤ k ∧ k ≤ 21) ∨ k = 57 ∨ k = 58 ∨ k = 59) → H' k = H k) : aSh H' := by
  refine ⟨fun k l hs => ?_, ?_, fun s k l hs => ?_⟩
  · have hk : 14 ≤ k ∧ k ≤ 21 := by rcases hs with ⟨rfl, _⟩ | ⟨rfl, _⟩ | ⟨rfl, _⟩ | ⟨rfl, _⟩ <;> decide
    rw [f k (Or.inl hk)]
    exact h.1 k l hs
  · unfold mSh; rw [f 57 (by decide), f 58 (by decide)]; exact h.2.1
  · rw [f k (by unfold shI at hs; omega), f l (by unfold shI at hs; omega), f 57 (by decide), f 58 (by decide), f 59 (by decide)]
    exact h.2.2 s k l hs
theorem cache1 {H : jH} (h : H 0 10 = 1) : cacheOk H := ⟨Or.inr h, fun e => by omega⟩
theorem cache_c {H H' : jH} (h : cacheOk H) (f1 : ∀ k, k ≠ 0 → k < 14 → H' k = H k) (f2 : ∀ j, j = 2 ∨ j = 10 → H' 0 j = H 0 j) (f3 : H' 31 = H 31) (f4 : H' 32 = H 32) : cacheOk H' := by
  have hc : cfg H' = cfg H := by
    funext k i
    unfold cfg
    rw [f1 1 (by decide) (by decide), f1 3 (by decide) (by decide), f1 4 (by decide) (by decide), f1 5 (by decide) (by decide), f1 6 (by decide) (by decide), f1 7 (by decide) (by decide), f1 8 (by decide) (by decide), f1 9 (by decide) (by decide), f1 10 (by decide) (by decide), f2 2 (by decide)]
  unfold cacheOk
  rw [hc, f2 10 (by decide), f3, f4]
  exact h
/-- heard changes, the play does not -/
theorem cache_h {H H' : jH} (h : cacheOk H) (f1 : ∀ k, k ≠ 0 → k < 11 → H' k = H k) (f2 : ∀ j, j = 2 ∨ j = 10 → H' 0 j = H 0 j) (f3 : H' 31 = H 31) (f4 : H' 32 = H 32) : cacheOk H' := by
  have hc : cfg H' = cfg H := by
    funext k i
    unfold cfg
    rw [f1 1 (by decide) (by decide), f1 3 (by decide) (by decide), f1 4 (by decide) (by decide), f1 5 (by decide) (by decide), f1 6 (by decide) (by decide), f1 7 (by decide) (by decide), f1 8 (by decide) (by decide), f1 9 (by decide) (by decide), f1 10 (by decide) (by decide), f2 2 (by decide)]
  unfold cacheOk
  rw [hc, f2 10 (by decide), f3, f4]
  exact h
/-- the latest finding -/
theorem REL.lat {H : jH} (h : REL H) (v : Int) : REL (jU (jU H 0 8 v) 56 4 v) := by
  obtain ⟨a1, a2, a3, a4, a5, a6, a7, a8⟩ := h.parts
  refine REL.mk (a1.c (fun k hk => by rw [jU_o (by omega), jU_o (by omega)]) (by rw [jU_i (by decide), jU_k (by decide)])) (a2.c (fun k hk => by rw [jU_o (by omega), jU_o (by omega)])) (a3.c (by rw [jU_k (by decide), jU_i (by decide)]) (by rw [jU_i (by decide), jU_k (by decide)])) (a4.c (fun k hk => by rw [jU_o (by omega), jU_o (by omega)]) (by rw [jU_i (by decide), jU_k (by decide)])) (a5.c (fun k hk => by rw [jU_o (by omega), jU_o (by omega)]) (by rw [jU_k (by decide), jU_i (by decide)]) (by rw [jU_i (by decide), jU_k (by decide)])) ?_ (a7.c (fun k hk => by rw [jU_o (by omega), jU_o (by omega)])) (cache_c a8 (fun k h0 h1 => by rw [jU_o (by omega), jU_o (by omega)]) (fun j hj => by rw [jU_k (by decide), jU_i (by omega)]) (by rw [jU_o (by decide), jU_o (by decide)]) (by rw [jU_o (by decide), jU_o (by decide)]))
  unfold aLat
  rw [jU_s, jU_k (by decide), jU_s]
section S46
variable {E : jE} {H : jH}
/-- text changed on both sides -/
theorem REL.txt {H H1 : jH} (h : REL H) {n : Int} {H2 : jH} (f : ∀ k, k ≠ 0 → k ≠ 1 → k ≠ 2 → k ≠ 3 → k ≠ 4 → k ≠ 5 → H1 k = H k) (f0 : ∀ j, j ≠ 10 → H1 0 j = H 0 j) (f10 : H1 0 10 = 1) (f11 : H1 1 1 = n) (hn : 0 ≤ n ∧ n ≤ 35) (hp : parsed H1) (hb : ∀ q, 0 ≤ q → q < n → 0 ≤ H1 2 q ∧ H1 2 q < 256) (g : ∀ k, k ≠ 56 → k ≠ 61 → H2 k = H1 k) (g6 : H2 56 6 = n) (g56 : ∀ j, j ≠ 6 → H2 56 j = H1 56 j) (ht : ∀ q, 0 ≤ q → q < n → H2 61 q = H1 2 q) : REL H2 := by
  obtain ⟨a1, a2, a3, a4, a5, a6, a7, a8⟩ := h.parts
  have e56 : ∀ j, j ≠ 6 → H2 56 j = H 56 j := fun j hj => by rw [g56 j hj, f 56 (by decide) (by decide) (by decide) (by decide) (by decide) (by decide)]
  have e0 : ∀ j, j ≠ 10 → H2 0 j = H 0 j := fun j hj => by rw [g 0 (by decide) (by decide)]; exact f0 j hj
  have ek : ∀ k, k ≠ 0 → k ≠ 1 → k ≠ 2 → k ≠ 3 → k ≠ 4 → k ≠ 5 → k ≠ 56 → k ≠ 61 → H2 k = H k := fun k b0 b1 b2 b3 b4 b5 b6 b7 => by rw [g k b6 b7]; exact f k b0 b1 b2 b3 b4 b5
  refine REL.mk ⟨?_, ?_, ?_⟩ (a2.c (fun k hk => ek k (by omega) (by omega) (by omega) (by omega) (by omega) (by omega) (by omega) (by omega))) (a3.c (e0 2 (by decide)) (e56 11 (by decide))) (a4.c (fun k hk => ek k (by omega) (by omega) (by omega) (by omega) (by omega) (by omega) (by omega) (by omega)) (e56 12 (by decide))) (a5.c (fun k hk => ek k (by omega) (by omega) (by omega) (by omega) (by omega) (by omega) (by omega) (by omega)) (e0 6 (by decide)) (e56 26 (by decide))) (by unfold aLat; rw [e56 4 (by decide), e0 8 (by decide)]; exact a6) (a7.c (fun k hk => ek k (by omega) (by omega) (by omega) (by omega) (by omega) (by omega) (by omega) (by omega))) (cache1 (by rw [g 0 (by decide) (by decide)]; exact f10))
  · unfold txtOk
    rw [g 1 (by decide) (by decide), g 2 (by decide) (by decide), f11]
    exact ⟨hn, hb⟩
  · unfold parsed
    rw [g 1 (by decide) (by decide), g 2 (by decide) (by decide), g 3 (by decide) (by decide), g 4 (by decide) (by decide), g 5 (by decide) (by decide)]
    exact hp
  · unfold rText
    rw [g 1 (by decide) (by decide), g 2 (by decide) (by decide), f11]
    exact ⟨g6, ht⟩
theorem q_type {b : Int} (hb : -2147483648 ≤ b ∧ b ≤ 2147483647) (h : REL H) : jOk E mX4_type [jRF E 0, .int (jI b)] H (pI E mX5_type [jRF E 56, .int (jI b)]) := by
  have ht := h.1.1.1.1
  obtain ⟨c1, c2⟩ := h.1.2.1
  refine (s_type hb ht).moni (fun r H1 q => ?_)
  rcases q with ⟨q1, q2, rfl⟩ | ⟨q1, q2, q3, rfl⟩ | ⟨q1, q2, q3, q4, q5, q6, q7, q8, q9⟩
  · refine (m_type hb (by rw [c1]; exact ht.1)).moni (fun r2 H2 p => ?_)
    rcases p with ⟨p1, p2, rfl⟩ | ⟨p1, p2, p3, rfl⟩ | ⟨p1, p2, p3, p4⟩
    · exact ⟨by omega, h⟩
    · exact absurd p1 q1
    · exact absurd p1 q1
  · refine (m_type hb (by rw [c1]; exact ht.1)).moni (fun r2 H2 p => ?_)
    rcases p with ⟨p1, p2, rfl⟩ | ⟨p1, p2, p3, rfl⟩ | ⟨p1, p2, p3, p4⟩
    · exact absurd q1 p1
    · exact ⟨by omega, h⟩
    · omega
  · have e56 : H1 56 = H 56 := q4 56 (by decide) (by decide) (by decide) (by decide) (by decide) (by decide)
    have e61 : H1 61 = H 61 := q4 61 (by decide) (by decide) (by decide) (by decide) (by decide) (by decide)
    refine (m_type hb (by rw [e56, c1]; exact ht.1)).moni (fun r2 H2 p => ?_)
    rw [e56, c1] at p
    rcases p with ⟨p1, p2, rfl⟩ | ⟨p1, p2, p3, rfl⟩ | ⟨p1, p2, p3, p4⟩
    · exact absurd q1 p1
    · omega
    · refine ⟨by omega, h.txt (n := H 1 1 + 1) q4 q5 q6 q7 (by have := ht.1; omega) q9 (fun q x0 x1 => ?_) (fun k x y => by rw [p4, jU_o x, jU_o y]) (by rw [p4, jU_s]) (fun j x => by rw [p4, jU_i x, jU_k (by decide)]) (fun q x0 x1 => ?_)⟩
      · rw [q8]
        by_cases e : q = H 1 1
        · rw [e, jU_s]; exact q1
        · rw [jU_i e]; exact ht.2 q x0 (by omega)
      · rw [p4, jU_k (by decide), q8]
        by_cases e : q = H 1 1
        · rw [e, jU_s, jU_s]
        · rw [jU_i e, jU_i e, e61]; exact c2 q x0 (by omega)
theorem q_wipe (h : REL H) : jOk E mX4_wipe [jRF E 0] H (pI E mX5_wipe [jRF E 56]) := by
  have ht := h.1.1.1.1
  obtain ⟨c1, c2⟩ := h.1.2.1
  refine (s_wipe ht).moni (fun r H1 q => ?_)
  obtain ⟨q1, q2, q3, q4, q5, q6⟩ := q
  have e56 : H1 56 = H 56 := q2 56 (by decide) (by decide) (by decide) (by decide) (by decide)
  refine m_wipe.moni (fun r2 H2 p => ?_)
  obtain ⟨p1, p2⟩ := p
  rw [e56, c1] at p1
  exact ⟨by omega, h.txt (n := 0) (fun k a b c d e f => q2 k a b d e f) q3 q4 q5 (by omega) q6 (fun q x0 x1 => by omega) (fun k x y => by rw [p2, jU_o x]) (by rw [p2, jU_s]) (fun j x => by rw [p2, jU_i x]) (fun q x0 x1 => by omega)⟩
theorem q_undo (h : REL H) : jOk E mX4_undo [jRF E 0] H (pI E mX5_undo [jRF E 56]) := by
  have ht := h.1.1.1.1
  obtain ⟨c1, c2⟩ := h.1.2.1
  refine (s_undo ht).moni (fun r H1 q => ?_)
  rcases q with ⟨q1, q2, rfl⟩ | ⟨q0, q1, q2, q3, q4, q5, q6⟩
  · refine (m_undo (by rw [c1]; exact ht.1)).moni (fun r2 H2 p => ?_)
    rcases p with ⟨p1, p2, rfl⟩ | ⟨p1, p2, p3⟩
    · exact ⟨by omega, h⟩
    · omega
  · have e56 : H1 56 = H 56 := q2 56 (by decide) (by decide) (by decide) (by decide) (by decide)
    have e61 : H1 61 = H 61 := q2 61 (by decide) (by decide) (by decide) (by decide) (by decide)
    have e2 : H1 2 = H 2 := q2 2 (by decide) (by decide) (by decide) (by decide) (by decide)
    refine (m_undo (by rw [e56, c1]; exact ht.1)).moni (fun r2 H2 p => ?_)
    rw [e56, c1] at p
    rcases p with ⟨p1, p2, rfl⟩ | ⟨p1, p2, p3⟩
    · omega
    · exact ⟨by omega, h.txt (n := H 1 1 - 1) (fun k a b c d e f => q2 k a b d e f) q3 q4 q5 (by have := ht.1; omega) q6 (fun q x0 x1 => by rw [e2]; exact ht.2 q x0 (by omega)) (fun k x y => by rw [p3, jU_o x]) (by rw [p3, jU_s]) (fun j x => by rw [p3, jU_i x]) (fun q x0 x1 => by rw [p3, jU_k (by decide), e61, e2]; exact c2 q x0 (by omega))⟩
theorem row_swap {H H' : jH} (h : rowOk H 6) {a b : Int} (ha : 0 ≤ a ∧ a < 9) (hb : 0 ≤ b ∧ b < 9) (e : ∀ p, H' 6 p = if p = b then H 6 a else if p = a then H 6 b else H 6 p) : rowOk H' 6 := by
  obtain ⟨⟨h1, h2⟩, h3⟩ := h
  obtain ⟨s, hs⟩ : ∃ s : Int → Int, s = fun p => if p = b then a else if p = a then b else p := ⟨_, rfl⟩
  have es : ∀ p, H' 6 p = H 6 (s p) := fun p => by
    rw [e p, hs]
    by_cases q : p = b
    · simp only [if_pos q]
    · simp only [if_neg q]
      by_cases q2 : p = a
      · simp only [if_pos q2]
      · simp only [if_neg q2]
  have sr : ∀ p, 0 ≤ p → p < 9 → 0 ≤ s p ∧ s p < 9 := fun p p0 p1 => by
    rw [hs]
    dsimp only
    split
    · exact ha
    · split
      · exact hb
      · exact ⟨p0, p1⟩
  have ss : ∀ p, s (s p) = p := fun p => by
    rw [hs]
    dsimp only
    by_cases q : p = b
    · rw [if_pos q]
      by_cases q2 : a = b
      · rw [if_pos q2]; omega
      · rw [if_neg q2, if_pos rfl]; omega
    · rw [if_neg q]
      by_cases q2 : p = a
      · rw [if_pos q2, if_pos rfl]; omega
      · rw [if_neg q2, if_neg q, if_neg q2]
  refine ⟨⟨fun p p0 p1 => ?_, fun p q p0 p1 q0 q1 z => ?_⟩, fun c c0 c1 => ?_⟩
  · rw [es]; exact h1 _ (sr p p0 p1).1 (sr p p0 p1).2
  · rw [es, es] at z
    have := h2 _ _ (sr p p0 p1).1 (sr p p0 p1).2 (sr q q0 q1).1 (sr q q0 q1).2 z
    have := congrArg s this
    rw [ss, ss] at this
    exact this
  · obtain ⟨p, p0, p1, p2⟩ := h3 c c0 c1
    exact ⟨s p, (sr p p0 p1).1, (sr p p0 p1).2, by rw [es, ss]; exact p2⟩
theorem q_swap {a b : Int} (ha : -2147483648 ≤ a ∧ a ≤ 2147483647) (hb : -2147483648 ≤ b ∧ b ≤ 2147483647) (h : REL H) : jOk E mX4_swap [jRF E 0, .int (jI a), .int (jI b)] H (pI E mX5_swap [jRF E 56, .int (jI a), .int (jI b)]) := by
  obtain ⟨a1, a2, a3, a4, a5, a6, a7, a8⟩ := h.parts
  refine (s_swap ha hb).moni (fun r H1 q => ?_)
  refine (m_swap ha hb).moni (fun r2 H2 p => ?_)
  rcases q with ⟨q1, q2, rfl⟩ | ⟨q1, q2, q3, rfl⟩ | ⟨q1, q2, q3, q4⟩
  · rcases p with ⟨p1, p2, rfl⟩ | ⟨p1, p2, p3⟩
    · exact ⟨by omega, h⟩
    · exact absurd p1 q1
  · rcases p with ⟨p1, p2, rfl⟩ | ⟨p1, p2, p3⟩
    · exact absurd q1 p1
    · refine ⟨by omega, ?_⟩
      have e : H2 = H1 := by
        rw [p3, q2]
        funext k i
        unfold jU
        by_cases z : k = 63 ∧ i = b
        · rw [if_pos z, z.1, z.2]
        · rw [if_neg z, if_neg z]
      rw [e]; exact h
  · rcases p with ⟨p1, p2, rfl⟩ | ⟨p1, p2, p3⟩
    · exact absurd q1 p1
    · refine ⟨by omega, ?_⟩
      have e63 : H1 63 = H 63 := by rw [q4, jU_o (by decide), jU_o (by decide), jU_o (by decide)]
      have ek : ∀ k, k ≠ 0 → k ≠ 6 → k ≠ 63 → H2 k = H k := fun k x y z => by rw [p3, jU_o z, jU_o z, q4, jU_o x, jU_o y, jU_o y]
      have e0 : ∀ j, j ≠ 10 → H2 0 j = H 0 j := fun j x => by rw [p3, jU_k (by decide), jU_k (by decide), q4, jU_i x, jU_k (by decide), jU_k (by decide)]
      have e6 : ∀ x, H2 6 x = if x = b then H 6 a else if x = a then H 6 b else H 6 x := fun x => by
        rw [p3, jU_k (by decide), jU_k (by decide), q4, jU_k (by decide)]
        by_cases z : x = b
        · rw [if_pos z, z, jU_s]
        · rw [if_neg z, jU_i z]
          by_cases z2 : x = a
          · rw [if_pos z2, z2, jU_s]
          · rw [if_neg z2, jU_i z2]
      have e10 : H2 0 10 = 1 := by rw [p3, jU_k (by decide), jU_k (by decide), q4, jU_s]
      refine REL.mk (a1.c (fun k hk => ek k (by omega) (by omega) (by omega)) (by rw [ek 56 (by decide) (by decide) (by decide)])) ⟨row_swap a2.1 (by omega) (by omega) e6, fun x x0 x1 => ?_⟩ (a3.c (e0 2 (by decide)) (by rw [ek 56 (by decide) (by decide) (by decide)])) (a4.c (fun k hk => ek k (by omega) (by omega) (by omega)) (by rw [ek 56 (by decide) (by decide) (by decide)])) (a5.c (fun k hk => ek k (by omega) (by omega) (by omega)) (e0 6 (by decide)) (by rw [ek 56 (by decide) (by decide) (by decide)])) (by unfold aLat; rw [ek 56 (by decide) (by decide) (by decide), e0 8 (by decide)]; exact a6) (a7.c (fun k hk => ek k (by omega) (by omega) (by omega))) (cache1 e10)
      rw [e6, p3]
      by_cases z : x = b
      · rw [if_pos z, z, jU_s, e63]; exact a2.2 a (by omega) (by omega)
      · rw [if_neg z, jU_i z]
        by_cases z2 : x = a
        · rw [if_pos z2, z2, jU_s, e63]; exact a2.2 b (by omega) (by omega)
        · rw [if_neg z2, jU_i z2, e63]; exact a2.2 x x0 x1
theorem q_lids {a : Int} (ha : -2147483648 ≤ a ∧ a ≤ 2147483647) (h : REL H) : jOk E mX4_lids [jRF E 0, .int (jI a)] H (pI E mX5_lids [jRF E 56, .int (jI a)]) := by
  obtain ⟨a1, a2, a3, a4, a5, a6, a7, a8⟩ := h.parts
  refine (s_lids ha).moni (fun r H1 q => ?_)
  refine (m_lids ha).moni (fun r2 H2 p => ?_)
  rcases q with ⟨q1, q2, rfl⟩ | ⟨q1, q2, q3⟩
  · rcases p with ⟨p1, p2, rfl⟩ | ⟨p1, p2, p3⟩
    · exact ⟨by omega, h⟩
    · exact absurd p1 q1
  · rcases p with ⟨p1, p2, rfl⟩ | ⟨p1, p2, p3⟩
    · exact absurd q1 p1
    · have ek : ∀ k, k ≠ 0 → k ≠ 56 → H2 k = H k := fun k x y => by rw [p3, jU_o y, q3, jU_o x, jU_o x]
      have e0 : ∀ j, j ≠ 10 → j ≠ 2 → H2 0 j = H 0 j := fun j x y => by rw [p3, jU_k (by decide), q3, jU_i x, jU_i y]
      have e56 : ∀ j, j ≠ 11 → H2 56 j = H 56 j := fun j x => by rw [p3, jU_i x, q3, jU_k (by decide), jU_k (by decide)]
      refine ⟨?_, REL.mk (a1.c (fun k hk => ek k (by omega) (by omega)) (e56 6 (by decide))) (a2.c (fun k hk => ek k (by omega) (by omega))) ⟨?_, ?_⟩ (a4.c (fun k hk => ek k (by omega) (by omega)) (e56 12 (by decide))) (a5.c (fun k hk => ek k (by omega) (by omega)) (e0 6 (by decide) (by decide)) (e56 26 (by decide))) (by unfold aLat; rw [e56 4 (by decide), e0 8 (by decide) (by decide)]; exact a6) (a7.c (fun k hk => ek k (by omega) (by omega))) (cache1 (by rw [p3, jU_k (by decide), q3, jU_s]))⟩
      · rw [p2, q3, jU_k (by decide), jU_k (by decide), q2]; exact a3.2
      · rw [p3, jU_k (by decide), q3, jU_i (by decide), jU_s]; exact q1
      · rw [p3, jU_s, jU_k (by decide), q3, jU_i (by decide), jU_s]
/-- told changed on both sides -/
theorem REL.told {H H2 : jH} (h : REL H) (ek : ∀ k, k ≠ 0 → k ≠ 7 → k ≠ 8 → k ≠ 9 → k ≠ 10 → k ≠ 56 → k ≠ 64 → H2 k = H k) (e0 : ∀ j, j ≠ 10 → H2 0 j = H 0 j) (e56 : ∀ j, j ≠ 12 → H2 56 j = H 56 j) (hc : cacheOk H2) (ht : aTold H2) : REL H2 := by
  obtain ⟨a1, a2, a3, a4, a5, a6, a7, a8⟩ := h.parts
  exact REL.mk (a1.c (fun k hk => ek k (by omega) (by omega) (by omega) (by omega) (by omega) (by omega) (by omega)) (e56 6 (by decide))) (a2.c (fun k hk => ek k (by omega) (by omega) (by omega) (by omega) (by omega) (by omega) (by omega))) (a3.c (e0 2 (by decide)) (e56 11 (by decide))) ht (a5.c (fun k hk => ek k (by omega) (by omega) (by omega) (by omega) (by omega) (by omega) (by omega)) (e0 6 (by decide)) (e56 26 (by decide))) (by unfold aLat; rw [e56 4 (by decide), e0 8 (by decide)]; exact a6) (a7.c (fun k hk => ek k (by omega) (by omega) (by omega) (by omega) (by omega) (by omega) (by omega))) hc
theorem q_tell {a b c : Int} (ha : -2147483648 ≤ a ∧ a ≤ 2147483647) (hb : -2147483648 ≤ b ∧ b ≤ 2147483647) (hc : -2147483648 ≤ c ∧ c ≤ 2147483647) (h : REL H) : jOk E mX4_tell [jRF E 0, .int (jI a), .int (jI b), .int (jI c)] H (pI E mX5_tell [jRF E 56, .int (jI a), .int (jI b), .int (jI c)]) := by
  obtain ⟨a1, a2, a3, a4, a5, a6, a7, a8⟩ := h.parts
  have hn := a4.1.1
  have c4 := a4.2.1
  refine (s_tell ha hb hc hn).moni (fun r H1 q => ?_)
  have e12 : H1 56 = H 56 := by
    rcases q with ⟨q1, q2, rfl⟩ | ⟨q1, q2, q3, rfl⟩ | ⟨q1, q2, q3, q4⟩
    · rfl
    · rfl
    · rw [q4, jU_o (by decide), jU_o (by decide), jU_o (by decide), jU_o (by decide), jU_o (by decide)]
  refine (m_tell ha hb hc (by rw [e12, c4]; exact hn)).moni (fun r2 H2 p => ?_)
  rw [e12, c4] at p
  unfold may3 at p
  rcases q with ⟨q1, q2, rfl⟩ | ⟨q1, q2, q3, rfl⟩ | ⟨q1, q2, q3, q4⟩
  · rcases p with ⟨p1, p2, rfl⟩ | ⟨p1, p2, p3, rfl⟩ | ⟨p1, p2, p3, p4⟩
    · exact ⟨by omega, h⟩
    · exact absurd p1 q1
    · exact absurd p1 q1
  · rcases p with ⟨p1, p2, rfl⟩ | ⟨p1, p2, p3, rfl⟩ | ⟨p1, p2, p3, p4⟩
    · exact absurd q1 p1
    · exact ⟨by omega, h⟩
    · omega
  · rcases p with ⟨p1, p2, rfl⟩ | ⟨p1, p2, p3, rfl⟩ | ⟨p1, p2, p3, p4⟩
    · exact absurd q1 p1
    · omega
    · refine ⟨by omega, h.told (fun k x0 x7 x8 x9 x10 x56 x64 => by rw [p4, jU_o x56, jU_o x64, jU_o x64, jU_o x64, q4, jU_o x0, jU_o x7, jU_o x10, jU_o x9, jU_o x8]) (fun j x => by rw [p4, jU_k (by decide), jU_k (by decide), jU_k (by decide), jU_k (by decide), q4, jU_i x, jU_k (by decide), jU_k (by decide), jU_k (by decide), jU_k (by decide)]) (fun j x => by rw [p4, jU_i x, jU_k (by decide), jU_k (by decide), jU_k (by decide), e12]) (cache1 (by rw [p4, jU_k (by decide), jU_k (by decide), jU_k (by decide), jU_k (by decide), q4, jU_s])) ?_⟩
      have e73 : H2 7 3 = H 7 3 + 1 := by rw [p4, jU_k (by decide), jU_k (by decide), jU_k (by decide), jU_k (by decide), q4, jU_k (by decide), jU_s]
      have e8 : ∀ k, H2 8 k = if k = H 7 3 then a else H 8 k := fun k => by
        rw [p4, jU_k (by decide), jU_k (by decide), jU_k (by decide), jU_k (by decide), q4, jU_k (by decide), jU_k (by decide), jU_k (by decide), jU_k (by decide)]
        by_cases z : k = H 7 3
        · rw [if_pos z, z, jU_s]
        · rw [if_neg z, jU_i z]
      have e9 : ∀ k, H2 9 k = if k = H 7 3 then b else H 9 k := fun k => by
        rw [p4, jU_k (by decide), jU_k (by decide), jU_k (by decide), jU_k (by decide), q4, jU_k (by decide), jU_k (by decide), jU_k (by decide)]
        by_cases z : k = H 7 3
        · rw [if_pos z, z, jU_s]
        · rw [if_neg z, jU_i z, jU_k (by decide)]
      have e10 : ∀ k, H2 10 k = if k = H 7 3 then c else H 10 k := fun k => by
        rw [p4, jU_k (by decide), jU_k (by decide), jU_k (by decide), jU_k (by decide), q4, jU_k (by decide), jU_k (by decide)]
        by_cases z : k = H 7 3
        · rw [if_pos z, z, jU_s]
        · rw [if_neg z, jU_i z, jU_k (by decide), jU_k (by decide)]
      have e64 : H1 64 = H 64 := by rw [q4, jU_o (by decide), jU_o (by decide), jU_o (by decide), jU_o (by decide), jU_o (by decide)]
      refine ⟨⟨by omega, fun k k0 k1 => ?_⟩, by rw [e73, p4, jU_s], fun k k0 k1 => ?_⟩
      · rw [e8, e9, e10]
        by_cases z : k = H 7 3
        · rw [if_pos z, if_pos z, if_pos z]; omega
        · rw [if_neg z, if_neg z, if_neg z]; exact a4.1.2 k k0 (by omega)
      · rw [e8, e9, e10]
        by_cases z : k = H 7 3
        · subst z
          rw [if_pos rfl, if_pos rfl, if_pos rfl, p4]
          refine ⟨?_, ?_, ?_⟩
          · rw [jU_k (by decide), jU_i (by omega), jU_i (by omega), jU_s]
          · rw [jU_k (by decide), jU_i (by omega), jU_s]
          · rw [jU_k (by decide), jU_s]
        · obtain ⟨d1, d2, d3⟩ := a4.2.2 k k0 (by omega)
          rw [if_neg z, if_neg z, if_neg z, p4]
          refine ⟨?_, ?_, ?_⟩
          · rw [jU_k (by decide), jU_i (by omega), jU_i (by omega), jU_i (by omega), e64]; exact d1
          · rw [jU_k (by decide), jU_i (by omega), jU_i (by omega), jU_i (by omega), e64]; exact d2
          · rw [jU_k (by decide), jU_i (by omega), jU_i (by omega), jU_i (by omega), e64]; exact d3
theorem q_back (h : REL H) : jOk E mX4_back [jRF E 0] H (pI E mX5_back [jRF E 56]) := by
  obtain ⟨a1, a2, a3, a4, a5, a6, a7, a8⟩ := h.parts
  have hn := a4.1.1
  have c4 := a4.2.1
  refine (s_back hn).moni (fun r H1 q => ?_)
  have e12 : H1 56 = H 56 := by
    rcases q with ⟨q1, q2, rfl⟩ | ⟨q1, q2, q3⟩
    · rfl
    · rw [q3, jU_o (by decide), jU_o (by decide)]
  refine (m_back (by rw [e12, c4]; exact hn)).moni (fun r2 H2 p => ?_)
  rw [e12, c4] at p
  rcases q with ⟨q1, q2, rfl⟩ | ⟨q1, q2, q3⟩
  · rcases p with ⟨p1, p2, rfl⟩ | ⟨p1, p2, p3⟩
    · exact ⟨by omega, h⟩
    · omega
  · rcases p with ⟨p1, p2, rfl⟩ | ⟨p1, p2, p3⟩
    · omega
    · have ek : ∀ k, k ≠ 0 → k ≠ 7 → k ≠ 56 → H2 k = H k := fun k x y z => by rw [p3, jU_o z, q3, jU_o x, jU_o y]
      have e73 : H2 7 3 = H 7 3 - 1 := by rw [p3, jU_k (by decide), q3, jU_k (by decide), jU_s]
      refine ⟨by omega, h.told (fun k x0 x7 _ _ _ x56 _ => ek k x0 x7 x56) (fun j x => by rw [p3, jU_k (by decide), q3, jU_i x, jU_k (by decide)]) (fun j x => by rw [p3, jU_i x, e12]) (cache1 (by rw [p3, jU_k (by decide), q3, jU_s])) ⟨⟨by omega, fun k k0 k1 => ?_⟩, by rw [e73, p3, jU_s], fun k k0 k1 => ?_⟩⟩
      · rw [ek 8 (by decide) (by decide) (by decide), ek 9 (by decide) (by decide) (by decide), ek 10 (by decide) (by decide) (by decide)]; exact a4.1.2 k k0 (by omega)
      · rw [ek 8 (by decide) (by decide) (by decide), ek 9 (by decide) (by decide) (by decide), ek 10 (by decide) (by decide) (by decide), ek 64 (by decide) (by decide) (by decide)]; exact a4.2.2 k k0 (by omega)
/-- heard changed on both sides -/
theorem REL.hear {H H2 : jH} (h : REL H) (ek : ∀ k, k ≠ 0 → k ≠ 11 → k ≠ 12 → k ≠ 56 → k ≠ 76 → H2 k = H k) (e0 : ∀ j, j ≠ 6 → H2 0 j = H 0 j) (e56 : ∀ j, j ≠ 26 → H2 56 j = H 56 j) (ht : aHear H2) : REL H2 := by
  obtain ⟨a1, a2, a3, a4, a5, a6, a7, a8⟩ := h.parts
  exact REL.mk (a1.c (fun k hk => ek k (by omega) (by omega) (by omega) (by omega) (by omega)) (e56 6 (by decide))) (a2.c (fun k hk => ek k (by omega) (by omega) (by omega) (by omega) (by omega))) (a3.c (e0 2 (by decide)) (e56 11 (by decide))) (a4.c (fun k hk => ek k (by omega) (by omega) (by omega) (by omega) (by omega)) (e56 12 (by decide))) ht (by unfold aLat; rw [e56 4 (by decide), e0 8 (by decide)]; exact a6) (a7.c (fun k hk => ek k (by omega) (by omega) (by omega) (by omega) (by omega))) (cache_h a8 (fun k x y => ek k (by omega) (by omega) (by omega) (by omega) (by omega)) (fun j hj => e0 j (by omega)) (ek 31 (by decide) (by decide) (by decide) (by decide) (by decide)) (ek 32 (by decide) (by decide) (by decide) (by decide) (by decide)))
theorem q_heard {a b : Int} (ha : -2147483648 ≤ a ∧ a ≤ 2147483647) (hb : -2147483648 ≤ b ∧ b ≤ 2147483647) (h : REL H) : jOk E mX4_heard [jRF E 0, .int (jI a), .int (jI b)] H (pI E mX5_heard [jRF E 56, .int (jI a), .int (jI b)]) := by
  obtain ⟨a1, a2, a3, a4, a5, a6, a7, a8⟩ := h.parts
  have hn := a5.1.1
  have c4 := a5.2.1
  refine (s_heard ha hb hn).moni (fun r H1 q => ?_)
  have e12 : H1 56 = H 56 := by
    rcases q with ⟨q1, q2, rfl⟩ | ⟨q1, q2, q3, rfl⟩ | ⟨q1, q2, q3, q4⟩
    · rfl
    · rfl
    · rw [q4, jU_o (by decide), jU_o (by decide), jU_o (by decide)]
  refine (m_heard ha hb (by rw [e12, c4]; exact hn)).moni (fun r2 H2 p => ?_)
  rw [e12, c4] at p
  rcases q with ⟨q1, q2, rfl⟩ | ⟨q1, q2, q3, rfl⟩ | ⟨q1, q2, q3, q4⟩
  · rcases p with ⟨p1, p2, rfl⟩ | ⟨p1, p2, p3, rfl⟩ | ⟨p1, p2, p3, p4⟩
    · exact ⟨by omega, h⟩
    · exact absurd p1 q1
    · exact absurd p1 q1
  · rcases p with ⟨p1, p2, rfl⟩ | ⟨p1, p2, p3, rfl⟩ | ⟨p1, p2, p3, p4⟩
    · exact absurd q1 p1
    · exact ⟨by omega, h⟩
    · omega
  · rcases p with ⟨p1, p2, rfl⟩ | ⟨p1, p2, p3, rfl⟩ | ⟨p1, p2, p3, p4⟩
    · exact absurd q1 p1
    · omega
    · refine ⟨by omega, h.hear (fun k x0 x11 x12 x56 x76 => by rw [p4, jU_o x56, jU_o x76, jU_o x76, q4, jU_o x0, jU_o x12, jU_o x11]) (fun j x => by rw [p4, jU_k (by decide), jU_k (by decide), jU_k (by decide), q4, jU_i x, jU_k (by decide), jU_k (by decide)]) (fun j x => by rw [p4, jU_i x, jU_k (by decide), jU_k (by decide), e12]) ?_⟩
      have e6 : H2 0 6 = H 0 6 + 1 := by rw [p4, jU_k (by decide), jU_k (by decide), jU_k (by decide), q4, jU_s]
      have e11 : ∀ k, H2 11 k = if k = H 0 6 then a else H 11 k := fun k => by
        rw [p4, jU_k (by decide), jU_k (by decide), jU_k (by decide), q4, jU_k (by decide), jU_k (by decide)]
        by_cases z : k = H 0 6
        · rw [if_pos z, z, jU_s]
        · rw [if_neg z, jU_i z]
      have e12' : ∀ k, H2 12 k = if k = H 0 6 then b else H 12 k := fun k => by
        rw [p4, jU_k (by decide), jU_k (by decide), jU_k (by decide), q4, jU_k (by decide)]
        by_cases z : k = H 0 6
        · rw [if_pos z, z, jU_s]
        · rw [if_neg z, jU_i z, jU_k (by decide)]
      have e76 : H1 76 = H 76 := by rw [q4, jU_o (by decide), jU_o (by decide), jU_o (by decide)]
      refine ⟨⟨by omega, fun k k0 k1 => ?_⟩, by rw [p4, jU_s, ← p4]; omega, fun k k0 k1 => ?_⟩
      · rw [e11, e12']
        by_cases z : k = H 0 6
        · rw [if_pos z, if_pos z]; omega
        · rw [if_neg z, if_neg z]; exact a5.1.2 k k0 (by omega)
      · rw [e11, e12']
        by_cases z : k = H 0 6
        · subst z
          rw [if_pos rfl, if_pos rfl, p4]
          refine ⟨?_, ?_⟩
          · rw [jU_k (by decide), jU_i (by omega), jU_s]
          · rw [jU_k (by decide), jU_s]
        · obtain ⟨d1, d2⟩ := a5.2.2 k k0 (by omega)
          rw [if_neg z, if_neg z, p4]
          refine ⟨?_, ?_⟩
          · rw [jU_k (by decide), jU_i (by omega), jU_i (by omega), e76]; exact d1
          · rw [jU_k (by decide), jU_i (by omega), jU_i (by omega), e76]; exact d2
theorem q_forget (h : REL H) : jOk E mX4_forget [jRF E 0] H (pI E mX5_forget [jRF E 56]) := by
  obtain ⟨a1, a2, a3, a4, a5, a6, a7, a8⟩ := h.parts
  refine s_forget.moni (fun r H1 q => ?_)
  obtain ⟨q1, q2⟩ := q
  refine m_forget.moni (fun r2 H2 p => ?_)
  obtain ⟨p1, p2⟩ := p
  rw [q2, jU_k (by decide)] at p1
  have e6 : H2 0 6 = 0 := by rw [p2, jU_k (by decide), q2, jU_s]
  refine ⟨by rw [p1, q1]; exact a5.2.1, h.hear (fun k x0 x11 x12 x56 x76 => by rw [p2, jU_o x56, q2, jU_o x0]) (fun j x => by rw [p2, jU_k (by decide), q2, jU_i x]) (fun j x => by rw [p2, jU_i x, q2, jU_k (by decide)]) ⟨⟨by omega, fun k k0 k1 => by omega⟩, by rw [p2, jU_s, ← p2]; omega, fun k k0 k1 => by omega⟩⟩
end S46
