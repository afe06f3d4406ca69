/-! ===== class and reference side by side: copy, write, read ===== -/
section S48
variable {E : jE} {H : jH}
theorem q_copy {s i t j n : Int} (hs : -2147483648 ≤ s ∧ s ≤ 2147483647) (ht : -2147483648 ≤ t ∧ t ≤ 2147483647) (hi : -2147483648 ≤ i ∧ i ≤ 2147483647) (hj : -2147483648 ≤ j ∧ j ≤ 2147483647) (hn : -2147483648 ≤ n ∧ n ≤ 2147483647) (h : REL H) : jOk E mX4_copy [jRF E 0, .int (jI s), .int (jI i), .int (jI t), .int (jI j), .int (jI n)] H (pI E mX5_copy [jRF E 56, .int (jI s), .int (jI i), .int (jI t), .int (jI j), .int (jI n)]) := by
  have a7 := h.parts.2.2.2.2.2.2.1
  obtain ⟨k, l, hx, hki, hjs⟩ := sh_ex s
  obtain ⟨k2, l2, hx2, hki2, hjs2⟩ := sh_ex t
  refine (s_copy hx hx2 hs ht hi hj hn (a7.1 k l hjs).2.2 (a7.1 k2 l2 hjs2).2.2).moni (fun r H1 q => ?_)
  have e5 : H1 57 = H 57 ∧ H1 58 = H 58 ∧ H1 59 = H 59 := by
    have hkl : 14 ≤ k2 ∧ k2 ≤ 20 ∧ l2 = k2 + 1 := by unfold jSh at hjs2; omega
    rcases q with ⟨_, _, rfl⟩ | ⟨_, _, _, e⟩ | ⟨_, _, _, _, e⟩ | ⟨_, _, _, _, e⟩ | ⟨_, _, _, _, e⟩
    · exact ⟨rfl, rfl, rfl⟩
    · rw [e, jU_o (by decide), jU_o (by decide), jU_o (by decide)]; exact ⟨rfl, rfl, rfl⟩
    · rw [e, jU_o (by decide), jU_o (by decide), jU_o (by decide)]; exact ⟨rfl, rfl, rfl⟩
    · rw [e, jU_o (by decide), jU_o (by decide), jU_o (by decide)]; exact ⟨rfl, rfl, rfl⟩
    · rw [e, jCpy_o (by omega), jCpy_o (by omega), jCpy_o (by omega)]; exact ⟨rfl, rfl, rfl⟩
  obtain ⟨e57, e58, e59⟩ := e5
  refine (m_copy hs ht hi hj hn (by unfold mSh; rw [e57, e58]; exact a7.2.1)).moni (fun r2 H2 p => ?_)
  rw [e57, e58, e59] at p
  by_cases hok : 0 ≤ s ∧ s < 4 ∧ 0 ≤ t ∧ t < 4
  rotate_left
  · rcases q with ⟨q1, q2, rfl⟩ | ⟨q1, _⟩ | ⟨q1, _⟩ | ⟨q1, _⟩ | ⟨q1, _⟩
    · rcases p with ⟨p1, p2, rfl⟩ | ⟨p1, _⟩ | ⟨p1, _⟩ | ⟨p1, _⟩ | ⟨p1, _⟩
      · exact ⟨by omega, h⟩
      all_goals omega
    all_goals omega
  have his := hki ⟨hok.1, hok.2.1⟩
  have his2 := hki2 hok.2.2
  have hr := his.r
  have hr2 := his2.r
  obtain ⟨b1, b2, b3, b4⟩ := a7.at his
  obtain ⟨c1, c2, c3, c4⟩ := a7.at his2
  rcases q with ⟨q1, q2, q3⟩ | ⟨q1, q2, q3, q4⟩ | ⟨q1, q2, q3, q4, q5⟩ | ⟨q1, q2, q3, q4, q5⟩ | ⟨q1, q2, q3, q4, q5⟩
  · exact absurd hok q1
  · have hl : H 57 s < 0 ∨ H 57 t < 0 := by
      rcases q2 with z | z
      · left; rw [b4 z]; omega
      · right; rw [c4 z]; omega
    rcases p with ⟨p1, _⟩ | ⟨p1, p2, p3, p4⟩ | ⟨p1, p2, _⟩ | ⟨p1, p2, _⟩ | ⟨p1, p2, _⟩
    · exact absurd hok p1
    · exact ⟨by omega, by rw [p4, q4]; exact h.lat 1⟩
    all_goals omega
  · obtain ⟨d1, d2, d3⟩ := b3 q2.1
    obtain ⟨f1, f2, f3⟩ := c3 q2.2
    rw [d1, f1] at p
    rcases p with ⟨p1, _⟩ | ⟨p1, p2, p3, p4⟩ | ⟨p1, p2, p3, p4, p5⟩ | ⟨p1, p2, _⟩ | ⟨p1, p2, _⟩
    · exact absurd hok p1
    · omega
    · exact ⟨by omega, by rw [p5, q5]; exact h.lat 4⟩
    all_goals omega
  · obtain ⟨d1, d2, d3⟩ := b3 q2.1
    obtain ⟨f1, f2, f3⟩ := c3 q2.2.1
    rw [d1, f1, d2, f2] at p
    rcases p with ⟨p1, _⟩ | ⟨p1, p2, p3, p4⟩ | ⟨p1, p2, p3, p4, p5⟩ | ⟨p1, p2, p3, p4, p5⟩ | ⟨p1, p2, p3, _⟩
    · exact absurd hok p1
    · omega
    · omega
    · exact ⟨by omega, by rw [p5, q5]; exact h.lat 2⟩
    · exact absurd p3 q3
  · obtain ⟨d1, d2, d3⟩ := b3 q2.1
    obtain ⟨f1, f2, f3⟩ := c3 q2.2.1
    rw [d1, f1, d2, f2] at p
    rcases p with ⟨p1, _⟩ | ⟨p1, p2, p3, p4⟩ | ⟨p1, p2, p3, p4, p5⟩ | ⟨p1, p2, p3, p4, p5⟩ | ⟨p1, p2, p3, p4, p5, p6⟩
    · exact absurd hok p1
    · omega
    · omega
    · exact absurd q3 p3
    · have ek : ∀ q, q ≠ l2 → q ≠ 59 → q ≠ 60 → H2 q = H q := fun q x1 x2 x3 => by rw [p5 q x2 x3, q5, jCpy_o x1]
      have el : ∀ x, H2 l2 x = if j ≤ x ∧ x < j + n then H l (i + (x - j)) else H l2 x := fun x => by
        rw [p5 l2 (by omega) (by omega), q5]
        by_cases z : j ≤ x ∧ x < j + n
        · rw [if_pos z, jCpy_i z.1 z.2]
        · rw [if_neg z]
          unfold jCpy
          rw [if_neg (fun y => z y.2)]
      refine ⟨by omega, h.sheet (fun q x1 x2 x3 x4 x5 => ek q (by omega) x4 x5) (a7.upd his2 (fun q x1 x2 x3 x4 => ek q x2 (by omega) (by omega)) (fun x z => by rw [ek 57 (by omega) (by decide) (by decide)]) (fun x z => by rw [ek 58 (by omega) (by decide) (by decide)]) (fun x z => by rw [p6, if_neg (by omega)]) (by rw [ek k2 (by omega) (by omega) (by omega)]; exact c1) (by rw [ek 57 (by omega) (by decide) (by decide), ek 58 (by omega) (by decide) (by decide)]; exact c2) (fun z => ?_) (fun z => ?_))⟩
      · rw [ek k2 (by omega) (by omega) (by omega), ek 57 (by omega) (by decide) (by decide), ek 58 (by omega) (by decide) (by decide)]
        refine ⟨f1, f2, fun x x0 x1 => ?_⟩
        rw [p6, el]
        by_cases e : j ≤ x ∧ x < j + n
        · rw [if_pos (by omega), if_pos e, show 60 * s + i + (60 * t + x - (60 * t + j)) = 60 * s + (i + (x - j)) by omega]
          exact d3 _ (by omega) (by omega)
        · rw [if_neg (by omega), if_neg e]
          exact f3 x x0 x1
      · rw [ek k2 (by omega) (by omega) (by omega)] at z
        exact absurd q2.2.1 z
/-- the items of a sheet are nothing to what the reference finds -/
theorem RI.items {H H' : jH} {l : Nat} (h : RI H) (hl : l = 15 ∨ l = 17 ∨ l = 19 ∨ l = 21) (f : ∀ q, q ≠ l → H' q = H q) : RI H' := by
  obtain ⟨⟨⟨b1, b2, b3, b4, b5, b6, b7⟩, b8⟩, c1, c2, c3, c4, c5, c6, c7⟩ := h
  have t := aTxt.c (H' := H') ⟨b1, b2, c1⟩ (fun k hk => f k (by omega)) (by rw [f 56 (by omega)])
  have r := aRow.c (H' := H') ⟨b3, c2⟩ (fun k hk => f k (by omega))
  have d := aLid.c (H' := H') ⟨b4, c3⟩ (by rw [f 0 (by omega)]) (by rw [f 56 (by omega)])
  have o := aTold.c (H' := H') ⟨b5, c4⟩ (fun k hk => f k (by omega)) (by rw [f 56 (by omega)])
  have e := aHear.c (H' := H') ⟨b6, c5⟩ (fun k hk => f k (by omega)) (by rw [f 0 (by omega)]) (by rw [f 56 (by omega)])
  have s : shOk H' := fun k m hs => by
    rw [f k (by unfold jSh at hs; omega)]
    exact b7 k m hs
  exact ⟨⟨⟨t.1, t.2.1, r.1, d.1, o.1, e.1, s⟩, cache_c b8 (fun k x y => f k (by omega)) (fun j _ => by rw [f 0 (by omega)]) (f 31 (by omega)) (f 32 (by omega))⟩, t.2.2, r.2, d.2, o.2, e.2, by rw [f 56 (by omega), f 0 (by omega)]; exact c6, by unfold mSh; rw [f 57 (by omega), f 58 (by omega)]; exact c7⟩
theorem q_write {w s : Int} (hw : -2147483648 ≤ w ∧ w ≤ 2147483647) (hs : -2147483648 ≤ s ∧ s ≤ 2147483647) (h : REL H) : jOk E mX4_write [jRF E 0, .int (jI w), .int (jI s)] H (pI E mX5_write [jRF E 56, .int (jI w), .int (jI s)]) := by
  have a7 := h.parts.2.2.2.2.2.2.1
  obtain ⟨k, l, hx, hki, hj⟩ := sh_ex s
  have hl : l = 15 ∨ l = 17 ∨ l = 19 ∨ l = 21 := by unfold jSh at hj; omega
  refine (s_write hx hw hs h.1.1).moni (fun r H1 q => ?_)
  rcases q with ⟨q1, q2, rfl⟩ | ⟨q1, q2, q3, q4⟩ | ⟨q1, q2, q3, Ha, q4, q5⟩
  · refine (m_write hw hs h.1).moni (fun r2 H2 p => ?_)
    rcases p with ⟨p1, p2, rfl⟩ | ⟨p1, _⟩ | ⟨p1, _⟩
    · exact ⟨by omega, h⟩
    · exact absurd p1 q1
    · exact absurd p1 q1
  · have his := hki q1.2
    obtain ⟨b1, b2, b3, b4⟩ := a7.at his
    -- the reference finds the loss before it looks
    have e57 : H1 57 s = -1 := by rw [q4, jU_k (by decide)]; exact b4 q2
    subst q4
    refine (m_writeL hw hs q1 (by omega)).moni (fun r2 H2 p => ?_)
    exact ⟨by omega, by rw [p.2]; exact h.lat 1⟩
  · have his := hki q1.2
    have hr := his.r
    have hrel := q4.rel h
    have a7 := hrel.parts.2.2.2.2.2.2.1
    obtain ⟨b1, b2, b3, b4⟩ := a7.at his
    have ek1 : Ha k = H k := q4.1 k (by omega) (by omega)
    rw [ek1] at b1 b3 b4
    obtain ⟨d1, d2, d3⟩ := b3 q2
    have f1 : ∀ q, q ≠ l → H1 q = Ha q := fun q x => by rw [q5, jMp_o x]
    have hri := RI.items hrel.1 hl f1
    have hcfg : cfg H1 = cfg H := by
      rw [← q4.cfg]
      funext a c
      unfold cfg
      rw [f1 1 (by omega), f1 3 (by omega), f1 4 (by omega), f1 5 (by omega), f1 6 (by omega), f1 7 (by omega), f1 8 (by omega), f1 9 (by omega), f1 10 (by omega), f1 0 (by omega)]
    refine (m_write hw hs hri).moni (fun r2 H2 p => ?_)
    rw [f1 57 (by omega), f1 58 (by omega), hcfg, d1, d2] at p
    rcases p with ⟨p1, _⟩ | ⟨p1, p2, _⟩ | ⟨p1, p2, p3, Hb, p4, p5⟩
    · exact absurd q1 p1
    · omega
    · refine ⟨by omega, ?_⟩
      -- through the state between
      have hH2 : ∀ q, q ≠ 59 → H2 q = Hb q := fun q x => by rw [p5, jMr_o x]
      have a7b : aSh H2 := by
        have ec : ∀ q, q ≠ l → 14 ≤ q → q ≤ 21 → H2 q = Ha q := fun q x1 x2 x3 => by rw [hH2 q (by omega), p4.1 q (by omega)]; exact f1 q x1
        have e57 : H2 57 = Ha 57 := by rw [hH2 57 (by decide), p4.1 57 (by omega)]; exact f1 57 (by omega)
        have e58 : H2 58 = Ha 58 := by rw [hH2 58 (by decide), p4.1 58 (by omega)]; exact f1 58 (by omega)
        refine a7.upd his (fun q x1 x2 x3 x4 => ec q x2 x3 x4) (fun x z => by rw [e57]) (fun x z => by rw [e58]) (fun x z => by rw [p5, jMr_n (by omega), p4.1 59 (by omega), f1 59 (by omega)]) (by rw [ec k (by omega) (by omega) (by omega), ek1]; exact b1) (by rw [e57, e58]; exact b2) (fun z => ?_) (fun z => ?_)
        · rw [ec k (by omega) (by omega) (by omega), e57, e58, ek1]
          refine ⟨d1, d2, fun x x0 x1 => ?_⟩
          rw [p5, jMr_i (by omega) (by omega), jMr_k (by omega), p4.1 l (by omega), q5, jMp_i x0 x1, show 60 * s + x - 60 * s = x by omega]
        · rw [ec k (by omega) (by omega) (by omega), ek1] at z
          exact absurd q2 z
      -- all but the sheets is as the reference's question left it
      obtain ⟨a1, a2, a3, a4, a5, a6, _, a8⟩ := hrel.parts
      have hb := (p4.ri hri)
      obtain ⟨⟨⟨g1, g2, g3, g4, g5, g6, g7⟩, g8⟩, k1, k2, k3, k4, k5, k6, k7⟩ := hb
      exact REL.mk (aTxt.c ⟨g1, g2, k1⟩ (fun q hq => hH2 q (by omega)) (by rw [hH2 56 (by decide)])) (aRow.c ⟨g3, k2⟩ (fun q hq => hH2 q (by omega))) (aLid.c ⟨g4, k3⟩ (by rw [hH2 0 (by decide)]) (by rw [hH2 56 (by decide)])) (aTold.c ⟨g5, k4⟩ (fun q hq => hH2 q (by omega)) (by rw [hH2 56 (by decide)])) (aHear.c ⟨g6, k5⟩ (fun q hq => hH2 q (by omega)) (by rw [hH2 0 (by decide)]) (by rw [hH2 56 (by decide)])) (by unfold aLat; rw [hH2 56 (by decide), hH2 0 (by decide)]; exact k6) a7b (cache_c g8 (fun q x y => hH2 q (by omega)) (fun j _ => by rw [hH2 0 (by decide)]) (hH2 31 (by decide)) (hH2 32 (by decide)))
theorem tlN_e (H : jH) (l : Nat) (hl : l ≠ 0 ∧ l ≠ 7 ∧ l ≠ 8 ∧ l ≠ 9 ∧ l ≠ 10) : ∀ n : Nat, (∀ q, q < H 7 3 → tlN H l n 8 q = H 8 q ∧ tlN H l n 9 q = H 9 q ∧ tlN H l n 10 q = H 10 q) ∧ (∀ q : Int, 0 ≤ q → q < n → tlN H l n 8 (H 7 3 + q) = H l (3 * q) ∧ tlN H l n 9 (H 7 3 + q) = H l (3 * q + 1) ∧ tlN H l n 10 (H 7 3 + q) = H l (3 * q + 2)) ∧ (∀ j, j ≠ 10 → tlN H l n 0 j = H 0 j) ∧ (0 < n → tlN H l n 0 10 = 1)
  | 0 => ⟨fun q hq => ⟨rfl, rfl, rfl⟩, fun q q0 q1 => by omega, fun j _ => rfl, fun z => by omega⟩
  | n + 1 => by
    obtain ⟨h1, h2, h3, h4⟩ := tlN_e H l hl n
    refine ⟨fun q hq => ?_, fun q q0 q1 => ?_, fun j hj => ?_, fun _ => ?_⟩
    · obtain ⟨a1, a2, a3⟩ := h1 q hq
      rw [tlN]
      refine ⟨?_, ?_, ?_⟩
      · rw [jU_k (by decide), jU_k (by decide), jU_k (by decide), jU_k (by decide), jU_i (by omega)]; exact a1
      · rw [jU_k (by decide), jU_k (by decide), jU_k (by decide), jU_i (by omega), jU_k (by decide)]; exact a2
      · rw [jU_k (by decide), jU_k (by decide), jU_i (by omega), jU_k (by decide), jU_k (by decide)]; exact a3
    · rw [tlN]
      by_cases e : q = n
      · subst e
        refine ⟨?_, ?_, ?_⟩
        · rw [jU_k (by decide), jU_k (by decide), jU_k (by decide), jU_k (by decide), jU_s]
        · rw [jU_k (by decide), jU_k (by decide), jU_k (by decide), jU_s]
        · rw [jU_k (by decide), jU_k (by decide), jU_s]
      · obtain ⟨a1, a2, a3⟩ := h2 q q0 (by omega)
        refine ⟨?_, ?_, ?_⟩
        · rw [jU_k (by decide), jU_k (by decide), jU_k (by decide), jU_k (by decide), jU_i (by omega)]; exact a1
        · rw [jU_k (by decide), jU_k (by decide), jU_k (by decide), jU_i (by omega), jU_k (by decide)]; exact a2
        · rw [jU_k (by decide), jU_k (by decide), jU_i (by omega), jU_k (by decide), jU_k (by decide)]; exact a3
    · rw [tlN, jU_i hj, jU_k (by decide), jU_k (by decide), jU_k (by decide), jU_k (by decide)]; exact h3 j hj
    · rw [tlN, jU_s]
theorem q_read {s : Int} (hs : -2147483648 ≤ s ∧ s ≤ 2147483647) (h : REL H) : jOk E mX4_read [jRF E 0, .int (jI s)] H (pI E mX5_read [jRF E 56, .int (jI s)]) := by
  obtain ⟨a1, a2, a3, a4, a5, a6, a7, a8⟩ := h.parts
  obtain ⟨k, l, hx, hki, hj⟩ := sh_ex s
  have hl : l = 15 ∨ l = 17 ∨ l = 19 ∨ l = 21 := by unfold jSh at hj; omega
  refine (s_read hx hs h.1.1).moni (fun r H1 q => ?_)
  have e5 : H1 57 = H 57 ∧ H1 58 = H 58 ∧ H1 59 = H 59 ∧ H1 56 = H 56 ∧ H1 64 = H 64 := by
    rcases q with ⟨_, _, rfl⟩ | ⟨_, _, _, e⟩ | ⟨_, _, _, e⟩
    · exact ⟨rfl, rfl, rfl, rfl, rfl⟩
    · rw [e, jU_o (by decide), jU_o (by decide), jU_o (by decide), jU_o (by decide), jU_o (by decide)]; exact ⟨rfl, rfl, rfl, rfl, rfl⟩
    · rw [e, tl_o _ _ (by decide), tl_o _ _ (by decide), tl_o _ _ (by decide), tl_o _ _ (by decide), tl_o _ _ (by decide)]; exact ⟨rfl, rfl, rfl, rfl, rfl⟩
  obtain ⟨e57, e58, e59, e56, e64⟩ := e5
  have c12 := a4.2.1
  refine (m_read hs (by unfold mSh; rw [e57, e58]; exact a7.2.1) (by rw [e56, c12]; exact a4.1.1)).moni (fun r2 H2 p => ?_)
  rw [e57, e58, e59, e56, c12] at p
  rcases q with ⟨q1, q2, rfl⟩ | ⟨q1, q2, q3, q4⟩ | ⟨q1, q2, q3, q4⟩
  · rcases p with ⟨p1, p2, rfl⟩ | ⟨p1, _⟩ | ⟨p1, _⟩
    · exact ⟨by omega, h⟩
    · exact absurd p1 q1
    · exact absurd p1 q1
  · obtain ⟨b1, b2, b3, b4⟩ := a7.at (hki q1)
    rw [b4 q2] at p
    rcases p with ⟨p1, _⟩ | ⟨p1, p2, p3, p4⟩ | ⟨p1, p2, _⟩
    · exact absurd q1 p1
    · exact ⟨by omega, by rw [p4, q4]; exact h.lat 1⟩
    · omega
  · obtain ⟨b1, b2, b3, b4⟩ := a7.at (hki q1)
    obtain ⟨d1, d2, d3⟩ := b3 q2
    rw [d1, d2] at p
    rcases p with ⟨p1, _⟩ | ⟨p1, p2, _⟩ | ⟨p1, p2, p3, p4⟩
    · exact absurd q1 p1
    · omega
    · have er : r2 = r := isRd_one (fun x x0 x1 => d3 x x0 x1) p3 q3
      refine ⟨er, ?_⟩
      subst er
      obtain ⟨w1, w2, w3⟩ := q3
      obtain ⟨f1, f2, f3, f4, f5⟩ := p4
      rw [e56, c12] at f3 f4 f5
      rw [e64] at f4
      rw [e59] at f5
      have hl0 : l ≠ 0 ∧ l ≠ 7 ∧ l ≠ 8 ∧ l ≠ 9 ∧ l ≠ 10 := by omega
      obtain ⟨t1, t2, t3, t4⟩ := tlN_e H l hl0 r2.toNat
      have g : ∀ q, q ≠ 56 → q ≠ 64 → H2 q = tl H l r2 q := fun q x1 x2 => by rw [f1 q x2 x1, q4]
      have hle : H 7 3 + r2 ≤ 24 := by
        by_cases e : r2 = 0
        · have := a4.1.1; omega
        · have := (w2 (r2 - 1) (by omega) (by omega)).2.2; omega
      have e73 : H2 7 3 = H 7 3 + r2 := by rw [g 7 (by decide) (by decide), tl_7 H l w1]
      refine h.told (fun q x0 x7 x8 x9 x10 x56 x64 => by rw [g q x56 x64, tl_o _ _ ⟨x0, x7, x8, x9, x10⟩]) (fun j x => by rw [g 0 (by decide) (by decide)]; exact t3 j x) (fun j x => by rw [f2 j x, e56]) ?_ ⟨⟨by have := a4.1.1; omega, fun x x0 x1 => ?_⟩, by rw [f3, e73], fun x x0 x1 => ?_⟩
      · by_cases e : r2 = 0
        · have e0 : tl H l r2 = H := by rw [e]; rfl
          rw [e0] at g
          exact cache_c a8 (fun q x y => g q (by omega) (by omega)) (fun j _ => by rw [g 0 (by decide) (by decide)]) (g 31 (by decide) (by decide)) (g 32 (by decide) (by decide))
        · exact cache1 (by rw [g 0 (by decide) (by decide)]; exact t4 (by omega))
      · rw [g 8 (by decide) (by decide), g 9 (by decide) (by decide), g 10 (by decide) (by decide)]
        by_cases e : x < H 7 3
        · obtain ⟨u1, u2, u3⟩ := t1 x e
          have := a4.1.2 x x0 e
          unfold tl
          rw [u1, u2, u3]
          exact this
        · obtain ⟨u1, u2, u3⟩ := t2 (x - H 7 3) (by omega) (by omega)
          rw [show H 7 3 + (x - H 7 3) = x by omega] at u1 u2 u3
          have := (w2 (x - H 7 3) (by omega) (by omega)).2.1
          unfold may3 at this
          unfold tl
          rw [u1, u2, u3]
          omega
      · rw [g 8 (by decide) (by decide), g 9 (by decide) (by decide), g 10 (by decide) (by decide)]
        by_cases e : x < H 7 3
        · obtain ⟨u1, u2, u3⟩ := t1 x e
          obtain ⟨v1, v2, v3⟩ := a4.2.2 x x0 e
          unfold tl
          rw [u1, u2, u3, f4 _ (by omega), f4 _ (by omega), f4 _ (by omega)]
          exact ⟨v1, v2, v3⟩
        · obtain ⟨u1, u2, u3⟩ := t2 (x - H 7 3) (by omega) (by omega)
          obtain ⟨v1, v2, v3⟩ := f5 (x - H 7 3) (by omega) (by omega)
          rw [show H 7 3 + (x - H 7 3) = x by omega] at u1 u2 u3 v1 v2 v3
          have hz := (w2 (x - H 7 3) (by omega) (by omega)).1
          unfold tl
          rw [u1, u2, u3, v1, v2, v3]
          refine ⟨?_, ?_, ?_⟩
          · exact d3 _ (by omega) (by omega)
          · rw [show 60 * s + 3 * (x - H 7 3) + 1 = 60 * s + (3 * (x - H 7 3) + 1) by omega]; exact d3 _ (by omega) (by omega)
          · rw [show 60 * s + 3 * (x - H 7 3) + 2 = 60 * s + (3 * (x - H 7 3) + 2) by omega]; exact d3 _ (by omega) (by omega)
end S48
